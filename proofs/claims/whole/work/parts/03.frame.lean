/-! The frame. A world: the addresses L, the shape Sh of each (an object of a class with its references; an array of ints, booleans or longs; an array of objects), the ints M (fields and cells), the longs J. EE: from this frame the method comes to its end with Post. Cn: the contract of a method at a world. -/
abbrev Shp : Type := (Nat × (Nat → Option Nat)) ⊕ ((Nat × Nat) ⊕ (Nat × (Nat → Option Nat)))
abbrev Mem : Type := Nat → Nat → Int32
abbrev Mej : Type := Nat → Nat → Int64
abbrev LV : Type := List (Nat × Value)
abbrev MI : Type := MethodName × ByteArray × Nat × Option FieldType
abbrev PST : Type := Option Value → List Nat → (Nat → Shp) → Mem → Mej → Prop
def fr_nf (ci : Nat) : Nat := match ci with
  | 0 => 13
  | 1 => 6
  | 2 => 4
  | 3 => 14
  | _ => 36
def fr_isR (ci k : Nat) : Bool := match ci with
  | 0 => k == 0
  | 1 => decide (k < 5)
  | 2 => decide (k < 3)
  | 3 => decide (k < 7)
  | _ => (decide (2 ≤ k) && decide (k ≤ 15)) || (k == 20 || (k == 21 || (k == 27 || (k == 28 || (k == 30 || (k == 31 || (k == 33 || k == 35)))))))
def fr_F (ci : Nat) (rf : Nat → Option Nat) (g : Nat → Int32) : List Value := (List.range (fr_nf ci)).map (fun k => if fr_isR ci k = true then va_rf (rf k) else .int (g k))
theorem fr_F_len (ci : Nat) (rf : Nat → Option Nat) (g : Nat → Int32) : (fr_F ci rf g).length = fr_nf ci := by simp [fr_F]
theorem fr_F_get {ci k : Nat} (rf : Nat → Option Nat) (g : Nat → Int32) (h : k < fr_nf ci) : (fr_F ci rf g)[k]? = some (if fr_isR ci k = true then va_rf (rf k) else .int (g k)) := by simp [fr_F, h]
theorem fr_F_seti {ci k : Nat} (rf : Nat → Option Nat) (g : Nat → Int32) (v : Int32) (h : fr_isR ci k = false) : (fr_F ci rf g).set k (.int v) = fr_F ci rf (upd g k v) := by
  apply List.ext_getElem?
  intro j
  by_cases hj : j < fr_nf ci
  · rw [fr_F_get _ _ hj]
    by_cases hk : j = k
    · subst hk
      rw [List.getElem?_set_self (by rw [fr_F_len]; exact hj)]
      simp [h, upd]
    · rw [List.getElem?_set_ne (Ne.symm hk), fr_F_get _ _ hj]
      simp [upd, hk]
  · rw [List.getElem?_eq_none (by rw [List.length_set, fr_F_len]; omega), List.getElem?_eq_none (by rw [fr_F_len]; omega)]
theorem fr_F_setr {ci k : Nat} (rf : Nat → Option Nat) (g : Nat → Int32) (v : Option Nat) (h : fr_isR ci k = true) : (fr_F ci rf g).set k (va_rf v) = fr_F ci (va_up rf k v) g := by
  apply List.ext_getElem?
  intro j
  by_cases hj : j < fr_nf ci
  · rw [fr_F_get _ _ hj]
    by_cases hk : j = k
    · subst hk
      rw [List.getElem?_set_self (by rw [fr_F_len]; exact hj)]
      simp [h, va_up]
    · rw [List.getElem?_set_ne (Ne.symm hk), fr_F_get _ _ hj]
      simp [va_up, hk]
  · rw [List.getElem?_eq_none (by rw [List.length_set, fr_F_len]; omega), List.getElem?_eq_none (by rw [fr_F_len]; omega)]
def fr_E (cy : Nat → ClassId) (Sh : Nat → Shp) (M : Mem) (J : Mej) (a : Nat) : va_E := match Sh a with
  | .inl o => .inr (o.1, fr_F o.1 o.2 (M a))
  | .inr (.inl o) => if o.1 = 2 then .inl (cy 2, o.2, .inr (.inl (J a))) else .inl (cy o.1, o.2, .inl (M a))
  | .inr (.inr o) => .inl (cy 3, o.1, .inr (.inr (.inr (.inr o.2))))
def sM (M : Mem) (a k : Nat) (v : Int32) : Mem := va_up M a (upd (M a) k v)
def sJ (J : Mej) (a k : Nat) (v : Int64) : Mej := va_up J a (vp_updL (J a) k v)
def sR (Sh : Nat → Shp) (a : Nat) (x : Shp) : Nat → Shp := va_up Sh a x
theorem sM_at (M : Mem) (a k : Nat) (v : Int32) (b j : Nat) : sM M a k v b j = if b = a ∧ j = k then v else M b j := by
  by_cases h : b = a
  · subst h
    by_cases h2 : j = k <;> simp [sM, va_up, upd, h2]
  · simp [sM, va_up, h]
theorem sM_eq (M : Mem) (a k : Nat) (v : Int32) : sM M a k v a k = v := by simp [sM_at]
theorem sM_ne {M : Mem} {a k : Nat} {v : Int32} {b j : Nat} (h : b ≠ a ∨ j ≠ k) : sM M a k v b j = M b j := by
  rw [sM_at, if_neg]
  intro q
  rcases h with h | h
  · exact h q.1
  · exact h q.2
theorem sJ_at (J : Mej) (a k : Nat) (v : Int64) (b j : Nat) : sJ J a k v b j = if b = a ∧ j = k then v else J b j := by
  by_cases h : b = a
  · subst h
    by_cases h2 : j = k <;> simp [sJ, va_up, vp_updL, h2]
  · simp [sJ, va_up, h]
theorem fr_E_obj {cy : Nat → ClassId} {Sh : Nat → Shp} {M : Mem} {J : Mej} {a ci : Nat} {rf : Nat → Option Nat} (h : Sh a = .inl (ci, rf)) : fr_E cy Sh M J a = .inr (ci, fr_F ci rf (M a)) := by simp [fr_E, h]
theorem fr_E_i {cy : Nat → ClassId} {Sh : Nat → Shp} {M : Mem} {J : Mej} {a kd n : Nat} (h : Sh a = .inr (.inl (kd, n))) (h2 : kd ≠ 2) : fr_E cy Sh M J a = .inl (cy kd, n, .inl (M a)) := by simp [fr_E, h, h2]
theorem fr_E_j {cy : Nat → ClassId} {Sh : Nat → Shp} {M : Mem} {J : Mej} {a n : Nat} (h : Sh a = .inr (.inl (2, n))) : fr_E cy Sh M J a = .inl (cy 2, n, .inr (.inl (J a))) := by simp [fr_E, h]
theorem fr_E_a {cy : Nat → ClassId} {Sh : Nat → Shp} {M : Mem} {J : Mej} {a n : Nat} {rf : Nat → Option Nat} (h : Sh a = .inr (.inr (n, rf))) : fr_E cy Sh M J a = .inl (cy 3, n, .inr (.inr (.inr (.inr rf)))) := by simp [fr_E, h]
theorem fr_U_obj {cy : Nat → ClassId} {Sh : Nat → Shp} {M : Mem} {J : Mej} {a ci k : Nat} {rf : Nat → Option Nat} {v : Int32} (h : Sh a = .inl (ci, rf)) (h2 : fr_isR ci k = false) : va_up (fr_E cy Sh M J) a (.inr (ci, (fr_F ci rf (M a)).set k (.int v))) = fr_E cy Sh (sM M a k v) J := by
  funext b
  by_cases hb : b = a
  · subst hb
    rw [va_up_self, fr_E_obj h, fr_F_seti _ _ _ h2]
    simp [sM, va_up]
  · rw [va_up_ne _ _ hb]
    simp [fr_E, sM, va_up, hb]
theorem fr_U_ref {cy : Nat → ClassId} {Sh : Nat → Shp} {M : Mem} {J : Mej} {a ci k : Nat} {rf : Nat → Option Nat} {v : Option Nat} (h : Sh a = .inl (ci, rf)) (h2 : fr_isR ci k = true) : va_up (fr_E cy Sh M J) a (.inr (ci, (fr_F ci rf (M a)).set k (va_rf v))) = fr_E cy (sR Sh a (.inl (ci, va_up rf k v))) M J := by
  funext b
  by_cases hb : b = a
  · subst hb
    rw [va_up_self, fr_E_obj (rf := va_up rf k v) (ci := ci) (by simp [sR, va_up]), fr_F_setr _ _ _ h2]
  · rw [va_up_ne _ _ hb]
    simp [fr_E, sR, va_up, hb]
theorem fr_U_i {cy : Nat → ClassId} {Sh : Nat → Shp} {M : Mem} {J : Mej} {a kd n k : Nat} {v : Int32} (h : Sh a = .inr (.inl (kd, n))) (h2 : kd ≠ 2) : va_up (fr_E cy Sh M J) a (.inl (cy kd, n, .inl (upd (M a) k v))) = fr_E cy Sh (sM M a k v) J := by
  funext b
  by_cases hb : b = a
  · subst hb
    rw [va_up_self, fr_E_i h h2]
    simp [sM, va_up]
  · rw [va_up_ne _ _ hb]
    simp [fr_E, sM, va_up, hb]
theorem fr_U_j {cy : Nat → ClassId} {Sh : Nat → Shp} {M : Mem} {J : Mej} {a n k : Nat} {v : Int64} (h : Sh a = .inr (.inl (2, n))) : va_up (fr_E cy Sh M J) a (.inl (cy 2, n, .inr (.inl (vp_updL (J a) k v)))) = fr_E cy Sh M (sJ J a k v) := by
  funext b
  by_cases hb : b = a
  · subst hb
    rw [va_up_self, fr_E_j h]
    simp [sJ, va_up]
  · rw [va_up_ne _ _ hb]
    simp [fr_E, sJ, va_up, hb]
theorem fr_U_a {cy : Nat → ClassId} {Sh : Nat → Shp} {M : Mem} {J : Mej} {a n k : Nat} {rf : Nat → Option Nat} {v : Option Nat} (h : Sh a = .inr (.inr (n, rf))) : va_up (fr_E cy Sh M J) a (.inl (cy 3, n, .inr (.inr (.inr (.inr (va_up rf k v)))))) = fr_E cy (sR Sh a (.inr (.inr (n, va_up rf k v)))) M J := by
  funext b
  by_cases hb : b = a
  · subst hb
    rw [va_up_self, fr_E_a (n := n) (rf := va_up rf k v) (by simp [sR, va_up])]
  · rw [va_up_ne _ _ hb]
    simp [fr_E, sR, va_up, hb]
/-- a method's words: its code, and all good words of the tables -/
def lwg : List Cond := lw_tbl.filter goodWord
def fr_ws (mi : MI) : List Cond := .code mi.1 mi.2.1 mi.2.2.1 mi.2.2.2 :: lwg
theorem lwg_of {w : Cond} (h : w ∈ lw_tbl) (g : goodWord w = true) : w ∈ lwg := List.mem_filter.mpr ⟨h, g⟩
theorem lwg_in {w : Cond} (h : w ∈ lwg) : w ∈ lw_tbl := (List.mem_filter.mp h).1
theorem lwg_good {w : Cond} (h : w ∈ lwg) : goodWord w = true := (List.mem_filter.mp h).2
theorem lwg_ws {w : Cond} (mi : MI) (h : w ∈ lwg) : w ∈ fr_ws mi := List.mem_cons_of_mem _ h
theorem fr_good {mi mj : MI} (h : Cond.code mj.1 mj.2.1 mj.2.2.1 mj.2.2.2 ∈ lwg) : GoodIn (fr_ws mi) (fr_ws mj) := by
  intro w hw
  have h2 : w ∈ lwg := by
    rcases List.mem_cons.mp hw with e | e
    · rw [e]; exact h
    · exact e
  exact ⟨lwg_ws mi h2, good_of_word (lwg_good h2)⟩
def fr_rm (d mc ms : Nat) : Room := { frames := d, cells := mc, slots := ms, locals := 100 * d }
abbrev NF : Type := String × Nat × String × String × String × String
def fr_nF : List NF := [("HomeRings", 155, "HomeRings$Household", "ranks", "[I", "HomeRings"), ("HomeRings", 97, "HomeRings$Household", "wishCount", "I", "HomeRings"), ("HomeRings", 227, "HomeRings$Household", "persons", "I", "HomeRings"), ("HomeRings", 230, "HomeRings$Household", "pet", "Z", "HomeRings"), ("HomeRings", 114, "HomeRings$Household", "present", "Z", "HomeRings"), ("HomeRings", 77, "HomeRings$Household", "freeFrom", "I", "HomeRings"), ("HomeRings", 80, "HomeRings$Household", "freeTo", "I", "HomeRings"), ("HomeRings", 83, "HomeRings$Household", "tripFrom", "I", "HomeRings"), ("HomeRings", 86, "HomeRings$Household", "tripTo", "I", "HomeRings"), ("HomeRings", 143, "HomeRings$Household", "points", "I", "HomeRings")]
def fr_nM : List (String × Nat × MethodName × String) := [("HomeRings", 37, ⟨"HomeRings$Ways", "<init>", "()V"⟩, "HomeRings"), ("HomeRings", 65, ⟨"HomeRings$Household", "<init>", "()V"⟩, "HomeRings")]
abbrev fr_cF (q : NF) : Cond := .fieldLinkNest q.1 q.2.1 q.2.2.1 q.2.2.2.1 q.2.2.2.2.1 q.2.2.2.2.2
abbrev fr_cM (q : String × Nat × MethodName × String) : Cond := .methodLinkNest q.1 q.2.1 q.2.2.1 q.2.2.2
def fr_NW (s : State) : Prop := (∀ q ∈ fr_nF, va_Nw (fr_cF q) s) ∧ (∀ q ∈ fr_nM, va_Nw (fr_cM q) s) ∧ va_AO RX0 s
theorem fr_NW.warm {s U : State} (hW : s.WarmedH U.vm) (h : fr_NW s) : fr_NW U := ⟨fun q hq => va_Nw.warmF hW (h.1 q hq), fun q hq => va_Nw.warmM hW (h.2.1 q hq), h.2.2.moved hW.alike⟩
theorem fr_NW.same {s U : State} (hv : s.vm = U.vm) (h : fr_NW s) : fr_NW U := ⟨fun q hq => va_Nw.same rfl hv (h.1 q hq), fun q hq => va_Nw.same rfl hv (h.2.1 q hq), h.2.2.moved (by rw [← hv]; exact Vm.Alike.refl s.vm)⟩
def fr_T (cy : Nat → ClassId) : List (ClassId × FieldType) := [(cy 0, .int), (cy 1, .boolean), (cy 2, .long), (cy 3, .object "HomeRings$Household")]
def fr_Pc (D : va_G) (cy : Nat → ClassId) (args : List Value) (L : List Nat) (Sh : Nat → Shp) (M : Mem) (J : Mej) (sz : Nat) : Array Value → State → Prop := va_Pc args (fun U => U.heap.size = sz ∧ va_P D vwCl (va_pl L (fr_E cy Sh M J)) U.heap ∧ va_K D vwCl (fr_T cy) U ∧ va_D (fun _ => True) (va_pl L (fr_E cy Sh M J)) ∧ fr_NW U)
def fr_Q (D : va_G) (cy : Nat → ClassId) (Post : PST) (A : Nat → Prop) : Array Value → State → Outcome → State → Prop := fun _ st oc t => (∃ (r : Option Value) (L : List Nat) (Sh : Nat → Shp) (M : Mem) (J : Mej), oc = .returned r ∧ Post r L Sh M J ∧ va_P D vwCl (va_pl L (fr_E cy Sh M J)) t.heap ∧ va_K D vwCl (fr_T cy) t ∧ va_D A (va_pl L (fr_E cy Sh M J))) ∧ va_F A st t
/-- the contract of a method at a world -/
def Cn (l : Launch) (D : va_G) (cy : Nat → ClassId) (d mc ms : Nat) (mi : MI) (args : List Value) (L : List Nat) (Sh : Nat → Shp) (M : Mem) (J : Mej) (Post : PST) : Prop :=
  ∀ sz, Met l mi.1 (fr_ws mi) (fr_rm d mc ms) (fr_Pc D cy args L Sh M J sz) (fr_Q D cy Post (va_A (va_pl L (fr_E cy Sh M J)) sz)) mc ms (va_A (va_pl L (fr_E cy Sh M J)) sz)
/-- what holds all along a method -/
def fr_X (D : va_G) (cy : Nat → ClassId) (mi : MI) (A : Nat → Prop) (p : Program) (s : State) (m : MethodId) (args : Array Value) (meth : Method) (c : Code) : Prop :=
  p.tables.exec = Jvm.exec ∧ c.code = mi.2.1 ∧ meth.sig.returnType = mi.2.2.2 ∧ c.maxLocals = mi.2.2.1 ∧ (∀ w ∈ fr_ws mi, w.before args s = true) ∧ s.vm.findClass mi.1.cls = some m.cls ∧ meth.locks = false ∧ meth.name = mi.1.name ∧ va_K D vwCl (fr_T cy) s ∧ fr_NW s ∧ ∀ q, s.heap.size ≤ q → A q
def EE (l : Launch) (D : va_G) (cy : Nat → ClassId) (d mc ms : Nat) (mi : MI) (A : Nat → Prop) (Post : PST) (cells slots pc : Nat) (lv : LV) (st : List Value) (L : List Nat) (Sh : Nat → Shp) (M : Mem) (J : Mej) : Prop :=
  ∀ (p : Program) (e : Env) (s : State) (m : MethodId) (args : Array Value) (below : List Frame) (meth : Method) (c : Code) (H : Heap) (locs : List Loc) (ls : Array Slot), fr_X D cy mi A p s m args meth c → va_P D vwCl (va_pl L (fr_E cy Sh M J)) H → va_D A (va_pl L (fr_E cy Sh M J)) → va_S A s.heap H locs → lv_has ls mi.2.2.1 lv →
    W p l e (fr_rm d mc ms) s m args below meth c H locs cells slots (MQ below (fr_Q D cy Post A) args s mc ms A) (F0 m pc ls st)
theorem Met.ofWF {l : Launch} {y : MethodName} {ws ws' : List Cond} {rm : Room} {Pc : Array Value → State → Prop} {Qc : Array Value → State → Outcome → State → Prop} {mc ms : Nat} {free : Addr → Prop} {cc : ByteArray} {maxL : Nat} {ret : Option FieldType}
    (hy : plainFor y = true) (hw : ws = Cond.code y cc maxL ret :: ws')
    (body : ∀ p e s m args below meth c s₁, BodyLoose p l y (headSpec ws rm) cc maxL ret e s m args below meth c s₁ → c.maxLocals = maxL → Pc args s →
      W p l e (headSpec ws rm).room s m args below meth c s.heap [] 0 0 (MQ below Qc args s mc ms free) (entryFrame m args maxL)) : Met l y ws rm Pc Qc mc ms free := by
  refine MetFree.of_bodySF (code := cc) (maxLocals := maxL) (ret := ret) hy ?_ ?_
  · intro args s m h hn
    obtain ⟨meth, c, h1, h2, h3, h4, h5, h6, -, -⟩ := Cond.code_spec hn (atoms_spec (ws := ws) h _ (by rw [hw]; exact List.mem_cons_self))
    exact ⟨meth, c, h1, h2, h3, h4, h5, h6⟩
  · intro p e s m args below meth c s₁ B hml hP _
    have hh0 : s₁.heap = s.heap := by rw [B.state]; rfl
    obtain ⟨t, a1, o, b1, b2, b3⟩ := body p e s m args below meth c s₁ B hml hP s₁ hh0 (Stand.of_body B)
    exact ⟨t, o, a1, b1, b2, ⟨b3.1, b3.2⟩⟩
theorem Cn.start {l : Launch} {D : va_G} {cy : Nat → ClassId} {d mc ms : Nat} {mi : MI} {args : List Value} {L : List Nat} {Sh : Nat → Shp} {M : Mem} {J : Mej} {Post : PST} (lv : LV) (hy : plainFor mi.1 = true) (hlen : (lg_sl args).length ≤ mi.2.2.1) (hlv : lv_args 0 args = lv)
    (k : ∀ A, EE l D cy d mc ms mi A Post 0 0 0 lv [] L Sh M J) : Cn l D cy d mc ms mi args L Sh M J Post := by
  intro sz
  refine Met.ofWF (cc := mi.2.1) (maxL := mi.2.2.1) (ret := mi.2.2.2) hy rfl ?_
  intro p e s m args' below meth c s₁ B hml hv
  obtain ⟨rfl, hsz, hP, hK, hD0, hN⟩ := hv
  have hx := B.exec
  have hb := B.bytes
  have hr := B.returns
  have hts := atoms_spec (ws := fr_ws mi) B.pre
  have hown : s.vm.findClass mi.1.cls = some m.cls := findClass_of_methodNamed B.named
  have hlocks := B.notSynchronized
  have hin : meth.name = mi.1.name := (name_of_methodNamed B.named B.method).1
  subst hsz
  have hD := hD0.self (sz := s.heap.size)
  have hl := lv_entry args (n := mi.2.2.1) hlen
  rw [hlv] at hl
  rw [lg_entry_eq]
  exact k _ p e s m args.toArray below meth c s.heap [] _ ⟨hx, hb, hr, hml, hts, hown, hlocks, hin, hK, hN, fun q h => Or.inr h⟩ hP hD va_S.rf hl
def lv_put (i : Nat) (v : Value) : LV → LV
  | [] => [(i, v)]
  | q :: r => cond (Nat.blt q.1 i) (q :: lv_put i v r) ((i, v) :: q :: r)
theorem lv_put_mem {i : Nat} {v : Value} : ∀ {lv : LV} {q : Nat × Value}, q ∈ lv_put i v lv → q = (i, v) ∨ q ∈ lv
  | [], q, h => Or.inl (by simpa [lv_put] using h)
  | a :: r, q, h => by
    unfold lv_put at h
    cases hb : Nat.blt a.1 i <;> rw [hb] at h
    rotate_left
    · rcases List.mem_cons.mp h with e | e
      · exact Or.inr (by rw [e]; exact List.mem_cons_self)
      · rcases lv_put_mem e with e | e
        · exact Or.inl e
        · exact Or.inr (List.mem_cons_of_mem _ e)
    · rcases List.mem_cons.mp h with e | e
      · exact Or.inl e
      · exact Or.inr e
def lvS1 (i : Nat) (v : Value) (lv : LV) : LV := lv_put i v (lv.filter (fun q => !(q.1 == i) && !(q.1 + 1 == i && q.2.category == 2)))
def lvS2 (i : Nat) (v : Value) (lv : LV) : LV := lv_put i v (lv.filter (fun q => !(q.1 == i) && (!(q.1 == i + 1) && !(q.1 + 1 == i && q.2.category == 2))))
theorem lv_has.mono {ls : Array Slot} {n : Nat} {lv lv' : LV} (h : lv_has ls n lv) (hs : ∀ q ∈ lv', q ∈ lv) : lv_has ls n lv' := ⟨h.1, h.2.1, fun q hq => h.2.2 q (hs q hq)⟩
theorem lvS_mem {i : Nat} {v : Value} {lv : LV} {q : Nat × Value} (h : q ∈ lv_put i v lv) : q ∈ (i, v) :: lv := by
  rcases lv_put_mem h with e | e
  · rw [e]; exact List.mem_cons_self
  · exact List.mem_cons_of_mem _ e
def lvG (i : Nat) : LV → Option Value
  | [] => none
  | q :: r => cond (Nat.beq q.1 i) (some q.2) (lvG i r)
theorem lvG_mem {i : Nat} {v : Value} : ∀ {lv : LV}, lvG i lv = some v → (i, v) ∈ lv
  | [], h => by simp [lvG] at h
  | a :: r, h => by
    unfold lvG at h
    cases hb : Nat.beq a.1 i <;> rw [hb] at h
    · exact List.mem_cons_of_mem _ (lvG_mem h)
    · have e : a.1 = i := Nat.eq_of_beq_eq_true hb
      have h2 : a.2 = v := Option.some.inj h
      rw [← e, ← h2]
      exact List.mem_cons_self
theorem lvG_at {ls : Array Slot} {n i : Nat} {lv : LV} {v : Value} (h : lv_has ls n lv) (hg : lvG i lv = some v) : ls[i]? = some (.val v) := h.2.2 (i, v) (lvG_mem hg)
section ROWS
variable {l : Launch} {D : va_G} {cy : Nat → ClassId} {d mc ms : Nat} {mi : MI} {A : Nat → Prop} {Post : PST} {cells slots pc n : Nat} {lv : LV} {st rest : List Value} {L : List Nat} {Sh : Nat → Shp} {M : Mem} {J : Mej}

theorem E_iadd {x y : Int32} (hd : decode mi.2.1 pc = .ok (.iadd, 1))  (hn : pc + 1 = n) (k : EE l D cy d mc ms mi A Post cells slots n lv (.int (x + y) :: rest) L Sh M J) : EE l D cy d mc ms mi A Post cells slots pc lv (.int y :: .int x :: rest) L Sh M J := by
  subst hn
  intro p e s m args below meth c H locs ls X hP hD hS hl
  exact lv_iadd X.1 X.2.1 hd (k _ _ _ _ _ _ _ _ _ _ _ X hP hD hS hl)
theorem E_isub {x y : Int32} (hd : decode mi.2.1 pc = .ok (.isub, 1))  (hn : pc + 1 = n) (k : EE l D cy d mc ms mi A Post cells slots n lv (.int (x - y) :: rest) L Sh M J) : EE l D cy d mc ms mi A Post cells slots pc lv (.int y :: .int x :: rest) L Sh M J := by
  subst hn
  intro p e s m args below meth c H locs ls X hP hD hS hl
  exact lv_isub X.1 X.2.1 hd (k _ _ _ _ _ _ _ _ _ _ _ X hP hD hS hl)
theorem E_imul {x y : Int32} (hd : decode mi.2.1 pc = .ok (.imul, 1))  (hn : pc + 1 = n) (k : EE l D cy d mc ms mi A Post cells slots n lv (.int (x * y) :: rest) L Sh M J) : EE l D cy d mc ms mi A Post cells slots pc lv (.int y :: .int x :: rest) L Sh M J := by
  subst hn
  intro p e s m args below meth c H locs ls X hP hD hS hl
  exact lv_imul X.1 X.2.1 hd (k _ _ _ _ _ _ _ _ _ _ _ X hP hD hS hl)
theorem E_iand {x y : Int32} (hd : decode mi.2.1 pc = .ok (.iand, 1))  (hn : pc + 1 = n) (k : EE l D cy d mc ms mi A Post cells slots n lv (.int (x &&& y) :: rest) L Sh M J) : EE l D cy d mc ms mi A Post cells slots pc lv (.int y :: .int x :: rest) L Sh M J := by
  subst hn
  intro p e s m args below meth c H locs ls X hP hD hS hl
  exact lv_iand X.1 X.2.1 hd (k _ _ _ _ _ _ _ _ _ _ _ X hP hD hS hl)
theorem E_ior {x y : Int32} (hd : decode mi.2.1 pc = .ok (.ior, 1))  (hn : pc + 1 = n) (k : EE l D cy d mc ms mi A Post cells slots n lv (.int (x ||| y) :: rest) L Sh M J) : EE l D cy d mc ms mi A Post cells slots pc lv (.int y :: .int x :: rest) L Sh M J := by
  subst hn
  intro p e s m args below meth c H locs ls X hP hD hS hl
  exact lv_ior X.1 X.2.1 hd (k _ _ _ _ _ _ _ _ _ _ _ X hP hD hS hl)
theorem E_ixor {x y : Int32} (hd : decode mi.2.1 pc = .ok (.ixor, 1))  (hn : pc + 1 = n) (k : EE l D cy d mc ms mi A Post cells slots n lv (.int (x ^^^ y) :: rest) L Sh M J) : EE l D cy d mc ms mi A Post cells slots pc lv (.int y :: .int x :: rest) L Sh M J := by
  subst hn
  intro p e s m args below meth c H locs ls X hP hD hS hl
  exact lv_ixor X.1 X.2.1 hd (k _ _ _ _ _ _ _ _ _ _ _ X hP hD hS hl)
theorem E_ladd {x y : Int64} (hd : decode mi.2.1 pc = .ok (.ladd, 1))  (hn : pc + 1 = n) (k : EE l D cy d mc ms mi A Post cells slots n lv (.long (x + y) :: rest) L Sh M J) : EE l D cy d mc ms mi A Post cells slots pc lv (.long y :: .long x :: rest) L Sh M J := by
  subst hn
  intro p e s m args below meth c H locs ls X hP hD hS hl
  exact lv_ladd X.1 X.2.1 hd (k _ _ _ _ _ _ _ _ _ _ _ X hP hD hS hl)
theorem E_lsub {x y : Int64} (hd : decode mi.2.1 pc = .ok (.lsub, 1))  (hn : pc + 1 = n) (k : EE l D cy d mc ms mi A Post cells slots n lv (.long (x - y) :: rest) L Sh M J) : EE l D cy d mc ms mi A Post cells slots pc lv (.long y :: .long x :: rest) L Sh M J := by
  subst hn
  intro p e s m args below meth c H locs ls X hP hD hS hl
  exact lv_lsub X.1 X.2.1 hd (k _ _ _ _ _ _ _ _ _ _ _ X hP hD hS hl)
theorem E_lmul {x y : Int64} (hd : decode mi.2.1 pc = .ok (.lmul, 1))  (hn : pc + 1 = n) (k : EE l D cy d mc ms mi A Post cells slots n lv (.long (x * y) :: rest) L Sh M J) : EE l D cy d mc ms mi A Post cells slots pc lv (.long y :: .long x :: rest) L Sh M J := by
  subst hn
  intro p e s m args below meth c H locs ls X hP hD hS hl
  exact lv_lmul X.1 X.2.1 hd (k _ _ _ _ _ _ _ _ _ _ _ X hP hD hS hl)
theorem E_lxor {x y : Int64} (hd : decode mi.2.1 pc = .ok (.lxor, 1))  (hn : pc + 1 = n) (k : EE l D cy d mc ms mi A Post cells slots n lv (.long (x ^^^ y) :: rest) L Sh M J) : EE l D cy d mc ms mi A Post cells slots pc lv (.long y :: .long x :: rest) L Sh M J := by
  subst hn
  intro p e s m args below meth c H locs ls X hP hD hS hl
  exact lv_lxor X.1 X.2.1 hd (k _ _ _ _ _ _ _ _ _ _ _ X hP hD hS hl)
theorem E_idiv {x y : Int32} (hd : decode mi.2.1 pc = .ok (.idiv, 1)) (hne : ¬ y = 0) (hn : pc + 1 = n) (k : EE l D cy d mc ms mi A Post cells slots n lv (.int (x / y) :: rest) L Sh M J) : EE l D cy d mc ms mi A Post cells slots pc lv (.int y :: .int x :: rest) L Sh M J := by
  subst hn
  intro p e s m args below meth c H locs ls X hP hD hS hl
  exact lv_idiv X.1 X.2.1 hd hne (k _ _ _ _ _ _ _ _ _ _ _ X hP hD hS hl)
theorem E_irem {x y : Int32} (hd : decode mi.2.1 pc = .ok (.irem, 1)) (hne : ¬ y = 0) (hn : pc + 1 = n) (k : EE l D cy d mc ms mi A Post cells slots n lv (.int (x - x / y * y) :: rest) L Sh M J) : EE l D cy d mc ms mi A Post cells slots pc lv (.int y :: .int x :: rest) L Sh M J := by
  subst hn
  intro p e s m args below meth c H locs ls X hP hD hS hl
  exact lv_irem X.1 X.2.1 hd hne (k _ _ _ _ _ _ _ _ _ _ _ X hP hD hS hl)
theorem E_ldiv {x y : Int64} (hd : decode mi.2.1 pc = .ok (.ldiv, 1)) (hne : ¬ y = 0) (hn : pc + 1 = n) (k : EE l D cy d mc ms mi A Post cells slots n lv (.long (x / y) :: rest) L Sh M J) : EE l D cy d mc ms mi A Post cells slots pc lv (.long y :: .long x :: rest) L Sh M J := by
  subst hn
  intro p e s m args below meth c H locs ls X hP hD hS hl
  exact lv_ldiv X.1 X.2.1 hd hne (k _ _ _ _ _ _ _ _ _ _ _ X hP hD hS hl)
theorem E_lrem {x y : Int64} (hd : decode mi.2.1 pc = .ok (.lrem, 1)) (hne : ¬ y = 0) (hn : pc + 1 = n) (k : EE l D cy d mc ms mi A Post cells slots n lv (.long (x - x / y * y) :: rest) L Sh M J) : EE l D cy d mc ms mi A Post cells slots pc lv (.long y :: .long x :: rest) L Sh M J := by
  subst hn
  intro p e s m args below meth c H locs ls X hP hD hS hl
  exact lv_lrem X.1 X.2.1 hd hne (k _ _ _ _ _ _ _ _ _ _ _ X hP hD hS hl)
theorem E_ineg {x : Int32} (hd : decode mi.2.1 pc = .ok (.ineg, 1))  (hn : pc + 1 = n) (k : EE l D cy d mc ms mi A Post cells slots n lv (.int (-x) :: rest) L Sh M J) : EE l D cy d mc ms mi A Post cells slots pc lv (.int x :: rest) L Sh M J := by
  subst hn
  intro p e s m args below meth c H locs ls X hP hD hS hl
  exact lv_ineg X.1 X.2.1 hd (k _ _ _ _ _ _ _ _ _ _ _ X hP hD hS hl)
theorem E_lneg {x : Int64} (hd : decode mi.2.1 pc = .ok (.lneg, 1))  (hn : pc + 1 = n) (k : EE l D cy d mc ms mi A Post cells slots n lv (.long (-x) :: rest) L Sh M J) : EE l D cy d mc ms mi A Post cells slots pc lv (.long x :: rest) L Sh M J := by
  subst hn
  intro p e s m args below meth c H locs ls X hP hD hS hl
  exact lv_lneg X.1 X.2.1 hd (k _ _ _ _ _ _ _ _ _ _ _ X hP hD hS hl)
theorem E_ishl {x y : Int32} (hd : decode mi.2.1 pc = .ok (.ishl, 1))  (hn : pc + 1 = n) (k : EE l D cy d mc ms mi A Post cells slots n lv (.int (x <<< (y &&& 31)) :: rest) L Sh M J) : EE l D cy d mc ms mi A Post cells slots pc lv (.int y :: .int x :: rest) L Sh M J := by
  subst hn
  intro p e s m args below meth c H locs ls X hP hD hS hl
  exact lv_ishl X.1 X.2.1 hd (k _ _ _ _ _ _ _ _ _ _ _ X hP hD hS hl)
theorem E_ishr {x y : Int32} (hd : decode mi.2.1 pc = .ok (.ishr, 1))  (hn : pc + 1 = n) (k : EE l D cy d mc ms mi A Post cells slots n lv (.int (x >>> (y &&& 31)) :: rest) L Sh M J) : EE l D cy d mc ms mi A Post cells slots pc lv (.int y :: .int x :: rest) L Sh M J := by
  subst hn
  intro p e s m args below meth c H locs ls X hP hD hS hl
  exact lv_ishr X.1 X.2.1 hd (k _ _ _ _ _ _ _ _ _ _ _ X hP hD hS hl)
theorem E_iushr {x y : Int32} (hd : decode mi.2.1 pc = .ok (.iushr, 1))  (hn : pc + 1 = n) (k : EE l D cy d mc ms mi A Post cells slots n lv (.int ((x.toUInt32 >>> (y.toUInt32 &&& Int32.toUInt32 31)).toInt32) :: rest) L Sh M J) : EE l D cy d mc ms mi A Post cells slots pc lv (.int y :: .int x :: rest) L Sh M J := by
  subst hn
  intro p e s m args below meth c H locs ls X hP hD hS hl
  exact lv_iushr X.1 X.2.1 hd rfl (k _ _ _ _ _ _ _ _ _ _ _ X hP hD hS hl)
theorem E_i2l {x : Int32} (hd : decode mi.2.1 pc = .ok (.i2l, 1))  (hn : pc + 1 = n) (k : EE l D cy d mc ms mi A Post cells slots n lv (.long x.toInt64 :: rest) L Sh M J) : EE l D cy d mc ms mi A Post cells slots pc lv (.int x :: rest) L Sh M J := by
  subst hn
  intro p e s m args below meth c H locs ls X hP hD hS hl
  exact lv_i2l X.1 X.2.1 hd rfl (k _ _ _ _ _ _ _ _ _ _ _ X hP hD hS hl)
theorem E_l2i {x : Int64} (hd : decode mi.2.1 pc = .ok (.l2i, 1))  (hn : pc + 1 = n) (k : EE l D cy d mc ms mi A Post cells slots n lv (.int x.toInt32 :: rest) L Sh M J) : EE l D cy d mc ms mi A Post cells slots pc lv (.long x :: rest) L Sh M J := by
  subst hn
  intro p e s m args below meth c H locs ls X hP hD hS hl
  exact lv_l2i X.1 X.2.1 hd rfl (k _ _ _ _ _ _ _ _ _ _ _ X hP hD hS hl)
theorem E_i2b {x : Int32} (hd : decode mi.2.1 pc = .ok (.i2b, 1))  (hn : pc + 1 = n) (k : EE l D cy d mc ms mi A Post cells slots n lv (.int x.toInt8.toInt32 :: rest) L Sh M J) : EE l D cy d mc ms mi A Post cells slots pc lv (.int x :: rest) L Sh M J := by
  subst hn
  intro p e s m args below meth c H locs ls X hP hD hS hl
  exact lv_i2b X.1 X.2.1 hd rfl (k _ _ _ _ _ _ _ _ _ _ _ X hP hD hS hl)
theorem E_lcmp {x y : Int64} (hd : decode mi.2.1 pc = .ok (.lcmp, 1))  (hn : pc + 1 = n) (k : EE l D cy d mc ms mi A Post cells slots n lv (.int (lg_cmp x y) :: rest) L Sh M J) : EE l D cy d mc ms mi A Post cells slots pc lv (.long y :: .long x :: rest) L Sh M J := by
  subst hn
  intro p e s m args below meth c H locs ls X hP hD hS hl
  exact W.lcmp X.1 X.2.1 hd (k _ _ _ _ _ _ _ _ _ _ _ X hP hD hS hl)
theorem E_dup {va : Value} (hd : decode mi.2.1 pc = .ok (.dup, 1)) (hva : va.category = 1) (hn : pc + 1 = n) (k : EE l D cy d mc ms mi A Post cells slots n lv (va :: va :: rest) L Sh M J) : EE l D cy d mc ms mi A Post cells slots pc lv (va :: rest) L Sh M J := by
  subst hn
  intro p e s m args below meth c H locs ls X hP hD hS hl
  exact lv_dup X.1 X.2.1 hd hva (k _ _ _ _ _ _ _ _ _ _ _ X hP hD hS hl)
theorem E_dup2 {va vb : Value} (hd : decode mi.2.1 pc = .ok (.dup2, 1)) (hva : va.category = 1) (hvb : vb.category = 1) (hn : pc + 1 = n) (k : EE l D cy d mc ms mi A Post cells slots n lv (va :: vb :: va :: vb :: rest) L Sh M J) : EE l D cy d mc ms mi A Post cells slots pc lv (va :: vb :: rest) L Sh M J := by
  subst hn
  intro p e s m args below meth c H locs ls X hP hD hS hl
  exact lv_dup2_11 X.1 X.2.1 hd hva hvb (k _ _ _ _ _ _ _ _ _ _ _ X hP hD hS hl)
theorem E_pop {va : Value} (hd : decode mi.2.1 pc = .ok (.pop, 1)) (hva : va.category = 1) (hn : pc + 1 = n) (k : EE l D cy d mc ms mi A Post cells slots n lv (rest) L Sh M J) : EE l D cy d mc ms mi A Post cells slots pc lv (va :: rest) L Sh M J := by
  subst hn
  intro p e s m args below meth c H locs ls X hP hD hS hl
  exact lv_pop X.1 X.2.1 hd hva (k _ _ _ _ _ _ _ _ _ _ _ X hP hD hS hl)
theorem E_iconst {z : Int} {v : Int32} (hd : decode mi.2.1 pc = .ok (.iconst z, 1)) (hv : Int32.ofInt z = v) (hn : pc + 1 = n) (k : EE l D cy d mc ms mi A Post cells slots n lv (.int v :: rest) L Sh M J) : EE l D cy d mc ms mi A Post cells slots pc lv (rest) L Sh M J := by
  subst hn
  intro p e s m args below meth c H locs ls X hP hD hS hl
  exact lv_iconst X.1 X.2.1 hd hv (k _ _ _ _ _ _ _ _ _ _ _ X hP hD hS hl)
theorem E_bipush {z : Int} {v : Int32} (hd : decode mi.2.1 pc = .ok (.bipush z, 2)) (hv : (Int8.ofInt z).toInt32 = v) (hn : pc + 2 = n) (k : EE l D cy d mc ms mi A Post cells slots n lv (.int v :: rest) L Sh M J) : EE l D cy d mc ms mi A Post cells slots pc lv (rest) L Sh M J := by
  subst hn
  intro p e s m args below meth c H locs ls X hP hD hS hl
  exact lv_bipush X.1 X.2.1 hd hv (k _ _ _ _ _ _ _ _ _ _ _ X hP hD hS hl)
theorem E_sipush {z : Int} {v : Int32} (hd : decode mi.2.1 pc = .ok (.sipush z, 3)) (hv : (Int16.ofInt z).toInt32 = v) (hn : pc + 3 = n) (k : EE l D cy d mc ms mi A Post cells slots n lv (.int v :: rest) L Sh M J) : EE l D cy d mc ms mi A Post cells slots pc lv (rest) L Sh M J := by
  subst hn
  intro p e s m args below meth c H locs ls X hP hD hS hl
  exact lv_sipush X.1 X.2.1 hd hv (k _ _ _ _ _ _ _ _ _ _ _ X hP hD hS hl)
theorem E_lconst {z : Fin 2} {v : Int64} (hd : decode mi.2.1 pc = .ok (.lconst z, 1)) (hv : Int64.ofNat (z : Nat) = v) (hn : pc + 1 = n) (k : EE l D cy d mc ms mi A Post cells slots n lv (.long v :: rest) L Sh M J) : EE l D cy d mc ms mi A Post cells slots pc lv (rest) L Sh M J := by
  subst hn
  intro p e s m args below meth c H locs ls X hP hD hS hl
  exact lv_lconst X.1 X.2.1 hd hv (k _ _ _ _ _ _ _ _ _ _ _ X hP hD hS hl)
theorem E_ldc {ix : Nat} {v : Int32} (hd : decode mi.2.1 pc = .ok (.ldc ix, 2)) (hw : Cond.constant mi.1.cls ix v ∈ lwg) (hn : pc + 2 = n) (k : EE l D cy d mc ms mi A Post cells slots n lv (.int v :: rest) L Sh M J) : EE l D cy d mc ms mi A Post cells slots pc lv (rest) L Sh M J := by
  subst hn
  intro p e s m args below meth c H locs ls X hP hD hS hl
  exact lv_ldc X.1 X.2.1 X.2.2.2.2.2.1 (X.2.2.2.2.1 _ (lwg_ws mi hw)) hd (k _ _ _ _ _ _ _ _ _ _ _ X hP hD hS hl)
theorem E_ldcw {ix : Nat} {v : Int32} (hd : decode mi.2.1 pc = .ok (.ldc_w ix, 3)) (hw : Cond.constant mi.1.cls ix v ∈ lwg) (hn : pc + 3 = n) (k : EE l D cy d mc ms mi A Post cells slots n lv (.int v :: rest) L Sh M J) : EE l D cy d mc ms mi A Post cells slots pc lv (rest) L Sh M J := by
  subst hn
  intro p e s m args below meth c H locs ls X hP hD hS hl
  exact lv_ldcw X.1 X.2.1 X.2.2.2.2.2.1 (X.2.2.2.2.1 _ (lwg_ws mi hw)) hd (k _ _ _ _ _ _ _ _ _ _ _ X hP hD hS hl)
theorem E_ldc2 {ix : Nat} {v : Int64} (hd : decode mi.2.1 pc = .ok (.ldc2_w ix, 3)) (hw : Cond.constantLong mi.1.cls ix v ∈ lwg) (hn : pc + 3 = n) (k : EE l D cy d mc ms mi A Post cells slots n lv (.long v :: rest) L Sh M J) : EE l D cy d mc ms mi A Post cells slots pc lv (rest) L Sh M J := by
  subst hn
  intro p e s m args below meth c H locs ls X hP hD hS hl
  exact lv_ldc2 X.1 X.2.1 X.2.2.2.2.2.1 (X.2.2.2.2.1 _ (lwg_ws mi hw)) hd (k _ _ _ _ _ _ _ _ _ _ _ X hP hD hS hl)
theorem E_iload_n {z : Fin 4} {x : Int32} (hd : decode mi.2.1 pc = .ok (.iload_n z, 1)) (hg : lvG (z : Nat) lv = some (.int x)) (hn : pc + 1 = n) (k : EE l D cy d mc ms mi A Post cells slots n lv (.int x :: rest) L Sh M J) : EE l D cy d mc ms mi A Post cells slots pc lv (rest) L Sh M J := by
  subst hn
  intro p e s m args below meth c H locs ls X hP hD hS hl
  exact lv_iload_n X.1 X.2.1 hd rfl (lvG_at hl hg) (k _ _ _ _ _ _ _ _ _ _ _ X hP hD hS hl)
theorem E_iload {z : Nat} {x : Int32} (hd : decode mi.2.1 pc = .ok (.iload z, 2)) (hg : lvG z lv = some (.int x)) (hn : pc + 2 = n) (k : EE l D cy d mc ms mi A Post cells slots n lv (.int x :: rest) L Sh M J) : EE l D cy d mc ms mi A Post cells slots pc lv (rest) L Sh M J := by
  subst hn
  intro p e s m args below meth c H locs ls X hP hD hS hl
  exact lv_iload X.1 X.2.1 hd (lvG_at hl hg) (k _ _ _ _ _ _ _ _ _ _ _ X hP hD hS hl)
theorem E_istore_n {z : Fin 4} {x : Int32} {lv' : LV} (hd : decode mi.2.1 pc = .ok (.istore_n z, 1)) (hb : (z : Nat) < mi.2.2.1) (hs : lvS1 (z : Nat) (.int x) lv = lv') (hn : pc + 1 = n) (k : EE l D cy d mc ms mi A Post cells slots n lv' rest L Sh M J) : EE l D cy d mc ms mi A Post cells slots pc lv (.int x :: rest) L Sh M J := by
  subst hn
  subst hs
  intro p e s m args below meth c H locs ls X hP hD hS hl
  exact lv_istore_n X.1 X.2.1 hd rfl hl hb rfl (fun ls2 hl2 => k _ _ _ _ _ _ _ _ _ _ _ X hP hD hS (hl2.mono (fun q hq => lvS_mem hq)))
theorem E_istore {z : Nat} {x : Int32} {lv' : LV} (hd : decode mi.2.1 pc = .ok (.istore z, 2)) (hb : z < mi.2.2.1) (hs : lvS1 z (.int x) lv = lv') (hn : pc + 2 = n) (k : EE l D cy d mc ms mi A Post cells slots n lv' rest L Sh M J) : EE l D cy d mc ms mi A Post cells slots pc lv (.int x :: rest) L Sh M J := by
  subst hn
  subst hs
  intro p e s m args below meth c H locs ls X hP hD hS hl
  exact lv_istore X.1 X.2.1 hd hl hb rfl (fun ls2 hl2 => k _ _ _ _ _ _ _ _ _ _ _ X hP hD hS (hl2.mono (fun q hq => lvS_mem hq)))
theorem E_lload_n {z : Fin 4} {x : Int64} (hd : decode mi.2.1 pc = .ok (.lload_n z, 1)) (hg : lvG (z : Nat) lv = some (.long x)) (hn : pc + 1 = n) (k : EE l D cy d mc ms mi A Post cells slots n lv (.long x :: rest) L Sh M J) : EE l D cy d mc ms mi A Post cells slots pc lv (rest) L Sh M J := by
  subst hn
  intro p e s m args below meth c H locs ls X hP hD hS hl
  exact lv_lload_n X.1 X.2.1 hd rfl (lvG_at hl hg) (k _ _ _ _ _ _ _ _ _ _ _ X hP hD hS hl)
theorem E_lload {z : Nat} {x : Int64} (hd : decode mi.2.1 pc = .ok (.lload z, 2)) (hg : lvG z lv = some (.long x)) (hn : pc + 2 = n) (k : EE l D cy d mc ms mi A Post cells slots n lv (.long x :: rest) L Sh M J) : EE l D cy d mc ms mi A Post cells slots pc lv (rest) L Sh M J := by
  subst hn
  intro p e s m args below meth c H locs ls X hP hD hS hl
  exact lv_lload X.1 X.2.1 hd (lvG_at hl hg) (k _ _ _ _ _ _ _ _ _ _ _ X hP hD hS hl)
theorem E_lstore_n {z : Fin 4} {x : Int64} {lv' : LV} (hd : decode mi.2.1 pc = .ok (.lstore_n z, 1)) (hb : (z : Nat) + 1 < mi.2.2.1) (hs : lvS2 (z : Nat) (.long x) lv = lv') (hn : pc + 1 = n) (k : EE l D cy d mc ms mi A Post cells slots n lv' rest L Sh M J) : EE l D cy d mc ms mi A Post cells slots pc lv (.long x :: rest) L Sh M J := by
  subst hn
  subst hs
  intro p e s m args below meth c H locs ls X hP hD hS hl
  exact lv_lstore_n X.1 X.2.1 hd rfl hl hb rfl (fun ls2 hl2 => k _ _ _ _ _ _ _ _ _ _ _ X hP hD hS (hl2.mono (fun q hq => lvS_mem hq)))
theorem E_lstore {z : Nat} {x : Int64} {lv' : LV} (hd : decode mi.2.1 pc = .ok (.lstore z, 2)) (hb : z + 1 < mi.2.2.1) (hs : lvS2 z (.long x) lv = lv') (hn : pc + 2 = n) (k : EE l D cy d mc ms mi A Post cells slots n lv' rest L Sh M J) : EE l D cy d mc ms mi A Post cells slots pc lv (.long x :: rest) L Sh M J := by
  subst hn
  subst hs
  intro p e s m args below meth c H locs ls X hP hD hS hl
  exact lv_lstore X.1 X.2.1 hd hl hb rfl (fun ls2 hl2 => k _ _ _ _ _ _ _ _ _ _ _ X hP hD hS (hl2.mono (fun q hq => lvS_mem hq)))
theorem E_aload_n {z : Fin 4} {x : Nat} (hd : decode mi.2.1 pc = .ok (.aload_n z, 1)) (hg : lvG (z : Nat) lv = some (.ref x)) (hn : pc + 1 = n) (k : EE l D cy d mc ms mi A Post cells slots n lv (.ref x :: rest) L Sh M J) : EE l D cy d mc ms mi A Post cells slots pc lv (rest) L Sh M J := by
  subst hn
  intro p e s m args below meth c H locs ls X hP hD hS hl
  exact lv_aload_n X.1 X.2.1 hd rfl (lvG_at hl hg) (k _ _ _ _ _ _ _ _ _ _ _ X hP hD hS hl)
theorem E_aload {z : Nat} {x : Nat} (hd : decode mi.2.1 pc = .ok (.aload z, 2)) (hg : lvG z lv = some (.ref x)) (hn : pc + 2 = n) (k : EE l D cy d mc ms mi A Post cells slots n lv (.ref x :: rest) L Sh M J) : EE l D cy d mc ms mi A Post cells slots pc lv (rest) L Sh M J := by
  subst hn
  intro p e s m args below meth c H locs ls X hP hD hS hl
  exact lv_aload X.1 X.2.1 hd (lvG_at hl hg) (k _ _ _ _ _ _ _ _ _ _ _ X hP hD hS hl)
theorem E_astore_n {z : Fin 4} {x : Nat} {lv' : LV} (hd : decode mi.2.1 pc = .ok (.astore_n z, 1)) (hb : (z : Nat) < mi.2.2.1) (hs : lvS1 (z : Nat) (.ref x) lv = lv') (hn : pc + 1 = n) (k : EE l D cy d mc ms mi A Post cells slots n lv' rest L Sh M J) : EE l D cy d mc ms mi A Post cells slots pc lv (.ref x :: rest) L Sh M J := by
  subst hn
  subst hs
  intro p e s m args below meth c H locs ls X hP hD hS hl
  exact lv_astore_n X.1 X.2.1 hd rfl hl hb rfl (fun ls2 hl2 => k _ _ _ _ _ _ _ _ _ _ _ X hP hD hS (hl2.mono (fun q hq => lvS_mem hq)))
theorem E_astore {z : Nat} {x : Nat} {lv' : LV} (hd : decode mi.2.1 pc = .ok (.astore z, 2)) (hb : z < mi.2.2.1) (hs : lvS1 z (.ref x) lv = lv') (hn : pc + 2 = n) (k : EE l D cy d mc ms mi A Post cells slots n lv' rest L Sh M J) : EE l D cy d mc ms mi A Post cells slots pc lv (.ref x :: rest) L Sh M J := by
  subst hn
  subst hs
  intro p e s m args below meth c H locs ls X hP hD hS hl
  exact lv_astore X.1 X.2.1 hd hl hb rfl (fun ls2 hl2 => k _ _ _ _ _ _ _ _ _ _ _ X hP hD hS (hl2.mono (fun q hq => lvS_mem hq)))
theorem E_iinc {z : Nat} {i : Int} {x v : Int32} {lv' : LV} (hd : decode mi.2.1 pc = .ok (.iinc z i, 3)) (hg : lvG z lv = some (.int x)) (hv : x + Int32.ofInt i = v) (hb : z < mi.2.2.1) (hs : lvS1 z (.int v) lv = lv') (hn : pc + 3 = n) (k : EE l D cy d mc ms mi A Post cells slots n lv' rest L Sh M J) : EE l D cy d mc ms mi A Post cells slots pc lv rest L Sh M J := by
  subst hn
  subst hs
  intro p e s m args below meth c H locs ls X hP hD hS hl
  obtain ⟨j, hj⟩ := List.getElem?_of_mem (lvG_mem hg)
  exact lv_iinc X.1 X.2.1 hd hl hj hv hb rfl (fun ls2 hl2 => k _ _ _ _ _ _ _ _ _ _ _ X hP hD hS (hl2.mono (fun q hq => lvS_mem hq)))
theorem E_if_eq {x : Int32} {off : Int} {tgt : Nat} (hd : decode mi.2.1 pc = .ok (.ifCond .eq off, 3)) (ht : (pc : Int) + off = (tgt : Int)) (hn : pc + 3 = n) (kt : x = 0 → EE l D cy d mc ms mi A Post cells slots tgt lv rest L Sh M J) (kf : ¬ x = 0 → EE l D cy d mc ms mi A Post cells slots n lv rest L Sh M J) : EE l D cy d mc ms mi A Post cells slots pc lv (.int x :: rest) L Sh M J := by
  subst hn
  intro p e s m args below meth c H locs ls X hP hD hS hl
  exact lv_if_eq X.1 X.2.1 hd ht (fun h => kt h _ _ _ _ _ _ _ _ _ _ _ X hP hD hS hl) (fun h => kf h _ _ _ _ _ _ _ _ _ _ _ X hP hD hS hl)
theorem E_if_ne {x : Int32} {off : Int} {tgt : Nat} (hd : decode mi.2.1 pc = .ok (.ifCond .ne off, 3)) (ht : (pc : Int) + off = (tgt : Int)) (hn : pc + 3 = n) (kt : ¬ x = 0 → EE l D cy d mc ms mi A Post cells slots tgt lv rest L Sh M J) (kf : x = 0 → EE l D cy d mc ms mi A Post cells slots n lv rest L Sh M J) : EE l D cy d mc ms mi A Post cells slots pc lv (.int x :: rest) L Sh M J := by
  subst hn
  intro p e s m args below meth c H locs ls X hP hD hS hl
  exact lv_if_ne X.1 X.2.1 hd ht (fun h => kt h _ _ _ _ _ _ _ _ _ _ _ X hP hD hS hl) (fun h => kf h _ _ _ _ _ _ _ _ _ _ _ X hP hD hS hl)
theorem E_if_lt {x : Int32} {off : Int} {tgt : Nat} (hd : decode mi.2.1 pc = .ok (.ifCond .lt off, 3)) (ht : (pc : Int) + off = (tgt : Int)) (hn : pc + 3 = n) (kt : x < 0 → EE l D cy d mc ms mi A Post cells slots tgt lv rest L Sh M J) (kf : ¬ x < 0 → EE l D cy d mc ms mi A Post cells slots n lv rest L Sh M J) : EE l D cy d mc ms mi A Post cells slots pc lv (.int x :: rest) L Sh M J := by
  subst hn
  intro p e s m args below meth c H locs ls X hP hD hS hl
  exact lv_if_lt X.1 X.2.1 hd ht (fun h => kt h _ _ _ _ _ _ _ _ _ _ _ X hP hD hS hl) (fun h => kf h _ _ _ _ _ _ _ _ _ _ _ X hP hD hS hl)
theorem E_if_ge {x : Int32} {off : Int} {tgt : Nat} (hd : decode mi.2.1 pc = .ok (.ifCond .ge off, 3)) (ht : (pc : Int) + off = (tgt : Int)) (hn : pc + 3 = n) (kt : 0 ≤ x → EE l D cy d mc ms mi A Post cells slots tgt lv rest L Sh M J) (kf : ¬ 0 ≤ x → EE l D cy d mc ms mi A Post cells slots n lv rest L Sh M J) : EE l D cy d mc ms mi A Post cells slots pc lv (.int x :: rest) L Sh M J := by
  subst hn
  intro p e s m args below meth c H locs ls X hP hD hS hl
  exact lv_if_ge X.1 X.2.1 hd ht (fun h => kt h _ _ _ _ _ _ _ _ _ _ _ X hP hD hS hl) (fun h => kf h _ _ _ _ _ _ _ _ _ _ _ X hP hD hS hl)
theorem E_if_gt {x : Int32} {off : Int} {tgt : Nat} (hd : decode mi.2.1 pc = .ok (.ifCond .gt off, 3)) (ht : (pc : Int) + off = (tgt : Int)) (hn : pc + 3 = n) (kt : 0 < x → EE l D cy d mc ms mi A Post cells slots tgt lv rest L Sh M J) (kf : ¬ 0 < x → EE l D cy d mc ms mi A Post cells slots n lv rest L Sh M J) : EE l D cy d mc ms mi A Post cells slots pc lv (.int x :: rest) L Sh M J := by
  subst hn
  intro p e s m args below meth c H locs ls X hP hD hS hl
  exact lv_if_gt X.1 X.2.1 hd ht (fun h => kt h _ _ _ _ _ _ _ _ _ _ _ X hP hD hS hl) (fun h => kf h _ _ _ _ _ _ _ _ _ _ _ X hP hD hS hl)
theorem E_if_le {x : Int32} {off : Int} {tgt : Nat} (hd : decode mi.2.1 pc = .ok (.ifCond .le off, 3)) (ht : (pc : Int) + off = (tgt : Int)) (hn : pc + 3 = n) (kt : x ≤ 0 → EE l D cy d mc ms mi A Post cells slots tgt lv rest L Sh M J) (kf : ¬ x ≤ 0 → EE l D cy d mc ms mi A Post cells slots n lv rest L Sh M J) : EE l D cy d mc ms mi A Post cells slots pc lv (.int x :: rest) L Sh M J := by
  subst hn
  intro p e s m args below meth c H locs ls X hP hD hS hl
  exact lv_if_le X.1 X.2.1 hd ht (fun h => kt h _ _ _ _ _ _ _ _ _ _ _ X hP hD hS hl) (fun h => kf h _ _ _ _ _ _ _ _ _ _ _ X hP hD hS hl)
theorem E_icmp_eq {x y : Int32} {off : Int} {tgt : Nat} (hd : decode mi.2.1 pc = .ok (.if_icmp .eq off, 3)) (ht : (pc : Int) + off = (tgt : Int)) (hn : pc + 3 = n) (kt : x = y → EE l D cy d mc ms mi A Post cells slots tgt lv rest L Sh M J) (kf : ¬ x = y → EE l D cy d mc ms mi A Post cells slots n lv rest L Sh M J) : EE l D cy d mc ms mi A Post cells slots pc lv (.int y :: .int x :: rest) L Sh M J := by
  subst hn
  intro p e s m args below meth c H locs ls X hP hD hS hl
  exact lv_icmp_eq X.1 X.2.1 hd ht (fun h => kt h _ _ _ _ _ _ _ _ _ _ _ X hP hD hS hl) (fun h => kf h _ _ _ _ _ _ _ _ _ _ _ X hP hD hS hl)
theorem E_icmp_ne {x y : Int32} {off : Int} {tgt : Nat} (hd : decode mi.2.1 pc = .ok (.if_icmp .ne off, 3)) (ht : (pc : Int) + off = (tgt : Int)) (hn : pc + 3 = n) (kt : ¬ x = y → EE l D cy d mc ms mi A Post cells slots tgt lv rest L Sh M J) (kf : x = y → EE l D cy d mc ms mi A Post cells slots n lv rest L Sh M J) : EE l D cy d mc ms mi A Post cells slots pc lv (.int y :: .int x :: rest) L Sh M J := by
  subst hn
  intro p e s m args below meth c H locs ls X hP hD hS hl
  exact lv_icmp_ne X.1 X.2.1 hd ht (fun h => kt h _ _ _ _ _ _ _ _ _ _ _ X hP hD hS hl) (fun h => kf h _ _ _ _ _ _ _ _ _ _ _ X hP hD hS hl)
theorem E_icmp_lt {x y : Int32} {off : Int} {tgt : Nat} (hd : decode mi.2.1 pc = .ok (.if_icmp .lt off, 3)) (ht : (pc : Int) + off = (tgt : Int)) (hn : pc + 3 = n) (kt : x < y → EE l D cy d mc ms mi A Post cells slots tgt lv rest L Sh M J) (kf : ¬ x < y → EE l D cy d mc ms mi A Post cells slots n lv rest L Sh M J) : EE l D cy d mc ms mi A Post cells slots pc lv (.int y :: .int x :: rest) L Sh M J := by
  subst hn
  intro p e s m args below meth c H locs ls X hP hD hS hl
  exact lv_icmp_lt X.1 X.2.1 hd ht (fun h => kt h _ _ _ _ _ _ _ _ _ _ _ X hP hD hS hl) (fun h => kf h _ _ _ _ _ _ _ _ _ _ _ X hP hD hS hl)
theorem E_icmp_ge {x y : Int32} {off : Int} {tgt : Nat} (hd : decode mi.2.1 pc = .ok (.if_icmp .ge off, 3)) (ht : (pc : Int) + off = (tgt : Int)) (hn : pc + 3 = n) (kt : y ≤ x → EE l D cy d mc ms mi A Post cells slots tgt lv rest L Sh M J) (kf : ¬ y ≤ x → EE l D cy d mc ms mi A Post cells slots n lv rest L Sh M J) : EE l D cy d mc ms mi A Post cells slots pc lv (.int y :: .int x :: rest) L Sh M J := by
  subst hn
  intro p e s m args below meth c H locs ls X hP hD hS hl
  exact lv_icmp_ge X.1 X.2.1 hd ht (fun h => kt h _ _ _ _ _ _ _ _ _ _ _ X hP hD hS hl) (fun h => kf h _ _ _ _ _ _ _ _ _ _ _ X hP hD hS hl)
theorem E_icmp_gt {x y : Int32} {off : Int} {tgt : Nat} (hd : decode mi.2.1 pc = .ok (.if_icmp .gt off, 3)) (ht : (pc : Int) + off = (tgt : Int)) (hn : pc + 3 = n) (kt : y < x → EE l D cy d mc ms mi A Post cells slots tgt lv rest L Sh M J) (kf : ¬ y < x → EE l D cy d mc ms mi A Post cells slots n lv rest L Sh M J) : EE l D cy d mc ms mi A Post cells slots pc lv (.int y :: .int x :: rest) L Sh M J := by
  subst hn
  intro p e s m args below meth c H locs ls X hP hD hS hl
  exact lv_icmp_gt X.1 X.2.1 hd ht (fun h => kt h _ _ _ _ _ _ _ _ _ _ _ X hP hD hS hl) (fun h => kf h _ _ _ _ _ _ _ _ _ _ _ X hP hD hS hl)
theorem E_icmp_le {x y : Int32} {off : Int} {tgt : Nat} (hd : decode mi.2.1 pc = .ok (.if_icmp .le off, 3)) (ht : (pc : Int) + off = (tgt : Int)) (hn : pc + 3 = n) (kt : x ≤ y → EE l D cy d mc ms mi A Post cells slots tgt lv rest L Sh M J) (kf : ¬ x ≤ y → EE l D cy d mc ms mi A Post cells slots n lv rest L Sh M J) : EE l D cy d mc ms mi A Post cells slots pc lv (.int y :: .int x :: rest) L Sh M J := by
  subst hn
  intro p e s m args below meth c H locs ls X hP hD hS hl
  exact lv_icmp_le X.1 X.2.1 hd ht (fun h => kt h _ _ _ _ _ _ _ _ _ _ _ X hP hD hS hl) (fun h => kf h _ _ _ _ _ _ _ _ _ _ _ X hP hD hS hl)
theorem E_goto {off : Int} {tgt : Nat} (hd : decode mi.2.1 pc = .ok (.goto off, 3)) (ht : (pc : Int) + off = (tgt : Int)) (k : EE l D cy d mc ms mi A Post cells slots tgt lv rest L Sh M J) : EE l D cy d mc ms mi A Post cells slots pc lv rest L Sh M J := by
  intro p e s m args below meth c H locs ls X hP hD hS hl
  exact lv_goto X.1 X.2.1 hd ht (k _ _ _ _ _ _ _ _ _ _ _ X hP hD hS hl)
theorem E_tswO {dflt lo hi : Int} {offs : Array Int} {len : Nat} {x : Int32} {tgt : Nat} (hd : decode mi.2.1 pc = .ok (.tableswitch dflt lo hi offs, len)) (h : x.toInt < lo ∨ hi < x.toInt) (ht : (pc : Int) + dflt = (tgt : Int)) (k : EE l D cy d mc ms mi A Post cells slots tgt lv rest L Sh M J) : EE l D cy d mc ms mi A Post cells slots pc lv (.int x :: rest) L Sh M J := by
  intro p e s m args below meth c H locs ls X hP hD hS hl
  exact lv_tableOut X.1 X.2.1 hd h ht (k _ _ _ _ _ _ _ _ _ _ _ X hP hD hS hl)
theorem E_tswI {dflt lo hi off : Int} {offs : Array Int} {len : Nat} {x : Int32} {tgt : Nat} (hd : decode mi.2.1 pc = .ok (.tableswitch dflt lo hi offs, len)) (h1 : ¬ x.toInt < lo) (h2 : ¬ hi < x.toInt) (ho : offs[(x.toInt - lo).toNat]? = some off) (ht : (pc : Int) + off = (tgt : Int)) (k : EE l D cy d mc ms mi A Post cells slots tgt lv rest L Sh M J) : EE l D cy d mc ms mi A Post cells slots pc lv (.int x :: rest) L Sh M J := by
  intro p e s m args below meth c H locs ls X hP hD hS hl
  exact lv_tableIn X.1 X.2.1 hd h1 h2 ho ht (k _ _ _ _ _ _ _ _ _ _ _ X hP hD hS hl)
theorem E_lv {lv' : LV} (h : ∀ q ∈ lv', q ∈ lv) (k : EE l D cy d mc ms mi A Post cells slots pc lv' st L Sh M J) : EE l D cy d mc ms mi A Post cells slots pc lv st L Sh M J := by
  intro p e s m args below meth c H locs ls X hP hD hS hl
  exact k _ _ _ _ _ _ _ _ _ _ _ X hP hD hS (hl.mono h)
theorem E_pick {lv' : LV} (ks : List Nat) (h : lv_pick lv ks = lv') (k : EE l D cy d mc ms mi A Post cells slots pc lv' st L Sh M J) : EE l D cy d mc ms mi A Post cells slots pc lv st L Sh M J := by
  intro p e s m args below meth c H locs ls X hP hD hS hl
  exact k _ _ _ _ _ _ _ _ _ _ _ X hP hD hS (lv_sub hl ks h)
theorem fr_end {p : Program} {s : State} {m : MethodId} {args : Array Value} {meth : Method} {c : Code} {H : Heap} {locs : List Loc} {r : Option Value} (X : fr_X D cy mi A p s m args meth c) (hP : va_P D vwCl (va_pl L (fr_E cy Sh M J)) H) (hD : va_D A (va_pl L (fr_E cy Sh M J))) (hS : va_S A s.heap H locs) (hp : Post r L Sh M J) : ∀ t : State, t.heap = H → s.WarmedH t.vm → fr_Q D cy Post A args s (.returned r) t :=
  fun t ht hW => ⟨⟨r, L, Sh, M, J, rfl, hp, by rw [ht]; exact hP, va_K.moved hW.alike X.2.2.2.2.2.2.2.2.1, hD⟩, hS.F ht⟩
theorem E_iret {v : Int32} (hd : decode mi.2.1 pc = .ok (.ireturn, 1)) (hr : mi.2.2.2 = some .int) (hc : cells ≤ mc) (hs : slots ≤ ms) (hp : Post (some (.int v)) L Sh M J) : EE l D cy d mc ms mi A Post cells slots pc lv [.int v] L Sh M J := by
  intro p e s m args below meth c H locs ls X hP hD hS hl
  exact W.widen hc hs (W.iret X.1 X.2.1 (X.2.2.1.trans hr) (fr_end X hP hD hS hp) hS.2.2 hd X.2.2.2.2.2.2.1)
theorem E_zret {v : Int32} (hd : decode mi.2.1 pc = .ok (.ireturn, 1)) (hr : mi.2.2.2 = some .boolean) (hv : narrow .boolean (.int v) = .int v) (hc : cells ≤ mc) (hs : slots ≤ ms) (hp : Post (some (.int v)) L Sh M J) : EE l D cy d mc ms mi A Post cells slots pc lv [.int v] L Sh M J := by
  intro p e s m args below meth c H locs ls X hP hD hS hl
  exact W.widen hc hs (W.zret X.1 X.2.1 (X.2.2.1.trans hr) hv (fr_end X hP hD hS hp) hS.2.2 hd X.2.2.2.2.2.2.1)
theorem E_lret {v : Int64} (hd : decode mi.2.1 pc = .ok (.lreturn, 1)) (hr : mi.2.2.2 = some .long) (hc : cells ≤ mc) (hs : slots ≤ ms) (hp : Post (some (.long v)) L Sh M J) : EE l D cy d mc ms mi A Post cells slots pc lv [.long v] L Sh M J := by
  intro p e s m args below meth c H locs ls X hP hD hS hl
  exact W.widen hc hs (W.lret X.1 X.2.1 (X.2.2.1.trans hr) (fr_end X hP hD hS hp) hS.2.2 hd X.2.2.2.2.2.2.1)
theorem E_ret (hd : decode mi.2.1 pc = .ok (.return_, 1)) (hr : mi.2.2.2 = none) (hc : cells ≤ mc) (hs : slots ≤ ms) (hp : Post none L Sh M J) : EE l D cy d mc ms mi A Post cells slots pc lv [] L Sh M J := by
  intro p e s m args below meth c H locs ls X hP hD hS hl
  exact W.widen hc hs (W.vret X.1 X.2.1 (X.2.2.1.trans hr) (fr_end X hP hD hS hp) hS.2.2 hd X.2.2.2.2.2.2.1)
end ROWS
