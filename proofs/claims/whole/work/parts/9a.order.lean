/-! Worlds by the order of making. AOK nn q T N K: the cells 0 .. nn - 1 lie at q 0, q 1 .. ; cell i has the shape T i (its references are numbers of cells), the ints N i, the longs K i. -/
def cl_ (nn : Nat) (x : Shp) : Prop := ∀ q1 q2 : Nat → Nat, (∀ j, j < nn → q1 j = q2 j) → shq q1 x = shq q2 x
def AOK (nn : Nat) (q : Nat → Nat) (T : Nat → Shp) (N : Mem) (K : Mej) (L : List Nat) (Sh : Nat → Shp) (M : Mem) (J : Mej) : Prop :=
  (∀ i, i < nn → (fr_at L Sh (q i) (shq q (T i)) ∧ M (q i) = N i ∧ J (q i) = K i) ∧ cl_ nn (T i)) ∧ ∀ i j, i < nn → j < nn → q i = q j → i = j
theorem AOK.congr {nn : Nat} {q : Nat → Nat} {T T1 : Nat → Shp} {N N1 : Mem} {K K1 : Mej} {L : List Nat} {Sh : Nat → Shp} {M : Mem} {J : Mej} (h : AOK nn q T N K L Sh M J) (h1 : ∀ i, i < nn → T1 i = T i ∧ N1 i = N i ∧ K1 i = K i) : AOK nn q T1 N1 K1 L Sh M J := by
  refine ⟨fun i hi => ?_, h.2⟩
  obtain ⟨e1, e2, e3⟩ := h1 i hi
  rw [e1, e2, e3]
  exact h.1 i hi
theorem AOK.new {nn : Nat} {q : Nat → Nat} {T : Nat → Shp} {N : Mem} {K : Mej} {L : List Nat} {Sh : Nat → Shp} {M : Mem} {J : Mej} (h : AOK nn q T N K L Sh M J) {a : Nat} (ha : a ∉ L) {x : Shp} (hx : ∀ q1, shq q1 x = x) : AOK (nn + 1) (va_up q nn a) (sR T nn x) (zM N nn) (zJ K nn) (L ++ [a]) (sR Sh a x) (zM M a) (zJ J a) := by
  have hag : ∀ j, j < nn → va_up q nn a j = q j := fun j hj => va_up_ne _ _ (by omega)
  have hne : ∀ i, i < nn → q i ≠ a := fun i hi e => ha (by rw [← e]; exact (h.1 i hi).1.1.1)
  refine ⟨fun i hi => ?_, fun i j hi hj e => ?_⟩
  · by_cases hin : i = nn
    · subst hin
      refine ⟨⟨⟨?_, ?_⟩, ?_, ?_⟩, fun q1 q2 _ => ?_⟩
      · rw [va_up_self]; exact List.mem_append_right _ List.mem_cons_self
      · rw [va_up_self]
        show va_up Sh a x a = shq _ (va_up T i x i)
        rw [va_up_self, va_up_self, hx]
      · rw [va_up_self]
        show va_up M a _ a = va_up N i _ i
        rw [va_up_self, va_up_self]
      · rw [va_up_self]
        show va_up J a _ a = va_up K i _ i
        rw [va_up_self, va_up_self]
      · show shq q1 (va_up T i x i) = shq q2 (va_up T i x i)
        rw [va_up_self, hx, hx]
    · obtain ⟨⟨⟨h1, h2⟩, h3, h4⟩, h5⟩ := h.1 i (by omega)
      have hq := hag i (by omega)
      have hn := hne i (by omega)
      have eT : sR T nn x i = T i := va_up_ne _ _ hin
      refine ⟨⟨⟨?_, ?_⟩, ?_, ?_⟩, fun q1 q2 hq12 => ?_⟩
      · rw [hq]; exact List.mem_append_left _ h1
      · rw [hq, eT]
        show va_up Sh a x (q i) = _
        rw [va_up_ne _ _ hn, h2]
        exact h5 q (va_up q nn a) (fun j hj => (hag j hj).symm)
      · rw [hq]
        show va_up M a _ (q i) = va_up N nn _ i
        rw [va_up_ne _ _ hn, va_up_ne _ _ hin, h3]
      · rw [hq]
        show va_up J a _ (q i) = va_up K nn _ i
        rw [va_up_ne _ _ hn, va_up_ne _ _ hin, h4]
      · rw [eT]
        exact h5 q1 q2 (fun j hj => hq12 j (by omega))
  · by_cases hin : i = nn
    · by_cases hjn : j = nn
      · omega
      · subst hin
        rw [va_up_self, hag j (by omega)] at e
        exact absurd e.symm (hne j (by omega))
    · by_cases hjn : j = nn
      · subst hjn
        rw [va_up_self, hag i (by omega)] at e
        exact absurd e (hne i (by omega))
      · rw [hag i (by omega), hag j (by omega)] at e
        exact h.2 i j (by omega) (by omega) e
theorem AOK.shp {nn : Nat} {q : Nat → Nat} {T : Nat → Shp} {N : Mem} {K : Mej} {L : List Nat} {Sh : Nat → Shp} {M : Mem} {J : Mej} (h : AOK nn q T N K L Sh M J) {b : Nat} (hb : b < nn) {y : Shp} (hy : cl_ nn y) : AOK nn q (sR T b y) N K L (sR Sh (q b) (shq q y)) M J := by
  refine ⟨fun i hi => ?_, h.2⟩
  obtain ⟨⟨⟨h1, h2⟩, h3, h4⟩, h5⟩ := h.1 i hi
  by_cases e : i = b
  · subst e
    refine ⟨⟨⟨h1, ?_⟩, h3, h4⟩, ?_⟩
    · show va_up Sh (q i) _ (q i) = shq q (va_up T i y i)
      rw [va_up_self, va_up_self]
    · show cl_ nn (va_up T i y i)
      rw [va_up_self]; exact hy
  · have hn : q i ≠ q b := fun e2 => e (h.2 i b hi hb e2)
    refine ⟨⟨⟨h1, ?_⟩, h3, h4⟩, ?_⟩
    · show va_up Sh (q b) _ (q i) = shq q (va_up T b y i)
      rw [va_up_ne _ _ hn, va_up_ne _ _ e, h2]
    · show cl_ nn (va_up T b y i)
      rw [va_up_ne _ _ e]; exact h5
theorem AOK.setM {nn : Nat} {q : Nat → Nat} {T : Nat → Shp} {N : Mem} {K : Mej} {L : List Nat} {Sh : Nat → Shp} {M : Mem} {J : Mej} (h : AOK nn q T N K L Sh M J) {b : Nat} (hb : b < nn) (k : Nat) (v : Int32) : AOK nn q T (sM N b k v) K L Sh (sM M (q b) k v) J := by
  refine ⟨fun i hi => ?_, h.2⟩
  obtain ⟨⟨h1, h3, h4⟩, h5⟩ := h.1 i hi
  refine ⟨⟨h1, ?_, h4⟩, h5⟩
  by_cases e : i = b
  · subst e
    show va_up M (q i) (upd (M (q i)) k v) (q i) = va_up N i (upd (N i) k v) i
    rw [va_up_self, va_up_self, h3]
  · have hn : q i ≠ q b := fun e2 => e (h.2 i b hi hb e2)
    rw [sM_row hn, sM_row e, h3]
theorem AOK.setJ {nn : Nat} {q : Nat → Nat} {T : Nat → Shp} {N : Mem} {K : Mej} {L : List Nat} {Sh : Nat → Shp} {M : Mem} {J : Mej} (h : AOK nn q T N K L Sh M J) {b : Nat} (hb : b < nn) (k : Nat) (v : Int64) : AOK nn q T N (sJ K b k v) L Sh M (sJ J (q b) k v) := by
  refine ⟨fun i hi => ?_, h.2⟩
  obtain ⟨⟨h1, h3, h4⟩, h5⟩ := h.1 i hi
  refine ⟨⟨h1, h3, ?_⟩, h5⟩
  by_cases e : i = b
  · subst e
    show va_up J (q i) (vp_updL (J (q i)) k v) (q i) = va_up K i (vp_updL (K i) k v) i
    rw [va_up_self, va_up_self, h4]
  · have hn : q i ≠ q b := fun e2 => e (h.2 i b hi hb e2)
    show va_up J (q b) _ (q i) = va_up K b _ i
    rw [va_up_ne _ _ hn, va_up_ne _ _ e, h4]
theorem cl_ref {nn ci k r : Nat} {rf : Nat → Option Nat} (h : cl_ nn (.inl (ci, rf))) (hr : r < nn) : cl_ nn (.inl (ci, va_up rf k (some r))) := by
  intro q1 q2 hq
  have h1 : (fun k => (rf k).map q1) = fun k => (rf k).map q2 := by
    have := h q1 q2 hq
    simp only [shq, Sum.inl.injEq, Prod.mk.injEq, true_and] at this
    exact this
  simp only [shq, Sum.inl.injEq, Prod.mk.injEq, true_and]
  funext j
  by_cases e : j = k
  · simp [va_up, e, hq r hr]
  · simp only [va_up, e, if_false]
    exact congrFun h1 j
theorem cl_aref {nn m k r : Nat} {rf : Nat → Option Nat} (h : cl_ nn (.inr (.inr (m, rf)))) (hr : r < nn) : cl_ nn (.inr (.inr (m, va_up rf k (some r)))) := by
  intro q1 q2 hq
  have h1 : (fun k => (rf k).map q1) = fun k => (rf k).map q2 := by
    have := h q1 q2 hq
    simp only [shq, Sum.inr.injEq, Prod.mk.injEq, true_and] at this
    exact this
  simp only [shq, Sum.inr.injEq, Prod.mk.injEq, true_and]
  funext j
  by_cases e : j = k
  · simp [va_up, e, hq r hr]
  · simp only [va_up, e, if_false]
    exact congrFun h1 j
theorem map_up (q : Nat → Nat) (rf : Nat → Option Nat) (k r : Nat) : (fun j => (va_up rf k (some r) j).map q) = va_up (fun j => (rf j).map q) k (some (q r)) := by
  funext j
  by_cases e : j = k <;> simp [va_up, e]
def rv (nn : Nat) : Value → Bool
  | .ref i => decide (i < nn)
  | _ => true
def rs (nn : Nat) (l : List Value) : Bool := l.all (rv nn)
def rl (nn : Nat) (lv : LV) : Bool := lv.all (fun p => rv nn p.2)
theorem rv_ag {nn : Nat} {q1 q2 : Nat → Nat} (hq : ∀ j, j < nn → q1 j = q2 j) {v : Value} (h : rv nn v = true) : tv q1 v = tv q2 v := by
  cases v with
  | ref i => show Value.ref (q1 i) = .ref (q2 i); rw [hq i (of_decide_eq_true h)]
  | _ => rfl
theorem rs_ag {nn : Nat} {q1 q2 : Nat → Nat} (hq : ∀ j, j < nn → q1 j = q2 j) {l : List Value} (h : rs nn l = true) : l.map (tv q1) = l.map (tv q2) := List.map_congr_left (fun v hv => rv_ag hq (List.all_eq_true.mp h v hv))
theorem rl_ag {nn : Nat} {q1 q2 : Nat → Nat} (hq : ∀ j, j < nn → q1 j = q2 j) {lv : LV} (h : rl nn lv = true) : tl q1 lv = tl q2 lv := List.map_congr_left (fun p hp => by rw [rv_ag hq (List.all_eq_true.mp h p hp)])
abbrev PAt : Type := Nat → (Nat → Shp) → Mem → Mej → Prop
def pa (n0 : Nat) (q0 : Nat → Nat) (PO : PAt) : PST := fun r L1 Sh1 M1 J1 => r = none ∧ ∃ (q1 : Nat → Nat) (n1 : Nat) (T1 : Nat → Shp) (N1 : Mem) (K1 : Mej), (∀ i, i < n0 → q1 i = q0 i) ∧ n0 ≤ n1 ∧ AOK n1 q1 T1 N1 K1 L1 Sh1 M1 J1 ∧ PO n1 T1 N1 K1
def EA (d mc ms : Nat) (mi : MI) (PO : PAt) (cells slots pc : Nat) (lv : LV) (st : List Value) (nn : Nat) (T : Nat → Shp) (N : Mem) (K : Mej) : Prop :=
  ∀ l D cy A n0 q0 q L Sh M J, (∀ i, i < n0 → q i = q0 i) → n0 ≤ nn → AOK nn q T N K L Sh M J → EE l D cy d mc ms mi A (pa n0 q0 PO) cells slots pc (tl q lv) (st.map (tv q)) L Sh M J
/-- the contract of a constructor -/
def CA (d mc ms : Nat) (mi : MI) (args : List Value) (nn : Nat) (T : Nat → Shp) (N : Mem) (K : Mej) (PO : PAt) : Prop :=
  ∀ l D cy q L Sh M J, AOK nn q T N K L Sh M J → Cn l D cy d mc ms mi (args.map (tv q)) L Sh M J (pa nn q PO)
theorem CA.start {d mc ms : Nat} {mi : MI} {args : List Value} {nn : Nat} {T : Nat → Shp} {N : Mem} {K : Mej} {PO : PAt} (lv : LV) (hy : plainFor mi.1 = true) (hlen : (lg_sl args).length ≤ mi.2.2.1) (hlv : lv_args 0 args = lv) (k : EA d mc ms mi PO 0 0 0 lv [] nn T N K) : CA d mc ms mi args nn T N K PO := by
  intro l D cy q L Sh M J hA
  refine Cn.start (tl q lv) hy (by rw [tl_sl]; exact hlen) (by rw [tl_args, hlv]) (fun A => ?_)
  exact k l D cy A nn q q L Sh M J (fun _ _ => rfl) (Nat.le_refl _) hA
section AROWS
variable {d mc ms : Nat} {mi : MI} {PO : PAt} {cells slots pc n nn : Nat} {lv : LV} {st rest : List Value} {T : Nat → Shp} {N : Mem} {K : Mej}
theorem A_dup {va : Value} (hd : decode mi.2.1 pc = .ok (.dup, 1))(hva : va.category = 1)(hn : pc + 1 = n) (k : EA d mc ms mi PO cells slots n lv (va :: va :: rest) nn T N K) : EA d mc ms mi PO cells slots pc lv (va :: rest) nn T N K := by
  intro l D cy A n0 q0 q L Sh M J hq hn0 hA
  exact E_dup hd ((tv_cat q va).trans hva) hn (k l D cy A n0 q0 q L Sh M J hq hn0 hA)
theorem A_iconst {z : Int} {v : Int32} (hd : decode mi.2.1 pc = .ok (.iconst z, 1))(hv : Int32.ofInt z = v)(hn : pc + 1 = n) (k : EA d mc ms mi PO cells slots n lv (.int v :: rest) nn T N K) : EA d mc ms mi PO cells slots pc lv (rest) nn T N K := by
  intro l D cy A n0 q0 q L Sh M J hq hn0 hA
  exact E_iconst hd hv hn (k l D cy A n0 q0 q L Sh M J hq hn0 hA)
theorem A_bipush {z : Int} {v : Int32} (hd : decode mi.2.1 pc = .ok (.bipush z, 2))(hv : (Int8.ofInt z).toInt32 = v)(hn : pc + 2 = n) (k : EA d mc ms mi PO cells slots n lv (.int v :: rest) nn T N K) : EA d mc ms mi PO cells slots pc lv (rest) nn T N K := by
  intro l D cy A n0 q0 q L Sh M J hq hn0 hA
  exact E_bipush hd hv hn (k l D cy A n0 q0 q L Sh M J hq hn0 hA)
theorem A_sipush {z : Int} {v : Int32} (hd : decode mi.2.1 pc = .ok (.sipush z, 3))(hv : (Int16.ofInt z).toInt32 = v)(hn : pc + 3 = n) (k : EA d mc ms mi PO cells slots n lv (.int v :: rest) nn T N K) : EA d mc ms mi PO cells slots pc lv (rest) nn T N K := by
  intro l D cy A n0 q0 q L Sh M J hq hn0 hA
  exact E_sipush hd hv hn (k l D cy A n0 q0 q L Sh M J hq hn0 hA)
theorem A_lconst {z : Fin 2} {v : Int64} (hd : decode mi.2.1 pc = .ok (.lconst z, 1))(hv : Int64.ofNat (z : Nat) = v)(hn : pc + 1 = n) (k : EA d mc ms mi PO cells slots n lv (.long v :: rest) nn T N K) : EA d mc ms mi PO cells slots pc lv (rest) nn T N K := by
  intro l D cy A n0 q0 q L Sh M J hq hn0 hA
  exact E_lconst hd hv hn (k l D cy A n0 q0 q L Sh M J hq hn0 hA)
theorem A_ldc2 {ix : Nat} {v : Int64} (hd : decode mi.2.1 pc = .ok (.ldc2_w ix, 3))(hw : Cond.constantLong mi.1.cls ix v ∈ lwg)(hn : pc + 3 = n) (k : EA d mc ms mi PO cells slots n lv (.long v :: rest) nn T N K) : EA d mc ms mi PO cells slots pc lv (rest) nn T N K := by
  intro l D cy A n0 q0 q L Sh M J hq hn0 hA
  exact E_ldc2 hd hw hn (k l D cy A n0 q0 q L Sh M J hq hn0 hA)
theorem A_lmul {x y : Int64} (hd : decode mi.2.1 pc = .ok (.lmul, 1))(hn : pc + 1 = n) (k : EA d mc ms mi PO cells slots n lv (.long (x * y) :: rest) nn T N K) : EA d mc ms mi PO cells slots pc lv (.long y :: .long x :: rest) nn T N K := by
  intro l D cy A n0 q0 q L Sh M J hq hn0 hA
  exact E_lmul hd hn (k l D cy A n0 q0 q L Sh M J hq hn0 hA)
theorem A_iload_n {z : Fin 4} {x : Int32} (hd : decode mi.2.1 pc = .ok (.iload_n z, 1))(hg : lvG (z : Nat) lv = some (.int x))(hn : pc + 1 = n) (k : EA d mc ms mi PO cells slots n lv (.int x :: rest) nn T N K) : EA d mc ms mi PO cells slots pc lv (rest) nn T N K := by
  intro l D cy A n0 q0 q L Sh M J hq hn0 hA
  exact E_iload_n hd (by rw [tl_G, hg]; rfl) hn (k l D cy A n0 q0 q L Sh M J hq hn0 hA)
theorem A_istore_n {z : Fin 4} {x : Int32} {lv' : LV} (hd : decode mi.2.1 pc = .ok (.istore_n z, 1)) (hb : (z : Nat) < mi.2.2.1) (hs : lvS1 (z : Nat) (.int x) lv = lv') (hn : pc + 1 = n) (k : EA d mc ms mi PO cells slots n lv' rest nn T N K) : EA d mc ms mi PO cells slots pc lv (.int x :: rest) nn T N K := by
  subst hs
  intro l D cy A n0 q0 q L Sh M J hq hn0 hA
  exact E_istore_n hd hb (tl_S1 q (z : Nat) (.int x) lv) hn (k l D cy A n0 q0 q L Sh M J hq hn0 hA)
theorem A_lload_n {z : Fin 4} {x : Int64} (hd : decode mi.2.1 pc = .ok (.lload_n z, 1))(hg : lvG (z : Nat) lv = some (.long x))(hn : pc + 1 = n) (k : EA d mc ms mi PO cells slots n lv (.long x :: rest) nn T N K) : EA d mc ms mi PO cells slots pc lv (rest) nn T N K := by
  intro l D cy A n0 q0 q L Sh M J hq hn0 hA
  exact E_lload_n hd (by rw [tl_G, hg]; rfl) hn (k l D cy A n0 q0 q L Sh M J hq hn0 hA)
theorem A_lstore_n {z : Fin 4} {x : Int64} {lv' : LV} (hd : decode mi.2.1 pc = .ok (.lstore_n z, 1)) (hb : (z : Nat) + 1 < mi.2.2.1) (hs : lvS2 (z : Nat) (.long x) lv = lv') (hn : pc + 1 = n) (k : EA d mc ms mi PO cells slots n lv' rest nn T N K) : EA d mc ms mi PO cells slots pc lv (.long x :: rest) nn T N K := by
  subst hs
  intro l D cy A n0 q0 q L Sh M J hq hn0 hA
  exact E_lstore_n hd hb (tl_S2 q (z : Nat) (.long x) lv) hn (k l D cy A n0 q0 q L Sh M J hq hn0 hA)
theorem A_aload_n {z : Fin 4} {x : Nat} (hd : decode mi.2.1 pc = .ok (.aload_n z, 1))(hg : lvG (z : Nat) lv = some (.ref x))(hn : pc + 1 = n) (k : EA d mc ms mi PO cells slots n lv (.ref x :: rest) nn T N K) : EA d mc ms mi PO cells slots pc lv (rest) nn T N K := by
  intro l D cy A n0 q0 q L Sh M J hq hn0 hA
  exact E_aload_n hd (by rw [tl_G, hg]; rfl) hn (k l D cy A n0 q0 q L Sh M J hq hn0 hA)
theorem A_iinc {z : Nat} {i : Int} {x v : Int32} {lv' : LV} (hd : decode mi.2.1 pc = .ok (.iinc z i, 3)) (hg : lvG z lv = some (.int x)) (hv : x + Int32.ofInt i = v) (hb : z < mi.2.2.1) (hs : lvS1 z (.int v) lv = lv') (hn : pc + 3 = n) (k : EA d mc ms mi PO cells slots n lv' rest nn T N K) : EA d mc ms mi PO cells slots pc lv rest nn T N K := by
  subst hs
  intro l D cy A n0 q0 q L Sh M J hq hn0 hA
  exact E_iinc hd (by rw [tl_G, hg]; rfl) hv hb (tl_S1 q z (.int v) lv) hn (k l D cy A n0 q0 q L Sh M J hq hn0 hA)
theorem A_if_lt {x : Int32} {off : Int} {tgt : Nat} (hd : decode mi.2.1 pc = .ok (.ifCond .lt off, 3)) (ht : (pc : Int) + off = (tgt : Int)) (hn : pc + 3 = n) (kt : x < 0 → EA d mc ms mi PO cells slots tgt lv rest nn T N K) (kf : ¬ x < 0 → EA d mc ms mi PO cells slots n lv rest nn T N K) : EA d mc ms mi PO cells slots pc lv (.int x :: rest) nn T N K := by
  intro l D cy A n0 q0 q L Sh M J hq hn0 hA
  exact E_if_lt hd ht hn (fun h => kt h l D cy A n0 q0 q L Sh M J hq hn0 hA) (fun h => kf h l D cy A n0 q0 q L Sh M J hq hn0 hA)
theorem A_icmp_ge {x y : Int32} {off : Int} {tgt : Nat} (hd : decode mi.2.1 pc = .ok (.if_icmp .ge off, 3)) (ht : (pc : Int) + off = (tgt : Int)) (hn : pc + 3 = n) (kt : y ≤ x → EA d mc ms mi PO cells slots tgt lv rest nn T N K) (kf : ¬ y ≤ x → EA d mc ms mi PO cells slots n lv rest nn T N K) : EA d mc ms mi PO cells slots pc lv (.int y :: .int x :: rest) nn T N K := by
  intro l D cy A n0 q0 q L Sh M J hq hn0 hA
  exact E_icmp_ge hd ht hn (fun h => kt h l D cy A n0 q0 q L Sh M J hq hn0 hA) (fun h => kf h l D cy A n0 q0 q L Sh M J hq hn0 hA)
theorem A_goto {off : Int} {tgt : Nat} (hd : decode mi.2.1 pc = .ok (.goto off, 3)) (ht : (pc : Int) + off = (tgt : Int)) (k : EA d mc ms mi PO cells slots tgt lv rest nn T N K) : EA d mc ms mi PO cells slots pc lv rest nn T N K := by
  intro l D cy A n0 q0 q L Sh M J hq hn0 hA
  exact E_goto hd ht (k l D cy A n0 q0 q L Sh M J hq hn0 hA)
theorem A_new {ci idx : Nat} (hd : decode mi.2.1 pc = .ok (.new idx, 3)) (hci : ci < 5) (hw : Cond.classLink mi.1.cls idx (fr_RR ci) ∈ lwg) (hin : Cond.instantiable (fr_RR ci) (fr_nf ci) ∈ lwg) (hini : Cond.initialized (fr_RR ci) ∈ lwg) (hn : pc + 3 = n) (hlv : rl nn lv = true) (hst : rs nn rest = true) (hc : cells + 1 ≤ mc) (hs : slots + fr_nf ci ≤ ms) (k : EA d mc ms mi PO (cells + 1) (slots + fr_nf ci) n lv (.ref nn :: rest) (nn + 1) (sR T nn (.inl (ci, fun _ => none))) (zM N nn) (zJ K nn)) : EA d mc ms mi PO cells slots pc lv (rest) nn T N K := by
  intro l D cy A n0 q0 q L Sh M J hq hn0 hA
  refine E_new hd hci hw hin hini hc hs hn (fun a ha => ?_)
  have hag : ∀ j, j < nn → va_up q nn a j = q j := fun j hj => va_up_ne _ _ (by omega)
  have h := k l D cy A n0 q0 (va_up q nn a) _ _ _ _ (fun i hi => (hag i (by omega)).trans (hq i hi)) (by omega) (hA.new ha (x := .inl (ci, fun _ => none)) (fun _ => rfl))
  rw [rl_ag hag hlv, List.map_cons, rs_ag hag hst] at h
  rw [show tv (va_up q nn a) (.ref nn) = .ref a from congrArg Value.ref (va_up_self _ _ _)] at h
  exact h
theorem A_newi {m : Nat} (hd : decode mi.2.1 pc = .ok (.newarray .int, 2)) (hN : m < 100000) (hn : pc + 2 = n) (hlv : rl nn lv = true) (hst : rs nn rest = true) (hc : cells + 1 ≤ mc) (hs : slots + m ≤ ms) (k : EA d mc ms mi PO (cells + 1) (slots + m) n lv (.ref nn :: rest) (nn + 1) (sR T nn (.inr (.inl (0, m)))) (zM N nn) (zJ K nn)) : EA d mc ms mi PO cells slots pc lv (.int (nI m) :: rest) nn T N K := by
  intro l D cy A n0 q0 q L Sh M J hq hn0 hA
  refine E_newi hd hN hc hs hn (fun a ha => ?_)
  have hag : ∀ j, j < nn → va_up q nn a j = q j := fun j hj => va_up_ne _ _ (by omega)
  have h := k l D cy A n0 q0 (va_up q nn a) _ _ _ _ (fun i hi => (hag i (by omega)).trans (hq i hi)) (by omega) (hA.new ha (x := .inr (.inl (0, m))) (fun _ => rfl))
  rw [rl_ag hag hlv, List.map_cons, rs_ag hag hst] at h
  rw [show tv (va_up q nn a) (.ref nn) = .ref a from congrArg Value.ref (va_up_self _ _ _)] at h
  exact h
theorem A_newz {m : Nat} (hd : decode mi.2.1 pc = .ok (.newarray .boolean, 2)) (hN : m < 100000) (hn : pc + 2 = n) (hlv : rl nn lv = true) (hst : rs nn rest = true) (hc : cells + 1 ≤ mc) (hs : slots + m ≤ ms) (k : EA d mc ms mi PO (cells + 1) (slots + m) n lv (.ref nn :: rest) (nn + 1) (sR T nn (.inr (.inl (1, m)))) (zM N nn) (zJ K nn)) : EA d mc ms mi PO cells slots pc lv (.int (nI m) :: rest) nn T N K := by
  intro l D cy A n0 q0 q L Sh M J hq hn0 hA
  refine E_newz hd hN hc hs hn (fun a ha => ?_)
  have hag : ∀ j, j < nn → va_up q nn a j = q j := fun j hj => va_up_ne _ _ (by omega)
  have h := k l D cy A n0 q0 (va_up q nn a) _ _ _ _ (fun i hi => (hag i (by omega)).trans (hq i hi)) (by omega) (hA.new ha (x := .inr (.inl (1, m))) (fun _ => rfl))
  rw [rl_ag hag hlv, List.map_cons, rs_ag hag hst] at h
  rw [show tv (va_up q nn a) (.ref nn) = .ref a from congrArg Value.ref (va_up_self _ _ _)] at h
  exact h
theorem A_newj {m : Nat} (hd : decode mi.2.1 pc = .ok (.newarray .long, 2)) (hN : m < 100000) (hn : pc + 2 = n) (hlv : rl nn lv = true) (hst : rs nn rest = true) (hc : cells + 1 ≤ mc) (hs : slots + m ≤ ms) (k : EA d mc ms mi PO (cells + 1) (slots + m) n lv (.ref nn :: rest) (nn + 1) (sR T nn (.inr (.inl (2, m)))) (zM N nn) (zJ K nn)) : EA d mc ms mi PO cells slots pc lv (.int (nI m) :: rest) nn T N K := by
  intro l D cy A n0 q0 q L Sh M J hq hn0 hA
  refine E_newj hd hN hc hs hn (fun a ha => ?_)
  have hag : ∀ j, j < nn → va_up q nn a j = q j := fun j hj => va_up_ne _ _ (by omega)
  have h := k l D cy A n0 q0 (va_up q nn a) _ _ _ _ (fun i hi => (hag i (by omega)).trans (hq i hi)) (by omega) (hA.new ha (x := .inr (.inl (2, m))) (fun _ => rfl))
  rw [rl_ag hag hlv, List.map_cons, rs_ag hag hst] at h
  rw [show tv (va_up q nn a) (.ref nn) = .ref a from congrArg Value.ref (va_up_self _ _ _)] at h
  exact h
theorem A_newq {m idx : Nat} (hd : decode mi.2.1 pc = .ok (.anewarray idx, 3)) (hw : Cond.classLink mi.1.cls idx (fr_RR 0) ∈ lwg) (hN : m < 100000) (hn : pc + 3 = n) (hlv : rl nn lv = true) (hst : rs nn rest = true) (hc : cells + 1 ≤ mc) (hs : slots + m ≤ ms) (k : EA d mc ms mi PO (cells + 1) (slots + m) n lv (.ref nn :: rest) (nn + 1) (sR T nn (.inr (.inr (m, fun _ => none)))) (zM N nn) (zJ K nn)) : EA d mc ms mi PO cells slots pc lv (.int (nI m) :: rest) nn T N K := by
  intro l D cy A n0 q0 q L Sh M J hq hn0 hA
  refine E_newq hd hw hN hc hs hn (fun a ha => ?_)
  have hag : ∀ j, j < nn → va_up q nn a j = q j := fun j hj => va_up_ne _ _ (by omega)
  have h := k l D cy A n0 q0 (va_up q nn a) _ _ _ _ (fun i hi => (hag i (by omega)).trans (hq i hi)) (by omega) (hA.new ha (x := .inr (.inr (m, fun _ => none))) (fun _ => rfl))
  rw [rl_ag hag hlv, List.map_cons, rs_ag hag hst] at h
  rw [show tv (va_up q nn a) (.ref nn) = .ref a from congrArg Value.ref (va_up_self _ _ _)] at h
  exact h
theorem A_putR {b ci kf idx r : Nat} {rf : Nat → Option Nat} {ty : FieldType} (hd : decode mi.2.1 pc = .ok (.putfield idx, 3)) (hw : ci < 5 ∧ kf < fr_nf ci ∧ Cond.fieldLink mi.1.cls idx (fr_TT ci kf).1 (fr_TT ci kf).2.1 (fr_TT ci kf).2.2.1 ∈ lwg) (hb : b < nn) (hT : T b = .inl (ci, rf)) (hr : r < nn) (hi : fr_isR ci kf = true) (hf : (fr_TT ci kf).2.2.2 = true) (hm : mi.1.name = "<init>") (hdc : (fr_TT ci kf).1 = mi.1.cls) (hty : fr_ty ci kf = ty) (hv1 : ∀ a, narrow ty (.ref a) = .ref a) (hv2 : ∀ a, fits ty (.ref a) = true) (hn : pc + 3 = n) (k : EA d mc ms mi PO cells slots n lv rest nn (sR T b (.inl (ci, va_up rf kf (some r)))) N K) : EA d mc ms mi PO cells slots pc lv (.ref r :: .ref b :: rest) nn T N K := by
  intro l D cy A n0 q0 q L Sh M J hq hn0 hA
  obtain ⟨⟨h1, -, -⟩, h5⟩ := hA.1 b hb
  rw [hT] at h1 h5
  refine E_putR (r := q r) hd hw h1 hi hf hm hdc hty (hv1 _) (hv2 _) hn ?_
  rw [show (va_up (fun k => (rf k).map q) kf (some (q r))) = fun j => (va_up rf kf (some r) j).map q from (map_up q rf kf r).symm]
  exact k l D cy A n0 q0 q _ _ _ _ hq hn0 (hA.shp hb (cl_ref h5 hr))
theorem A_putI {b ci kf idx : Nat} {rf : Nat → Option Nat} {v : Int32} (hd : decode mi.2.1 pc = .ok (.putfield idx, 3)) (hw : fr_link mi.1.cls idx ci kf) (hb : b < nn) (hT : T b = .inl (ci, rf)) (hi : fr_isR ci kf = false) (hf : (fr_TT ci kf).2.2.2 = false) (hty : fr_ty ci kf = .int) (hn : pc + 3 = n) (k : EA d mc ms mi PO cells slots n lv rest nn T (sM N b kf v) K) : EA d mc ms mi PO cells slots pc lv (.int v :: .ref b :: rest) nn T N K := by
  intro l D cy A n0 q0 q L Sh M J hq hn0 hA
  obtain ⟨⟨h1, -, -⟩, h5⟩ := hA.1 b hb
  rw [hT] at h1
  exact E_putI hd hw h1 hi hf hty hn (k l D cy A n0 q0 q _ _ _ _ hq hn0 (hA.setM hb kf v))
theorem A_putZ {b ci kf idx : Nat} {rf : Nat → Option Nat} {v : Int32} (hd : decode mi.2.1 pc = .ok (.putfield idx, 3)) (hw : fr_link mi.1.cls idx ci kf) (hb : b < nn) (hT : T b = .inl (ci, rf)) (hi : fr_isR ci kf = false) (hf : (fr_TT ci kf).2.2.2 = false) (hty : fr_ty ci kf = .boolean) (hv : v = 0 ∨ v = 1) (hn : pc + 3 = n) (k : EA d mc ms mi PO cells slots n lv rest nn T (sM N b kf v) K) : EA d mc ms mi PO cells slots pc lv (.int v :: .ref b :: rest) nn T N K := by
  intro l D cy A n0 q0 q L Sh M J hq hn0 hA
  obtain ⟨⟨h1, -, -⟩, h5⟩ := hA.1 b hb
  rw [hT] at h1
  exact E_putZ hd hw h1 hi hf hty hv hn (k l D cy A n0 q0 q _ _ _ _ hq hn0 (hA.setM hb kf v))
theorem A_getR {b ci kf idx r : Nat} {rf : Nat → Option Nat} (hd : decode mi.2.1 pc = .ok (.getfield idx, 3)) (hw : fr_link mi.1.cls idx ci kf) (hb : b < nn) (hT : T b = .inl (ci, rf)) (hi : fr_isR ci kf = true) (hv : rf kf = some r) (hn : pc + 3 = n) (k : EA d mc ms mi PO cells slots n lv (.ref r :: rest) nn T N K) : EA d mc ms mi PO cells slots pc lv (.ref b :: rest) nn T N K := by
  intro l D cy A n0 q0 q L Sh M J hq hn0 hA
  obtain ⟨⟨h1, -, -⟩, h5⟩ := hA.1 b hb
  rw [hT] at h1
  exact E_getR hd hw h1 hi (by show (rf kf).map q = some (q r); rw [hv]; rfl) hn (k l D cy A n0 q0 q L Sh M J hq hn0 hA)
theorem A_iast {b m j : Nat} {v : Int32} (hd : decode mi.2.1 pc = .ok (.iastore, 1)) (hb : b < nn) (hT : T b = .inr (.inl (0, m))) (hj : j < m) (hm : m < 2 ^ 31) (hn : pc + 1 = n) (k : EA d mc ms mi PO cells slots n lv rest nn T (sM N b j v) K) : EA d mc ms mi PO cells slots pc lv (.int v :: .int (nI j) :: .ref b :: rest) nn T N K := by
  intro l D cy A n0 q0 q L Sh M J hq hn0 hA
  obtain ⟨⟨h1, -, -⟩, h5⟩ := hA.1 b hb
  rw [hT] at h1
  exact E_iast hd h1 hj hm hn (k l D cy A n0 q0 q _ _ _ _ hq hn0 (hA.setM hb j v))
theorem A_last {b m j : Nat} {v : Int64} (hd : decode mi.2.1 pc = .ok (.lastore, 1)) (hb : b < nn) (hT : T b = .inr (.inl (2, m))) (hj : j < m) (hm : m < 2 ^ 31) (hn : pc + 1 = n) (k : EA d mc ms mi PO cells slots n lv rest nn T N (sJ K b j v)) : EA d mc ms mi PO cells slots pc lv (.long v :: .int (nI j) :: .ref b :: rest) nn T N K := by
  intro l D cy A n0 q0 q L Sh M J hq hn0 hA
  obtain ⟨⟨h1, -, -⟩, h5⟩ := hA.1 b hb
  rw [hT] at h1
  exact E_last hd h1 hj hm hn (k l D cy A n0 q0 q _ _ _ _ hq hn0 (hA.setJ hb j v))
theorem A_aast {b r m j : Nat} {rf rv : Nat → Option Nat} (hd : decode mi.2.1 pc = .ok (.aastore, 1)) (hb : b < nn) (hT : T b = .inr (.inr (m, rf))) (hr : r < nn) (hTr : T r = .inl (0, rv)) (hj : j < m) (hm : m < 2 ^ 31) (hn : pc + 1 = n) (k : EA d mc ms mi PO cells slots n lv rest nn (sR T b (.inr (.inr (m, va_up rf j (some r))))) N K) : EA d mc ms mi PO cells slots pc lv (.ref r :: .int (nI j) :: .ref b :: rest) nn T N K := by
  intro l D cy A n0 q0 q L Sh M J hq hn0 hA
  obtain ⟨⟨h1, -, -⟩, h5⟩ := hA.1 b hb
  obtain ⟨⟨h2, -, -⟩, -⟩ := hA.1 r hr
  rw [hT] at h1 h5
  rw [hTr] at h2
  refine E_aast hd h1 h2 hj hm hn ?_
  rw [show (va_up (fun k => (rf k).map q) j (some (q r))) = fun i => (va_up rf j (some r) i).map q from (map_up q rf j r).symm]
  exact k l D cy A n0 q0 q _ _ _ _ hq hn0 (hA.shp hb (cl_aref h5 hr))
theorem A_objI {b idx : Nat} (hd : decode mi.2.1 pc = .ok (.invokespecial idx, 3)) (hk : Cond.methodLink mi.1.cls idx objectInit ∈ lwg) (hr : (rest.map fun v => v.category).sum ≤ 8) (hd1 : 1 ≤ d) (hn : pc + 3 = n) (k : EA d mc ms mi PO cells slots n lv rest nn T N K) : EA d mc ms mi PO cells slots pc lv (.ref b :: rest) nn T N K := by
  intro l D cy A n0 q0 q L Sh M J hq hn0 hA
  exact E_objI hd hk ob_m ob_c (by rw [tv_sum]; exact hr) hd1 hn (k l D cy A n0 q0 q L Sh M J hq hn0 hA)
/-- a constructor's call -/
theorem A_callI {mj : MI} {b idx d1 mc1 ms1 : Nat} {PO1 : PAt} (hd : decode mi.2.1 pc = .ok (.invokespecial idx, 3)) (hw : fr_ilink mi.1.cls idx mj 0) (hroom : (rest.map fun v => v.category).sum ≤ 8) (hM : CA d1 mc1 ms1 mj [.ref b] nn T N K PO1) (hd1 : d1 + 1 ≤ d) (hlv : rl nn lv = true) (hst : rs nn rest = true) (hc : cells + mc1 ≤ mc) (hs : slots + ms1 ≤ ms) (hn : pc + 3 = n)
    (k : ∀ n1 T1 N1 K1, PO1 n1 T1 N1 K1 → EA d mc ms mi PO (cells + mc1) (slots + ms1) n lv rest n1 T1 N1 K1) : EA d mc ms mi PO cells slots pc lv (.ref b :: rest) nn T N K := by
  intro l D cy A n0 q0 q L Sh M J hq hn0 hA
  refine E_callI [] hd hw rfl rfl (by rw [tv_sum]; exact hroom) (hM l D cy q L Sh M J hA) hd1 hc hs hn ?_
  rintro r L1 Sh1 M1 J1 ⟨rfl, q1, n1, T1, N1, K1, hag, hle, hA1, hp⟩
  have h := k n1 T1 N1 K1 hp l D cy A n0 q0 q1 L1 Sh1 M1 J1 (fun i hi => (hag i (by omega)).trans (hq i hi)) (by omega) hA1
  rw [rl_ag hag hlv, rs_ag hag hst] at h
  exact h
theorem A_ret (hd : decode mi.2.1 pc = .ok (.return_, 1)) (hr : mi.2.2.2 = none) (hc : cells ≤ mc) (hs : slots ≤ ms) (hp : PO nn T N K) : EA d mc ms mi PO cells slots pc lv [] nn T N K := by
  intro l D cy A n0 q0 q L Sh M J hq hn0 hA
  exact E_ret hd hr hc hs ⟨rfl, q, nn, T, N, K, hq, hn0, hA, hp⟩
theorem A_congr {T1 : Nat → Shp} {N1 : Mem} {K1 : Mej} (h1 : ∀ i, i < nn → T1 i = T i ∧ N1 i = N i ∧ K1 i = K i) (k : EA d mc ms mi PO cells slots pc lv st nn T1 N1 K1) : EA d mc ms mi PO cells slots pc lv st nn T N K := by
  intro l D cy A n0 q0 q L Sh M J hq hn0 hA
  exact k l D cy A n0 q0 q L Sh M J hq hn0 (hA.congr h1)
end AROWS
