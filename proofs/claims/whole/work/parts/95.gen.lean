/-! EG: from this frame, over any room R, words Ts, extra premise Xt, the run comes to an end with Q. -/
abbrev GXt : Type := State → Array Value → Code → Prop
abbrev GQt : Type := List Frame → Array Value → State → State → Prop
def gX (D : va_G) (cy : Nat → ClassId) (mi : MI) (Ts : List Cond) (A : Nat → Prop) (p : Program) (s : State) (m : MethodId) (args : Array Value) (meth : Method) (c : Code) : Prop :=
  p.tables.exec = Jvm.exec ∧ c.code = mi.2.1 ∧ meth.sig.returnType = mi.2.2.2 ∧ c.maxLocals = mi.2.2.1 ∧ (∀ w ∈ Ts, w.before args s = true) ∧ s.vm.findClass mi.1.cls = some m.cls ∧ meth.locks = false ∧ (∀ w ∈ lwg, w ∈ Ts) ∧ va_K D vwCl (fr_T cy) s ∧ fr_NW s ∧ ∀ q, s.heap.size ≤ q → A q
def EG (l : Launch) (D : va_G) (cy : Nat → ClassId) (R : Room) (mi : MI) (Ts : List Cond) (A : State → Nat → Prop) (Xt : GXt) (Q : GQt) (cells slots pc : Nat) (lv : LV) (st : List Value) (L : List Nat) (Sh : Nat → Shp) (M : Mem) (J : Mej) : Prop :=
  ∀ (p : Program) (e : Env) (s : State) (m : MethodId) (args : Array Value) (below : List Frame) (meth : Method) (c : Code) (H : Heap) (locs : List Loc) (ls : Array Slot), gX D cy mi Ts (A s) p s m args meth c ∧ Xt s args c → va_P D vwCl (va_pl L (fr_E cy Sh M J)) H → va_D (A s) (va_pl L (fr_E cy Sh M J)) → va_S (A s) s.heap H locs → lv_has ls mi.2.2.1 lv →
    W p l e R s m args below meth c H locs cells slots (Q below args s) (F0 m pc ls st)
section GROWS
variable {l : Launch} {D : va_G} {cy : Nat → ClassId} {R : Room} {mi : MI} {Ts : List Cond} {A : State → Nat → Prop} {Xt : GXt} {Q : GQt} {cells slots pc n : Nat} {lv : LV} {st rest : List Value} {L : List Nat} {Sh : Nat → Shp} {M : Mem} {J : Mej}
theorem G_iadd {x y : Int32} (hd : decode mi.2.1 pc = .ok (.iadd, 1))  (hn : pc + 1 = n) (k : EG l D cy R mi Ts A Xt Q cells slots n lv (.int (x + y) :: rest) L Sh M J) : EG l D cy R mi Ts A Xt Q cells slots pc lv (.int y :: .int x :: rest) L Sh M J := by
  subst hn
  intro p e s m args below meth c H locs ls X hP hD hS hl
  exact lv_iadd X.1.1 X.1.2.1 hd (k _ _ _ _ _ _ _ _ _ _ _ X hP hD hS hl)
theorem G_isub {x y : Int32} (hd : decode mi.2.1 pc = .ok (.isub, 1))  (hn : pc + 1 = n) (k : EG l D cy R mi Ts A Xt Q cells slots n lv (.int (x - y) :: rest) L Sh M J) : EG l D cy R mi Ts A Xt Q cells slots pc lv (.int y :: .int x :: rest) L Sh M J := by
  subst hn
  intro p e s m args below meth c H locs ls X hP hD hS hl
  exact lv_isub X.1.1 X.1.2.1 hd (k _ _ _ _ _ _ _ _ _ _ _ X hP hD hS hl)
theorem G_iand {x y : Int32} (hd : decode mi.2.1 pc = .ok (.iand, 1))  (hn : pc + 1 = n) (k : EG l D cy R mi Ts A Xt Q cells slots n lv (.int (x &&& y) :: rest) L Sh M J) : EG l D cy R mi Ts A Xt Q cells slots pc lv (.int y :: .int x :: rest) L Sh M J := by
  subst hn
  intro p e s m args below meth c H locs ls X hP hD hS hl
  exact lv_iand X.1.1 X.1.2.1 hd (k _ _ _ _ _ _ _ _ _ _ _ X hP hD hS hl)
theorem G_i2l {x : Int32} (hd : decode mi.2.1 pc = .ok (.i2l, 1))  (hn : pc + 1 = n) (k : EG l D cy R mi Ts A Xt Q cells slots n lv (.long x.toInt64 :: rest) L Sh M J) : EG l D cy R mi Ts A Xt Q cells slots pc lv (.int x :: rest) L Sh M J := by
  subst hn
  intro p e s m args below meth c H locs ls X hP hD hS hl
  exact lv_i2l X.1.1 X.1.2.1 hd rfl (k _ _ _ _ _ _ _ _ _ _ _ X hP hD hS hl)
theorem G_lcmp {x y : Int64} (hd : decode mi.2.1 pc = .ok (.lcmp, 1))  (hn : pc + 1 = n) (k : EG l D cy R mi Ts A Xt Q cells slots n lv (.int (lg_cmp x y) :: rest) L Sh M J) : EG l D cy R mi Ts A Xt Q cells slots pc lv (.long y :: .long x :: rest) L Sh M J := by
  subst hn
  intro p e s m args below meth c H locs ls X hP hD hS hl
  exact W.lcmp X.1.1 X.1.2.1 hd (k _ _ _ _ _ _ _ _ _ _ _ X hP hD hS hl)
theorem G_dup {va : Value} (hd : decode mi.2.1 pc = .ok (.dup, 1)) (hva : va.category = 1) (hn : pc + 1 = n) (k : EG l D cy R mi Ts A Xt Q cells slots n lv (va :: va :: rest) L Sh M J) : EG l D cy R mi Ts A Xt Q cells slots pc lv (va :: rest) L Sh M J := by
  subst hn
  intro p e s m args below meth c H locs ls X hP hD hS hl
  exact lv_dup X.1.1 X.1.2.1 hd hva (k _ _ _ _ _ _ _ _ _ _ _ X hP hD hS hl)
theorem G_iconst {z : Int} {v : Int32} (hd : decode mi.2.1 pc = .ok (.iconst z, 1)) (hv : Int32.ofInt z = v) (hn : pc + 1 = n) (k : EG l D cy R mi Ts A Xt Q cells slots n lv (.int v :: rest) L Sh M J) : EG l D cy R mi Ts A Xt Q cells slots pc lv (rest) L Sh M J := by
  subst hn
  intro p e s m args below meth c H locs ls X hP hD hS hl
  exact lv_iconst X.1.1 X.1.2.1 hd hv (k _ _ _ _ _ _ _ _ _ _ _ X hP hD hS hl)
theorem G_bipush {z : Int} {v : Int32} (hd : decode mi.2.1 pc = .ok (.bipush z, 2)) (hv : (Int8.ofInt z).toInt32 = v) (hn : pc + 2 = n) (k : EG l D cy R mi Ts A Xt Q cells slots n lv (.int v :: rest) L Sh M J) : EG l D cy R mi Ts A Xt Q cells slots pc lv (rest) L Sh M J := by
  subst hn
  intro p e s m args below meth c H locs ls X hP hD hS hl
  exact lv_bipush X.1.1 X.1.2.1 hd hv (k _ _ _ _ _ _ _ _ _ _ _ X hP hD hS hl)
theorem G_iload_n {z : Fin 4} {x : Int32} (hd : decode mi.2.1 pc = .ok (.iload_n z, 1)) (hg : lvG (z : Nat) lv = some (.int x)) (hn : pc + 1 = n) (k : EG l D cy R mi Ts A Xt Q cells slots n lv (.int x :: rest) L Sh M J) : EG l D cy R mi Ts A Xt Q cells slots pc lv (rest) L Sh M J := by
  subst hn
  intro p e s m args below meth c H locs ls X hP hD hS hl
  exact lv_iload_n X.1.1 X.1.2.1 hd rfl (lvG_at hl hg) (k _ _ _ _ _ _ _ _ _ _ _ X hP hD hS hl)
theorem G_iload {z : Nat} {x : Int32} (hd : decode mi.2.1 pc = .ok (.iload z, 2)) (hg : lvG z lv = some (.int x)) (hn : pc + 2 = n) (k : EG l D cy R mi Ts A Xt Q cells slots n lv (.int x :: rest) L Sh M J) : EG l D cy R mi Ts A Xt Q cells slots pc lv (rest) L Sh M J := by
  subst hn
  intro p e s m args below meth c H locs ls X hP hD hS hl
  exact lv_iload X.1.1 X.1.2.1 hd (lvG_at hl hg) (k _ _ _ _ _ _ _ _ _ _ _ X hP hD hS hl)
theorem G_istore_n {z : Fin 4} {x : Int32} {lv' : LV} (hd : decode mi.2.1 pc = .ok (.istore_n z, 1)) (hb : (z : Nat) < mi.2.2.1) (hs : lvS1 (z : Nat) (.int x) lv = lv') (hn : pc + 1 = n) (k : EG l D cy R mi Ts A Xt Q cells slots n lv' rest L Sh M J) : EG l D cy R mi Ts A Xt Q cells slots pc lv (.int x :: rest) L Sh M J := by
  subst hn
  subst hs
  intro p e s m args below meth c H locs ls X hP hD hS hl
  exact lv_istore_n X.1.1 X.1.2.1 hd rfl hl hb rfl (fun ls2 hl2 => k _ _ _ _ _ _ _ _ _ _ _ X hP hD hS (hl2.mono (fun q hq => lvS_mem hq)))
theorem G_istore {z : Nat} {x : Int32} {lv' : LV} (hd : decode mi.2.1 pc = .ok (.istore z, 2)) (hb : z < mi.2.2.1) (hs : lvS1 z (.int x) lv = lv') (hn : pc + 2 = n) (k : EG l D cy R mi Ts A Xt Q cells slots n lv' rest L Sh M J) : EG l D cy R mi Ts A Xt Q cells slots pc lv (.int x :: rest) L Sh M J := by
  subst hn
  subst hs
  intro p e s m args below meth c H locs ls X hP hD hS hl
  exact lv_istore X.1.1 X.1.2.1 hd hl hb rfl (fun ls2 hl2 => k _ _ _ _ _ _ _ _ _ _ _ X hP hD hS (hl2.mono (fun q hq => lvS_mem hq)))
theorem G_aload_n {z : Fin 4} {x : Nat} (hd : decode mi.2.1 pc = .ok (.aload_n z, 1)) (hg : lvG (z : Nat) lv = some (.ref x)) (hn : pc + 1 = n) (k : EG l D cy R mi Ts A Xt Q cells slots n lv (.ref x :: rest) L Sh M J) : EG l D cy R mi Ts A Xt Q cells slots pc lv (rest) L Sh M J := by
  subst hn
  intro p e s m args below meth c H locs ls X hP hD hS hl
  exact lv_aload_n X.1.1 X.1.2.1 hd rfl (lvG_at hl hg) (k _ _ _ _ _ _ _ _ _ _ _ X hP hD hS hl)
theorem G_aload {z : Nat} {x : Nat} (hd : decode mi.2.1 pc = .ok (.aload z, 2)) (hg : lvG z lv = some (.ref x)) (hn : pc + 2 = n) (k : EG l D cy R mi Ts A Xt Q cells slots n lv (.ref x :: rest) L Sh M J) : EG l D cy R mi Ts A Xt Q cells slots pc lv (rest) L Sh M J := by
  subst hn
  intro p e s m args below meth c H locs ls X hP hD hS hl
  exact lv_aload X.1.1 X.1.2.1 hd (lvG_at hl hg) (k _ _ _ _ _ _ _ _ _ _ _ X hP hD hS hl)
theorem G_astore_n {z : Fin 4} {x : Nat} {lv' : LV} (hd : decode mi.2.1 pc = .ok (.astore_n z, 1)) (hb : (z : Nat) < mi.2.2.1) (hs : lvS1 (z : Nat) (.ref x) lv = lv') (hn : pc + 1 = n) (k : EG l D cy R mi Ts A Xt Q cells slots n lv' rest L Sh M J) : EG l D cy R mi Ts A Xt Q cells slots pc lv (.ref x :: rest) L Sh M J := by
  subst hn
  subst hs
  intro p e s m args below meth c H locs ls X hP hD hS hl
  exact lv_astore_n X.1.1 X.1.2.1 hd rfl hl hb rfl (fun ls2 hl2 => k _ _ _ _ _ _ _ _ _ _ _ X hP hD hS (hl2.mono (fun q hq => lvS_mem hq)))
theorem G_astore {z : Nat} {x : Nat} {lv' : LV} (hd : decode mi.2.1 pc = .ok (.astore z, 2)) (hb : z < mi.2.2.1) (hs : lvS1 z (.ref x) lv = lv') (hn : pc + 2 = n) (k : EG l D cy R mi Ts A Xt Q cells slots n lv' rest L Sh M J) : EG l D cy R mi Ts A Xt Q cells slots pc lv (.ref x :: rest) L Sh M J := by
  subst hn
  subst hs
  intro p e s m args below meth c H locs ls X hP hD hS hl
  exact lv_astore X.1.1 X.1.2.1 hd hl hb rfl (fun ls2 hl2 => k _ _ _ _ _ _ _ _ _ _ _ X hP hD hS (hl2.mono (fun q hq => lvS_mem hq)))
theorem G_iinc {z : Nat} {i : Int} {x v : Int32} {lv' : LV} (hd : decode mi.2.1 pc = .ok (.iinc z i, 3)) (hg : lvG z lv = some (.int x)) (hv : x + Int32.ofInt i = v) (hb : z < mi.2.2.1) (hs : lvS1 z (.int v) lv = lv') (hn : pc + 3 = n) (k : EG l D cy R mi Ts A Xt Q cells slots n lv' rest L Sh M J) : EG l D cy R mi Ts A Xt Q cells slots pc lv rest L Sh M J := by
  subst hn
  subst hs
  intro p e s m args below meth c H locs ls X hP hD hS hl
  obtain ⟨j, hj⟩ := List.getElem?_of_mem (lvG_mem hg)
  exact lv_iinc X.1.1 X.1.2.1 hd hl hj hv hb rfl (fun ls2 hl2 => k _ _ _ _ _ _ _ _ _ _ _ X hP hD hS (hl2.mono (fun q hq => lvS_mem hq)))
theorem G_if_eq {x : Int32} {off : Int} {tgt : Nat} (hd : decode mi.2.1 pc = .ok (.ifCond .eq off, 3)) (ht : (pc : Int) + off = (tgt : Int)) (hn : pc + 3 = n) (kt : x = 0 → EG l D cy R mi Ts A Xt Q cells slots tgt lv rest L Sh M J) (kf : ¬ x = 0 → EG l D cy R mi Ts A Xt Q cells slots n lv rest L Sh M J) : EG l D cy R mi Ts A Xt Q cells slots pc lv (.int x :: rest) L Sh M J := by
  subst hn
  intro p e s m args below meth c H locs ls X hP hD hS hl
  exact lv_if_eq X.1.1 X.1.2.1 hd ht (fun h => kt h _ _ _ _ _ _ _ _ _ _ _ X hP hD hS hl) (fun h => kf h _ _ _ _ _ _ _ _ _ _ _ X hP hD hS hl)
theorem G_if_ne {x : Int32} {off : Int} {tgt : Nat} (hd : decode mi.2.1 pc = .ok (.ifCond .ne off, 3)) (ht : (pc : Int) + off = (tgt : Int)) (hn : pc + 3 = n) (kt : ¬ x = 0 → EG l D cy R mi Ts A Xt Q cells slots tgt lv rest L Sh M J) (kf : x = 0 → EG l D cy R mi Ts A Xt Q cells slots n lv rest L Sh M J) : EG l D cy R mi Ts A Xt Q cells slots pc lv (.int x :: rest) L Sh M J := by
  subst hn
  intro p e s m args below meth c H locs ls X hP hD hS hl
  exact lv_if_ne X.1.1 X.1.2.1 hd ht (fun h => kt h _ _ _ _ _ _ _ _ _ _ _ X hP hD hS hl) (fun h => kf h _ _ _ _ _ _ _ _ _ _ _ X hP hD hS hl)
theorem G_if_lt {x : Int32} {off : Int} {tgt : Nat} (hd : decode mi.2.1 pc = .ok (.ifCond .lt off, 3)) (ht : (pc : Int) + off = (tgt : Int)) (hn : pc + 3 = n) (kt : x < 0 → EG l D cy R mi Ts A Xt Q cells slots tgt lv rest L Sh M J) (kf : ¬ x < 0 → EG l D cy R mi Ts A Xt Q cells slots n lv rest L Sh M J) : EG l D cy R mi Ts A Xt Q cells slots pc lv (.int x :: rest) L Sh M J := by
  subst hn
  intro p e s m args below meth c H locs ls X hP hD hS hl
  exact lv_if_lt X.1.1 X.1.2.1 hd ht (fun h => kt h _ _ _ _ _ _ _ _ _ _ _ X hP hD hS hl) (fun h => kf h _ _ _ _ _ _ _ _ _ _ _ X hP hD hS hl)
theorem G_icmp_eq {x y : Int32} {off : Int} {tgt : Nat} (hd : decode mi.2.1 pc = .ok (.if_icmp .eq off, 3)) (ht : (pc : Int) + off = (tgt : Int)) (hn : pc + 3 = n) (kt : x = y → EG l D cy R mi Ts A Xt Q cells slots tgt lv rest L Sh M J) (kf : ¬ x = y → EG l D cy R mi Ts A Xt Q cells slots n lv rest L Sh M J) : EG l D cy R mi Ts A Xt Q cells slots pc lv (.int y :: .int x :: rest) L Sh M J := by
  subst hn
  intro p e s m args below meth c H locs ls X hP hD hS hl
  exact lv_icmp_eq X.1.1 X.1.2.1 hd ht (fun h => kt h _ _ _ _ _ _ _ _ _ _ _ X hP hD hS hl) (fun h => kf h _ _ _ _ _ _ _ _ _ _ _ X hP hD hS hl)
theorem G_icmp_ne {x y : Int32} {off : Int} {tgt : Nat} (hd : decode mi.2.1 pc = .ok (.if_icmp .ne off, 3)) (ht : (pc : Int) + off = (tgt : Int)) (hn : pc + 3 = n) (kt : ¬ x = y → EG l D cy R mi Ts A Xt Q cells slots tgt lv rest L Sh M J) (kf : x = y → EG l D cy R mi Ts A Xt Q cells slots n lv rest L Sh M J) : EG l D cy R mi Ts A Xt Q cells slots pc lv (.int y :: .int x :: rest) L Sh M J := by
  subst hn
  intro p e s m args below meth c H locs ls X hP hD hS hl
  exact lv_icmp_ne X.1.1 X.1.2.1 hd ht (fun h => kt h _ _ _ _ _ _ _ _ _ _ _ X hP hD hS hl) (fun h => kf h _ _ _ _ _ _ _ _ _ _ _ X hP hD hS hl)
theorem G_icmp_lt {x y : Int32} {off : Int} {tgt : Nat} (hd : decode mi.2.1 pc = .ok (.if_icmp .lt off, 3)) (ht : (pc : Int) + off = (tgt : Int)) (hn : pc + 3 = n) (kt : x < y → EG l D cy R mi Ts A Xt Q cells slots tgt lv rest L Sh M J) (kf : ¬ x < y → EG l D cy R mi Ts A Xt Q cells slots n lv rest L Sh M J) : EG l D cy R mi Ts A Xt Q cells slots pc lv (.int y :: .int x :: rest) L Sh M J := by
  subst hn
  intro p e s m args below meth c H locs ls X hP hD hS hl
  exact lv_icmp_lt X.1.1 X.1.2.1 hd ht (fun h => kt h _ _ _ _ _ _ _ _ _ _ _ X hP hD hS hl) (fun h => kf h _ _ _ _ _ _ _ _ _ _ _ X hP hD hS hl)
theorem G_icmp_gt {x y : Int32} {off : Int} {tgt : Nat} (hd : decode mi.2.1 pc = .ok (.if_icmp .gt off, 3)) (ht : (pc : Int) + off = (tgt : Int)) (hn : pc + 3 = n) (kt : y < x → EG l D cy R mi Ts A Xt Q cells slots tgt lv rest L Sh M J) (kf : ¬ y < x → EG l D cy R mi Ts A Xt Q cells slots n lv rest L Sh M J) : EG l D cy R mi Ts A Xt Q cells slots pc lv (.int y :: .int x :: rest) L Sh M J := by
  subst hn
  intro p e s m args below meth c H locs ls X hP hD hS hl
  exact lv_icmp_gt X.1.1 X.1.2.1 hd ht (fun h => kt h _ _ _ _ _ _ _ _ _ _ _ X hP hD hS hl) (fun h => kf h _ _ _ _ _ _ _ _ _ _ _ X hP hD hS hl)
theorem G_goto {off : Int} {tgt : Nat} (hd : decode mi.2.1 pc = .ok (.goto off, 3)) (ht : (pc : Int) + off = (tgt : Int)) (k : EG l D cy R mi Ts A Xt Q cells slots tgt lv rest L Sh M J) : EG l D cy R mi Ts A Xt Q cells slots pc lv rest L Sh M J := by
  intro p e s m args below meth c H locs ls X hP hD hS hl
  exact lv_goto X.1.1 X.1.2.1 hd ht (k _ _ _ _ _ _ _ _ _ _ _ X hP hD hS hl)
theorem G_tswO {dflt lo hi : Int} {offs : Array Int} {len : Nat} {x : Int32} {tgt : Nat} (hd : decode mi.2.1 pc = .ok (.tableswitch dflt lo hi offs, len)) (h : x.toInt < lo ∨ hi < x.toInt) (ht : (pc : Int) + dflt = (tgt : Int)) (k : EG l D cy R mi Ts A Xt Q cells slots tgt lv rest L Sh M J) : EG l D cy R mi Ts A Xt Q cells slots pc lv (.int x :: rest) L Sh M J := by
  intro p e s m args below meth c H locs ls X hP hD hS hl
  exact lv_tableOut X.1.1 X.1.2.1 hd h ht (k _ _ _ _ _ _ _ _ _ _ _ X hP hD hS hl)
theorem G_tswI {dflt lo hi off : Int} {offs : Array Int} {len : Nat} {x : Int32} {tgt : Nat} (hd : decode mi.2.1 pc = .ok (.tableswitch dflt lo hi offs, len)) (h1 : ¬ x.toInt < lo) (h2 : ¬ hi < x.toInt) (ho : offs[(x.toInt - lo).toNat]? = some off) (ht : (pc : Int) + off = (tgt : Int)) (k : EG l D cy R mi Ts A Xt Q cells slots tgt lv rest L Sh M J) : EG l D cy R mi Ts A Xt Q cells slots pc lv (.int x :: rest) L Sh M J := by
  intro p e s m args below meth c H locs ls X hP hD hS hl
  exact lv_tableIn X.1.1 X.1.2.1 hd h1 h2 ho ht (k _ _ _ _ _ _ _ _ _ _ _ X hP hD hS hl)
theorem G_getV {a ci k idx : Nat} {rf : Nat → Option Nat} {v : Value} (hd : decode mi.2.1 pc = .ok (.getfield idx, 3)) (hw : fr_link mi.1.cls idx ci k) (ha : fr_at L Sh a (.inl (ci, rf))) (hv : (if fr_isR ci k = true then va_rf (rf k) else .int (M a k)) = v) (hn : pc + 3 = n) (K : EG l D cy R mi Ts A Xt Q cells slots n lv (v :: rest) L Sh M J) : EG l D cy R mi Ts A Xt Q cells slots pc lv (.ref a :: rest) L Sh M J := by
  subst hn
  intro p e s m args below meth c H locs ls X hP hD hS hl
  obtain ⟨q, hq⟩ := fr_place (cy := cy) (Sh := Sh) (M := M) (J := J) ha.1
  rw [fr_E_obj ha.2] at hq
  have hg := fr_F_get rf (M a) hw.2.1
  rw [hv] at hg
  have K' := K _ e _ _ _ below _ _ _ _ _ X hP hD hS hl
  rcases hw.2.2 with hk | ⟨host, hk⟩
  · exact va_get (Ts := Ts) X.1.1 X.1.2.1 X.1.2.2.2.2.1 (fun w h => X.1.2.2.2.2.2.2.2.1 _ (fr_lay hw.1 w h)) X.1.2.2.2.2.2.1 X.1.2.2.2.2.2.2.2.2.1 hP q hq (fr_cl hw.1) k hw.2.1 (X.1.2.2.2.2.1 _ (X.1.2.2.2.2.2.2.2.1 _ hk)) (fun _ h => h) hg hd K'
  · exact va_getN (Ts := Ts) X.1.1 X.1.2.1 X.1.2.2.2.2.1 (fun w h => X.1.2.2.2.2.2.2.2.1 _ (fr_lay hw.1 w h)) X.1.2.2.2.2.2.1 X.1.2.2.2.2.2.2.2.2.1 hP q hq (fr_cl hw.1) k hw.2.1 (va_Nw.use rfl (X.1.2.2.2.2.2.2.2.2.2.1.1 _ hk)) (fun _ h => h) hg hd K'
theorem G_getI {a ci k idx : Nat} {rf : Nat → Option Nat} {v : Int32} (hd : decode mi.2.1 pc = .ok (.getfield idx, 3)) (hw : fr_link mi.1.cls idx ci k) (ha : fr_at L Sh a (.inl (ci, rf))) (hi : fr_isR ci k = false) (hv : M a k = v) (hn : pc + 3 = n) (K : EG l D cy R mi Ts A Xt Q cells slots n lv (.int v :: rest) L Sh M J) : EG l D cy R mi Ts A Xt Q cells slots pc lv (.ref a :: rest) L Sh M J := G_getV hd hw ha (by rw [hi, hv]; rfl) hn K
theorem G_getR {a ci k idx r : Nat} {rf : Nat → Option Nat} (hd : decode mi.2.1 pc = .ok (.getfield idx, 3)) (hw : fr_link mi.1.cls idx ci k) (ha : fr_at L Sh a (.inl (ci, rf))) (hi : fr_isR ci k = true) (hv : rf k = some r) (hn : pc + 3 = n) (K : EG l D cy R mi Ts A Xt Q cells slots n lv (.ref r :: rest) L Sh M J) : EG l D cy R mi Ts A Xt Q cells slots pc lv (.ref a :: rest) L Sh M J := G_getV hd hw ha (by rw [hi, hv]; rfl) hn K
theorem G_lald {a N j : Nat} {v : Int64} (hd : decode mi.2.1 pc = .ok (.laload, 1)) (ha : fr_at L Sh a (.inr (.inl (2, N)))) (hj : j < N) (hN : N < 2 ^ 31) (hv : J a j = v) (hn : pc + 1 = n) (K : EG l D cy R mi Ts A Xt Q cells slots n lv (.long v :: rest) L Sh M J) : EG l D cy R mi Ts A Xt Q cells slots pc lv (.int (nI j) :: .ref a :: rest) L Sh M J := by
  subst hn
  subst hv
  intro p e s m args below meth c H locs ls X hP hD hS hl
  obtain ⟨q, hq⟩ := fr_place (cy := cy) (Sh := Sh) (M := M) (J := J) ha.1
  rw [fr_E_j ha.2] at hq
  obtain ⟨h1, h2⟩ := fr_vin hj hN
  refine va_lald X.1.1 X.1.2.1 X.1.2.2.2.2.2.2.2.2.1 hP q 2 hq rfl h1 hd ?_
  rw [h2]
  exact K _ _ _ _ _ _ _ _ _ _ _ X hP hD hS hl
theorem G_aald {a N j r : Nat} {rf : Nat → Option Nat} (hd : decode mi.2.1 pc = .ok (.aaload, 1)) (ha : fr_at L Sh a (.inr (.inr (N, rf)))) (hj : j < N) (hN : N < 2 ^ 31) (hv : rf j = some r) (hn : pc + 1 = n) (K : EG l D cy R mi Ts A Xt Q cells slots n lv (.ref r :: rest) L Sh M J) : EG l D cy R mi Ts A Xt Q cells slots pc lv (.int (nI j) :: .ref a :: rest) L Sh M J := by
  subst hn
  intro p e s m args below meth c H locs ls X hP hD hS hl
  obtain ⟨q, hq⟩ := fr_place (cy := cy) (Sh := Sh) (M := M) (J := J) ha.1
  rw [fr_E_a ha.2] at hq
  obtain ⟨h1, h2⟩ := fr_vin hj hN
  refine va_aldq X.1.1 X.1.2.1 X.1.2.2.2.2.2.2.2.2.1 hP q 3 hq rfl h1 hd ?_
  rw [h2, hv]
  exact K _ _ _ _ _ _ _ _ _ _ _ X hP hD hS hl
theorem G_last {a N j : Nat} {v : Int64} (hd : decode mi.2.1 pc = .ok (.lastore, 1)) (ha : fr_at L Sh a (.inr (.inl (2, N)))) (hj : j < N) (hN : N < 2 ^ 31) (hn : pc + 1 = n) (K : EG l D cy R mi Ts A Xt Q cells slots n lv rest L Sh M (sJ J a j v)) : EG l D cy R mi Ts A Xt Q cells slots pc lv (.long v :: .int (nI j) :: .ref a :: rest) L Sh M J := by
  subst hn
  intro p e s m args below meth c H locs ls X hP hD hS hl
  obtain ⟨q, hq⟩ := fr_place (cy := cy) (Sh := Sh) (M := M) (J := J) ha.1
  have hset : ∀ e : va_E, (va_pl L (fr_E cy Sh M J)).set q (a, e) = va_pl L (va_up (fr_E cy Sh M J) a e) := fun e => va_pl_set (X := []) hD ha.1 hq
  rw [fr_E_j ha.2] at hq
  obtain ⟨h1, h2⟩ := fr_vin hj hN
  refine va_last X.1.1 X.1.2.1 X.1.2.2.2.2.2.2.2.2.1 hP hD hS q 2 hq rfl h1 hd (fun H1 locs1 hP1 hD1 hS1 => ?_)
  rw [h2, hset, fr_U_j ha.2] at hP1 hD1
  exact K _ _ _ _ _ _ _ _ _ _ _ X hP1 hD1 hS1 hl
theorem G_widen {k1 k2 : Nat} (h1 : cells ≤ k1) (h2 : slots ≤ k2) (k : EG l D cy R mi Ts A Xt Q k1 k2 pc lv st L Sh M J) : EG l D cy R mi Ts A Xt Q cells slots pc lv st L Sh M J := by
  intro p e s m args below meth c H locs ls X hP hD hS hl
  exact W.widen h1 h2 (k _ _ _ _ _ _ _ _ _ _ _ X hP hD hS hl)
theorem G_st {st' : List Value} {lv' : LV} (h1 : st = st') (h2 : lv = lv') (k : EG l D cy R mi Ts A Xt Q cells slots pc lv' st' L Sh M J) : EG l D cy R mi Ts A Xt Q cells slots pc lv st L Sh M J := by
  subst h1; subst h2; exact k
theorem g_good {Ts : List Cond} (hT : ∀ w ∈ lwg, w ∈ Ts) {ws : List Cond} (h : ∀ w ∈ ws, w ∈ lwg) : GoodIn Ts ws := fun w hw => ⟨hT w (h w hw), good_of_word (lwg_good (h w hw))⟩
theorem g_wsV {own : String} {idx na : Nat} {mj : MI} {C : String} (h : fr_mlink own idx mj C na) : ∀ w ∈ wsV own idx C mj.1 (fr_ws mj), w ∈ lwg := by
  intro w hw
  rcases List.mem_append.mp hw with e | e
  · simp only [List.mem_cons, List.not_mem_nil, or_false] at e
    rcases e with rfl | rfl | rfl | rfl
    · exact h.1
    · exact h.2.1
    · exact h.2.2.1
    · exact h.2.2.2.1
  · rcases List.mem_cons.mp e with e | e
    · rw [e]; exact h.2.2.2.2.1
    · exact e
theorem g_ws {mj : MI} (h : Cond.code mj.1 mj.2.1 mj.2.2.1 mj.2.2.2 ∈ lwg) : ∀ w ∈ fr_ws mj, w ∈ lwg := by
  intro w hw
  rcases List.mem_cons.mp hw with e | e
  · rw [e]; exact h
  · exact e
theorem g_room {d1 mc1 ms1 k : Nat} (h : d1 + 1 ≤ R.frames) (hl : 100 * d1 + 99 ≤ R.locals) (hk : k ≤ 80) : (fr_rm d1 mc1 ms1).frames + 1 ≤ R.frames ∧ 8 + (k + 11) + (fr_rm d1 mc1 ms1).locals ≤ R.locals := by
  refine ⟨h, ?_⟩
  show 8 + (k + 11) + 100 * d1 ≤ R.locals
  omega
/-- a call of a method of an object -/
theorem G_callV {mj : MI} {b ci idx na d1 mc1 ms1 : Nat} {rf : Nat → Option Nat} (As : List Value) {Post1 : PST} (hd : decode mi.2.1 pc = .ok (.invokevirtual idx, 3)) (hw : fr_mlink mi.1.cls idx mj (fr_RR ci) na) (hci : ci < 5) (hb : fr_at L Sh b (.inl (ci, rf))) (hst : As.reverse ++ .ref b :: rest = st) (hlen : As.length = na) (hroom : (rest.map fun v => v.category).sum ≤ 8)
    (hM : Cn l D cy d1 mc1 ms1 mj (.ref b :: As) L Sh M J Post1) (hd1 : d1 + 1 ≤ R.frames) (hlo : 100 * d1 + 99 ≤ R.locals) (hc : cells + mc1 ≤ R.cells) (hs : slots + ms1 ≤ R.slots) (hn : pc + 3 = n)
    (K : ∀ r L1 Sh1 M1 J1, Post1 r L1 Sh1 M1 J1 → EG l D cy R mi Ts A Xt Q (cells + mc1) (slots + ms1) n lv (r.toList ++ rest) L1 Sh1 M1 J1) : EG l D cy R mi Ts A Xt Q cells slots pc lv st L Sh M J := by
  subst hn
  subst hst
  intro p e s m args below meth c H locs ls X hP hD hS hl
  obtain ⟨q, hq⟩ := fr_place (cy := cy) (Sh := Sh) (M := M) (J := J) hb.1
  rw [fr_E_obj hb.2] at hq
  have hF := fr_free hD hS X.1.2.2.2.2.2.2.2.2.2.2
  refine fr_call (va_runV (As := As) (rest := rest) (Ts := Ts) ⟨X.1.1, X.1.2.1, X.1.2.2.2.1, X.1.2.2.2.2.2.1, X.1.2.2.2.2.1⟩ (hM H.size) (cwV na X.1.2.2.2.2.1 (g_good X.1.2.2.2.2.2.2.2.1 (g_wsV hw)) rfl rfl rfl hw.2.2.2.2.2.1 (g_room hd1 hlo hw.2.2.2.2.2.2)) ⟨fr_blind, va_recv X.1.2.2.2.2.2.2.2.2.1 hP (fr_cl hci) hq, fun U hU hW => ⟨rfl, by rw [hU], by rw [hU]; exact hP, va_K.moved hW.alike X.1.2.2.2.2.2.2.2.2.1, hD.weaken (fun _ _ _ _ => trivial), fr_NW.warm hW X.1.2.2.2.2.2.2.2.2.2.1⟩⟩ rfl hlen hl.1 rfl (lv_room hroom) hd ⟨hc, hs⟩) hS (fun q _ h => hF q h) hF (fun r L1 Sh1 M1 J1 t H1 locs1 ht hvm hp1 hP1 hD1 hz1 hk1 hS1 => ?_)
  exact K r L1 Sh1 M1 J1 hp1 _ _ _ _ _ _ _ _ _ _ _ X hP1 (hD1.weaken (fun k q _ h => hF q.1 h)) hS1 hl
/-- .. by keys -/
theorem G_callK {mj : MI} {i ci idx na d1 : Nat} {rf : Nat → Option Nat} {q qi : Nat → Nat} {N : Mem} {K : Mej} (As : List Value) {Post1 : PK} (hd : decode mi.2.1 pc = .ok (.invokevirtual idx, 3)) (hw : fr_mlink mi.1.cls idx mj (fr_RR ci) na) (hci : ci < 5) (hW : WOK L Sh q qi) (hi : sk i = some (.inl (ci, rf))) (hst : As.reverse ++ .ref (q i) :: rest = st) (hAs : As.map (tv q) = As) (hlen : As.length = na) (hroom : (rest.map fun v => v.category).sum ≤ 8)
    (hM : CK d1 mj (.ref i :: As) N K Post1) (hd1 : d1 + 1 ≤ R.frames) (hlo : 100 * d1 + 99 ≤ R.locals) (hc : cells ≤ R.cells) (hs : slots ≤ R.slots) (hn : pc + 3 = n)
    (k : ∀ r N1 K1, Post1 r N1 K1 → EG l D cy R mi Ts A Xt Q cells slots n lv ((r.map (tv q)).toList ++ rest) L Sh (km qi N1) (kj qi K1)) : EG l D cy R mi Ts A Xt Q cells slots pc lv st L Sh (km qi N) (kj qi K) := by
  have h := hM l D cy L Sh q qi hW
  rw [List.map_cons, hAs] at h
  refine G_callV (mc1 := 0) (ms1 := 0) As hd hw hci (hW.2.2 i _ hi).2 hst hlen hroom h hd1 hlo hc hs hn ?_
  rintro r L1 Sh1 M1 J1 ⟨r', N1, K1, rfl, rfl, rfl, rfl, rfl, hp⟩
  exact k r' N1 K1 hp
end GROWS
