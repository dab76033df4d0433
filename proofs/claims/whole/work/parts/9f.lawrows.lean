/-! The law: the kit's skeleton (its head), and rows of the law. -/
def R_law : String := "HomeRingsLaw"
def lw_P (b : Addr) (xs : List Int32) (args : Array Value) (s : State) : Prop := args = #[.ref b] ∧ s.IntsAt b xs ∧ xs.length ≤ 3072 ∧ (Jvm.Cond.and given_1 narrow_1).before args s = true
def lw_Q (_ : Array Value) (s : State) (o : Outcome) (t : State) : Prop := o = .returned (some (.int 1)) ∧ Framed s o t [] 601024 7293034
def lw_Z (below : List Frame) (a : Array Value) (s : State) : State → Prop := fun t => ∃ o, t.status = .running ∧ Ended t below o ∧ lw_Q a s o t
/-- the law's own end, with 1 on the stack, nothing written that was there before, its room as the claim has it -/
theorem lw_ret {p : Program} {l : Launch} {e : Env} {s : State} {m : MethodId} {below : List Frame} {meth : Method} {c : Code} {b : Nat} (hx : p.tables.exec = Jvm.exec) (hb : c.code = code) (hr : meth.sig.returnType = ret) (hlocks : meth.locks = false) {pc : Nat} {H : Heap} {ls : Array Slot} (hdg : decode code pc = .ok (.ireturn, 1)) : W p l e room_1 s m #[Value.ref b] below meth c H [] 601024 7293034 (lw_Z below #[Value.ref b] s) (F0 m pc ls [.int 1]) := by
  intro T hT X
  obtain ⟨fs, hret, hrun, hended, hW, hframe⟩ := X.leave (v := some (.int 1)) (hlocks := hlocks) (fun h => by rw [hr] at h; cases h)
  have hmeth' : T.vm.method? m = some meth := X.method'
  refine ⟨T.setFrames fs, ?_, .returned (some (.int 1)), hrun, hended, rfl, ⟨_, rfl⟩, hW, hframe⟩
  jvm_step X.here [X.here.top, hx, hb, hdg, hmeth', hr, ret, narrow_b1]
  (try refine ⟨rfl, ?_⟩); (try refine ⟨rfl, ?_⟩)
  first | (intro acts; rw [hret _ acts rfl rfl rfl]) | rw [hret _ _ rfl rfl rfl]
  exact Steps.refl _
/-- what holds at the law's entry: the machine, the code, the tables' words (any of lw_tbl by 'hts w (by decide +kernel)'), the script of L ints xs at the cell b, what the Statement gives of the start (any of its parts by flat_of_before) -/
def lw_At (p : Program) (s : State) (m : MethodId) (meth : Method) (c : Code) (b L : Nat) (xs : Nat → Int32) : Prop :=
  p.tables.exec = Jvm.exec ∧ c.code = code ∧ meth.sig.returnType = ret ∧ c.maxLocals = 7 ∧ s.vm.findClass R_law = some m.cls ∧ (∀ w ∈ lw_tbl, w.before #[Value.ref b] s = true) ∧ va_X b L xs s s.heap ∧ b < s.heap.size ∧ meth.locks = false ∧ (Jvm.Cond.and given_1 narrow_1).before #[Value.ref b] s = true
abbrev mL : MI := (yL_law, code, 7, ret)
def lwA : State → Nat → Prop := fun s q => s.heap.size ≤ q
def lw_Xt (b Ls : Nat) (xs : Nat → Int32) (sa : Nat → Nat) : GXt := fun s args _ => args = #[Value.ref b] ∧ va_X b Ls xs s s.heap ∧ b < s.heap.size ∧ th_K sa s ∧ th_Z (lwA s) s s.heap
def lwQ : GQt := fun below args s => lw_Z below args s
abbrev EL (l : Launch) (D : va_G) (cy : Nat → ClassId) (b Ls : Nat) (xs : Nat → Int32) (sa : Nat → Nat) (cells slots pc : Nat) (lv : LV) (st : List Value) (L : List Nat) (Sh : Nat → Shp) (M : Mem) (J : Mej) : Prop := EG l D cy room_1 mL lw_tbl lwA (lw_Xt b Ls xs sa) lwQ cells slots pc lv st L Sh M J
theorem RY.fx {S : GS} {N N1 : Mem} (Y : RY S N) (F : FX N N1) : RY S N1 := Y.frame (fun k _ _ => by rw [F 40 (by decide)]) (fun i hi => F i (by omega))
theorem RX.fy {S : GS} {N N1 : Mem} {K : Mej} (R : RX S N K) (F : FY N N1) : RX S N1 K := R.frame (fun i hi => F i (by omega)) (fun _ _ => rfl)
theorem RX.k99 {S : GS} {N : Mem} {K : Mej} (R : RX S N K) (j : Nat) (v : Int64) : RX S N (sJ K 99 j v) := R.frame (fun _ _ => rfl) (fun f _ => by rw [sJ_at, if_neg (by omega)])
section LROWS
variable {l : Launch} {D : va_G} {cy : Nat → ClassId} {b Ls : Nat} {xs : Nat → Int32} {sa : Nat → Nat} {cells slots pc n : Nat} {lv : LV} {st rest : List Value} {L : List Nat} {Sh : Nat → Shp} {M : Mem} {J : Mej}
theorem L_sub {lv' : LV} (h : ∀ p ∈ lv', p ∈ lv) (k : EL l D cy b Ls xs sa cells slots pc lv' st L Sh M J) : EL l D cy b Ls xs sa cells slots pc lv st L Sh M J := by
  intro p e s m args below meth c H locs ls X hP hD hS hl
  exact k _ _ _ _ _ _ _ _ _ _ _ X hP hD hS (hl.mono h)
theorem L_sld {j : Nat} (hd : decode code pc = .ok (.iaload, 1)) (hj : j < Ls) (hL : Ls ≤ 3072) (hn : pc + 1 = n) (k : EL l D cy b Ls xs sa cells slots n lv (.int (xs j) :: rest) L Sh M J) : EL l D cy b Ls xs sa cells slots pc lv (.int (nI j) :: .ref b :: rest) L Sh M J := by
  subst hn
  intro p e s m args below meth c H locs ls X hP hD hS hl
  obtain ⟨h1, h2⟩ := fr_vin hj (show Ls < 2 ^ 31 by omega)
  refine va_sld (A := lwA s) X.1.1 X.1.2.1 X.2.2.1 X.2.2.2.1 (Nat.not_le.mpr X.2.2.2.1) hS h1 hd ?_
  rw [h2]
  exact k _ _ _ _ _ _ _ _ _ _ _ X hP hD hS hl
theorem L_slen (hd : decode code pc = .ok (.arraylength, 1)) (hn : pc + 1 = n) (k : EL l D cy b Ls xs sa cells slots n lv (.int (nI Ls) :: rest) L Sh M J) : EL l D cy b Ls xs sa cells slots pc lv (.ref b :: rest) L Sh M J := by
  subst hn
  intro p e s m args below meth c H locs ls X hP hD hS hl
  exact va_slen (A := lwA s) X.1.1 X.1.2.1 X.2.2.1 X.2.2.2.1 (Nat.not_le.mpr X.2.2.2.1) hS hd (k _ _ _ _ _ _ _ _ _ _ _ X hP hD hS hl)
theorem L_ret (hd : decode code pc = .ok (.ireturn, 1)) (hc : cells ≤ 601024) (hs : slots ≤ 7293034) : EL l D cy b Ls xs sa cells slots pc lv [.int 1] L Sh M J := by
  intro p e s m args below meth c H locs ls X hP hD hS hl
  have ha := X.2.1
  subst ha
  exact va_forget hS.2.2 (W.widen hc hs (lw_ret X.1.1 X.1.2.1 X.1.2.2.1 X.1.2.2.2.2.2.2.1 hd))
/-- script[i + c] -/
theorem L_arg {i0 c : Nat} {z : Int} (d0 : decode code pc = .ok (.aload_n 0, 1)) (d1 : decode code (pc + 1) = .ok (.iload 4, 2)) (d3 : decode code (pc + 3) = .ok (.iconst z, 1)) (d4 : decode code (pc + 4) = .ok (.iadd, 1)) (d5 : decode code (pc + 5) = .ok (.iaload, 1)) (h0 : lvG 0 lv = some (.ref b)) (h4 : lvG 4 lv = some (.int (nI i0))) (hv : Int32.ofInt z = nI c) (hi : i0 + c < Ls) (hL : Ls ≤ 3072) (hn : pc + 6 = n) (k : EL l D cy b Ls xs sa cells slots n lv (.int (xs (i0 + c)) :: rest) L Sh M J) : EL l D cy b Ls xs sa cells slots pc lv rest L Sh M J := by
  refine G_aload_n d0 h0 rfl ?_
  refine G_iload d1 h4 rfl ?_
  refine G_iconst d3 hv rfl ?_
  refine G_iadd d4 rfl ?_
  rw [nI_add]
  exact L_sld d5 hi hL hn k
/-- x != 0 as a truth -/
theorem L_bool {x : Int32} {o1 o2 : Int} (d0 : decode code pc = .ok (.ifCond .eq o1, 3)) (t0 : (pc : Int) + o1 = ((pc + 7 : Nat) : Int)) (d3 : decode code (pc + 3) = .ok (.iconst 1, 1)) (d4 : decode code (pc + 4) = .ok (.goto o2, 3)) (t4 : ((pc + 4 : Nat) : Int) + o2 = ((pc + 8 : Nat) : Int)) (d7 : decode code (pc + 7) = .ok (.iconst 0, 1)) (hn : pc + 8 = n) (k : EL l D cy b Ls xs sa cells slots n lv (.int (bI (decide (¬ x = 0))) :: rest) L Sh M J) : EL l D cy b Ls xs sa cells slots pc lv (.int x :: rest) L Sh M J := by
  subst hn
  refine G_if_eq d0 t0 rfl (fun c0 => ?_) (fun c0 => ?_)
  · refine G_iconst (v := bI (decide (¬ x = 0))) d7 (by rw [decide_eq_false (fun h => h c0)]; rfl) rfl ?_
    exact k
  · refine G_iconst (v := bI (decide (¬ x = 0))) d3 (by rw [decide_eq_true c0]; rfl) rfl ?_
    exact G_goto d4 t4 k
/-- a helper of the law -/
theorem L_help {mj : MI} {hh : List (Nat × Nat × Nat × Nat)} {idx na : Nat} (As : List Value) {Post1 : PST} (hd : decode code pc = .ok (.invokestatic idx, 3)) (hw : Cond.methodLink RL idx mj.1 ∈ lwg ∧ Cond.static mj.1 ∈ lwg ∧ Cond.initialized mj.1.cls ∈ lwg ∧ Cond.codeWith mj.1 mj.2.1 mj.2.2.1 mj.2.2.2 hh ∈ lwg) (hds : mj.1.cls ≠ "java/lang/invoke/MethodHandle" ∧ mj.1.cls ≠ "java/lang/invoke/VarHandle" ∧ (parseMethodDescriptor mj.1.desc).map (fun d => d.parameters.length) = some na) (h80 : mj.2.2.1 ≤ 80) (hst : As.reverse ++ rest = st) (hlen : As.length = na) (hroom : (rest.map fun v => v.category).sum ≤ 8)
    (hM : HX l D cy 20 sa mj hh As L Sh M J Post1) (hc : cells + 1 ≤ 601024) (hs : slots + 6 ≤ 7293034) (hn : pc + 3 = n)
    (K : ∀ r L1 Sh1 M1 J1, Post1 r L1 Sh1 M1 J1 → EL l D cy b Ls xs sa (cells + 1) (slots + 6) n lv (r.toList ++ rest) L1 Sh1 M1 J1) : EL l D cy b Ls xs sa cells slots pc lv st L Sh M J := by
  subst hn
  subst hst
  intro p e s m args below meth c H locs ls X hP hD hS hl
  have hF := fr_free hD hS X.1.2.2.2.2.2.2.2.2.2.2
  have hg : ∀ w ∈ va_wsS RL idx mj.1 (hp_ws mj hh), w ∈ lwg := by
    intro w hw'
    rcases List.mem_append.mp hw' with e | e
    · simp only [List.mem_cons, List.not_mem_nil, or_false] at e
      rcases e with rfl | rfl | rfl
      · exact hw.1
      · exact hw.2.1
      · exact hw.2.2.1
    · rcases List.mem_cons.mp e with e | e
      · rw [e]; exact hw.2.2.2
      · exact e
  refine fr_call (vx_runSW (own := RL) (As := As) (rest := rest) (Ts := lw_tbl) ⟨X.1.1, X.1.2.1, X.1.2.2.2.1, X.1.2.2.2.2.2.1, X.1.2.2.2.2.1⟩ (hM H.size) (vx_cwSW na X.1.2.2.2.2.1 (g_good X.1.2.2.2.2.2.2.2.1 hg) rfl rfl rfl hds (g_room (R := room_1) (by decide) (by decide) h80)) ⟨th_blind, fun U hU hW => ⟨⟨rfl, by rw [hU], by rw [hU]; exact hP, va_K.moved hW.alike X.1.2.2.2.2.2.2.2.2.1, hD.weaken (fun _ _ _ _ => trivial), fr_NW.warm hW X.1.2.2.2.2.2.2.2.2.2.1⟩, X.2.2.2.2.1.warm hW, by rw [hU]; exact X.2.2.2.2.2.go hS.2.1 hW.alike hF⟩⟩ rfl hlen hl.1 rfl (lv_room hroom) hd ⟨hc, hs⟩) hS (fun q _ h => hF q h) hF (fun r L1 Sh1 M1 J1 t H1 locs1 ht hvm hp1 hP1 hD1 hz1 hk1 hS1 => ?_)
  exact K r L1 Sh1 M1 J1 hp1 _ _ _ _ _ _ _ _ _ _ _ X hP1 (hD1.weaken (fun k q _ h => hF q.1 h)) hS1 hl
end LROWS
theorem hw_of : Cond.methodLink RL 60 mL_of.1 ∈ lwg ∧ Cond.static mL_of.1 ∈ lwg ∧ Cond.initialized mL_of.1.cls ∈ lwg ∧ Cond.codeWith mL_of.1 mL_of.2.1 mL_of.2.2.1 mL_of.2.2.2 hh_of ∈ lwg := ⟨lwg_of (by decide +kernel) rfl, lwg_of (by decide +kernel) rfl, lwg_of (by decide +kernel) rfl, lwg_of (by decide +kernel) rfl⟩
theorem hw_row : Cond.methodLink RL 131 mL_row.1 ∈ lwg ∧ Cond.static mL_row.1 ∈ lwg ∧ Cond.initialized mL_row.1.cls ∈ lwg ∧ Cond.codeWith mL_row.1 mL_row.2.1 mL_row.2.2.1 mL_row.2.2.2 hh_row ∈ lwg := ⟨lwg_of (by decide +kernel) rfl, lwg_of (by decide +kernel) rfl, lwg_of (by decide +kernel) rfl, lwg_of (by decide +kernel) rfl⟩
