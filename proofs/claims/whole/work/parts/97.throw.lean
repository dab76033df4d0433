/-! Where the class throws: what a throw needs of a state (th_K: of the tables; th_Z: of two statics), the contract TX, a throw's row; the catch; the law's helpers (HX). -/
def th_B : List Cond := (th_own.filter vx_no).filter (fun w => !goodWord w)
def th_f : Cond → Bool
  | .castable _ _ => true
  | .declares _ => true
  | _ => false
theorem th_ok : th_B.all th_f = true := by decide +kernel
theorem th_Bon {w : Cond} (h : w ∈ th_B) : w.onTables = true := by
  have h1 := List.all_eq_true.mp th_ok w h
  cases w <;> first | rfl | exact absurd (show false = true from h1) Bool.false_ne_true
theorem th_Bw {w : Cond} (h : w ∈ th_B) {s U : State} (hW : s.WarmedH U.vm) (hz : va_Nw w s) : va_Nw w U := by
  have h1 := List.all_eq_true.mp th_ok w h
  cases w <;> first | exact va_Nw.warmC hW hz | exact va_Nw.warmD hW hz | exact absurd (show false = true from h1) Bool.false_ne_true
theorem th_x0 : ∀ w ∈ (th_own.filter vx_no).filter goodWord, w ∈ lw_tbl := by decide +kernel
theorem th_g : ∀ w ∈ Cond.classLink RX3 130 nse :: Cond.initialized nse :: th_own.filter vx_no, vx_ot w = true := by decide +kernel
theorem th_cl : Cond.classLink RX3 130 nse ∈ lwg := lwg_of (by decide +kernel) rfl
theorem th_in : Cond.initialized nse ∈ lwg := lwg_of (by decide +kernel) rfl
theorem th_ct : Cond.classLink RL 13 nse ∈ lwg := lwg_of (by decide +kernel) rfl
theorem th_cb : Cond.castable nse nse ∈ th_B := by decide +kernel
def th_K (sa : Nat → Nat) (U : State) : Prop := vk_R RX3 132 "no such family" (sa 0) U ∧ vk_R RX3 153 "no such thing of a family" (sa 1) U ∧ vk_R RX3 222 "no such number of the row" (sa 2) U ∧ ∀ w ∈ th_B, va_Nw w U
def th_Z (A : Nat → Prop) (U : State) (H : Heap) : Prop := vx_Zq Bundle.tN "UNASSIGNED_STACK" Bundle.steD A U H ∧ vx_Zq Bundle.tN "SUPPRESSED_SENTINEL" Bundle.listD A U H
theorem th_K.warm {sa : Nat → Nat} {s U : State} (hW : s.WarmedH U.vm) (h : th_K sa s) : th_K sa U := ⟨h.1.warm hW, h.2.1.warm hW, h.2.2.1.warm hW, fun w hw => th_Bw hw hW (h.2.2.2 w hw)⟩
theorem th_K.same {sa : Nat → Nat} {s U : State} (hv : U.vm = s.vm) (h : th_K sa s) : th_K sa U := ⟨h.1.same hv, h.2.1.same hv, h.2.2.1.same hv, fun w hw => va_Nw.same (th_Bon hw) hv.symm (h.2.2.2 w hw)⟩
theorem th_Z.go {A B : Nat → Prop} {s U : State} {H0 H : Heap} (h : th_Z A s H0) (hk : ∀ a : Nat, a < H0.size → ¬ A a → H[a]? = H0[a]?) (hvm : s.vm.Alike U.vm) (hAB : ∀ q, B q → A q) : th_Z B U H := ⟨((h.1.kept hk).moved hvm).narrow hAB, ((h.2.kept hk).moved hvm).narrow hAB⟩
def th_Pc (D : va_G) (cy : Nat → ClassId) (sa : Nat → Nat) (args : List Value) (L : List Nat) (Sh : Nat → Shp) (M : Mem) (J : Mej) (sz : Nat) : Array Value → State → Prop := fun a U => fr_Pc D cy args L Sh M J sz a U ∧ th_K sa U ∧ th_Z (va_A (va_pl L (fr_E cy Sh M J)) sz) U U.heap
theorem th_blind {D : va_G} {cy : Nat → ClassId} {sa : Nat → Nat} {args : List Value} {L : List Nat} {Sh : Nat → Shp} {M : Mem} {J : Mej} {sz : Nat} : FrameBlind (th_Pc D cy sa args L Sh M J sz) := by
  intro a U g mk q
  exact ⟨fr_blind a U g mk q.1, q.2.1.same (s := U) rfl, q.2.2.go (H := U.heap) (fun _ _ _ => rfl) (Vm.Alike.refl U.vm) (fun _ h => h)⟩
def th_BX (D : va_G) (cy : Nat → ClassId) (L : List Nat) (Sh : Nat → Shp) (M : Mem) (J : Mej) (A : Nat → Prop) : String → Unit → State → Prop := fun E _ t => E = nse ∧ va_P D vwCl (va_pl L (fr_E cy Sh M J)) t.heap ∧ va_K D vwCl (fr_T cy) t ∧ va_D A (va_pl L (fr_E cy Sh M J))
abbrev th_Qn (A : Nat → Prop) : Array Value → State → Outcome → State → Prop := va_Qi (fun (_ : Int32) (_ : Unit) => False) (fun _ _ => True) A
abbrev th_XC (D : va_G) (cy : Nat → ClassId) (L : List Nat) (Sh : Nat → Shp) (M : Mem) (J : Mej) (A : Nat → Prop) : String → State → State → Prop := vx_X (fun _ : Unit => True) (th_BX D cy L Sh M J A) A
/-- the contract of a call that throws, at a world: the world stays -/
def TX (l : Launch) (D : va_G) (cy : Nat → ClassId) (d : Nat) (sa : Nat → Nat) (mi : MI) (args : List Value) (L : List Nat) (Sh : Nat → Shp) (M : Mem) (J : Mej) : Prop :=
  ∀ sz, vx_Met l mi.1 (fr_ws mi) (fr_rm d 1 6) (th_Pc D cy sa args L Sh M J sz) (th_Qn (va_A (va_pl L (fr_E cy Sh M J)) sz)) (th_XC D cy L Sh M J (va_A (va_pl L (fr_E cy Sh M J)) sz)) 1 6 (va_A (va_pl L (fr_E cy Sh M J)) sz)
def th_Xt (sa : Nat → Nat) (A : Nat → Prop) : GXt := fun s _ c => (∀ x ∈ c.exceptionTable.toList, False) ∧ th_K sa s ∧ th_Z A s s.heap
def th_Qt (D : va_G) (cy : Nat → ClassId) (L : List Nat) (Sh : Nat → Shp) (M : Mem) (J : Mej) (A : Nat → Prop) : GQt := fun below args s => vx_MQ below (th_Qn A) (th_XC D cy L Sh M J A) args s 1 6 A
theorem TX.start {l : Launch} {D : va_G} {cy : Nat → ClassId} {d : Nat} {sa : Nat → Nat} {mi : MI} {args : List Value} {L : List Nat} {Sh : Nat → Shp} {M : Mem} {J : Mej} (lv : LV) (hy : plainName mi.1.cls = true) (hlen : (lg_sl args).length ≤ mi.2.2.1) (hlv : lv_args 0 args = lv)
    (k : ∀ A, EG l D cy (fr_rm d 1 6) mi (fr_ws mi) (fun _ => A) (th_Xt sa A) (th_Qt D cy L Sh M J A) 0 0 0 lv [] L Sh M J) : TX l D cy d sa mi args L Sh M J := by
  intro sz
  refine vx_ofW (cc := mi.2.1) (maxL := mi.2.2.1) (ret := mi.2.2.2) hy rfl ?_
  intro p e s m args' below meth c s₁ B hml htab hv
  obtain ⟨⟨rfl, hsz, hP, hK, hD0, hN⟩, hk, hz⟩ := hv
  have hts := atoms_spec (ws := fr_ws mi) B.pre
  have hown : s.vm.findClass mi.1.cls = some m.cls := findClass_of_methodNamed B.named
  subst hsz
  have hD := hD0.self (sz := s.heap.size)
  have hl := lv_entry args (n := mi.2.2.1) hlen
  rw [hlv] at hl
  rw [lg_entry_eq]
  exact k _ p e s m args.toArray below meth c s.heap [] _ ⟨⟨B.exec, B.bytes, B.returns, hml, hts, hown, B.notSynchronized, fun w h => lwg_ws mi h, hK, hN, fun q h => Or.inr h⟩, htab, hk, hz⟩ hP hD va_S.rf hl
theorem th_hat {args : Array Value} {s : State} {sa : Nat → Nat} (hw : ∀ w ∈ lwg, w.before args s = true) (hk : th_K sa s) : ∀ w ∈ th_own.filter vx_no, w.before args s = true :=
  vx_hat (B := th_B) (fun w h => hw w (lwg_of (th_x0 w h) (List.mem_filter.mp h).2)) (fun _ h => h) (fun w h => va_Nw.use (th_Bon h) (hk.2.2.2 w h))
/-- 'throw new NoSuchElementException("..")' -/
theorem G_throw {l : Launch} (htr : l.stackTraces = false) {D : va_G} {cy : Nat → ClassId} {d : Nat} (hd6 : 6 ≤ d) {sa : Nat → Nat} {mi : MI} {A : Nat → Prop} {pc is : Nat} {lv : LV} {L : List Nat} {Sh : Nat → Shp} {M : Mem} {J : Mej} (text : String) {a : Nat} (hmi : mi.1.cls = RX3) (hs : ∀ s, th_K sa s → vk_R RX3 is text a s)
    (d0 : decode mi.2.1 pc = .ok (.new 130, 3)) (d3 : decode mi.2.1 (pc + 3) = .ok (.dup, 1)) (d4 : decode mi.2.1 (pc + 4) = .ok (.ldc is, 2)) (d6 : decode mi.2.1 (pc + 6) = .ok (.invokespecial 134, 3)) (d9 : decode mi.2.1 (pc + 9) = .ok (.athrow, 1)) :
    EG l D cy (fr_rm d 1 6) mi (fr_ws mi) (fun _ => A) (th_Xt sa A) (th_Qt D cy L Sh M J A) 0 0 pc lv [] L Sh M J := by
  intro p e s m args below meth c H locs ls X hP hD hS hl
  have hw : ∀ w ∈ lwg, w.before args s = true := fun w h => X.1.2.2.2.2.1 w (lwg_ws mi h)
  have hown : s.vm.findClass RX3 = some m.cls := by rw [← hmi]; exact X.1.2.2.2.2.2.1
  refine th_throwS (cc := mi.2.1) (text := text) (A := A) (sa := a) X.1.1 X.1.2.1 htr hown (hw _ th_cl) (hw _ th_in) (hs s X.2.2.1) (th_hat hw X.2.2.1) th_g X.2.2.2.1 X.2.2.2.2 hS (hl.1.trans X.1.2.2.2.1.symm) d0 d3 d4 d6 d9 (fun x hx => (X.2.1 x hx).elim) ?_ ?_ (Nat.le_refl _) (Nat.le_refl _) X.1.2.2.2.2.2.2.1 ?_ hS.2.2 (Nat.le_refl _) (Nat.le_refl _)
  · show 2 + 3 < d
    omega
  · show 0 + (13 * (2 + 1) + 43) ≤ 100 * d
    omega
  · intro t hvm hz hk
    exact ⟨(), trivial, ⟨rfl, hP.kept (fun k x hx => hk x.1 (hP k x hx).lt), va_K.moved hvm X.1.2.2.2.2.2.2.2.2.1, hD⟩, Nat.le_trans hS.1 hz, fun q h1 h2 => (hk q (Nat.lt_of_lt_of_le h1 hS.1)).trans (hS.2.1 q h1 h2)⟩
set_option maxRecDepth 100000 in
theorem t_X3_of {l : Launch} (htr : l.stackTraces = false) {D : va_G} {cy : Nat → ClassId} {d : Nat} (hd : 10 ≤ d) {sa : Nat → Nat} {S : GS} {N : Mem} {K : Mej} (R : RX S N K) (w : WF S) {x y : Int32} (ho : (o_of S x y).2 = true) {L : List Nat} {Sh : Nat → Shp} {q qi : Nat → Nat} (hW : WOK L Sh q qi) :
    TX l D cy d sa mX3_of [.ref (q 0), .int x, .int y] L Sh (km qi N) (kj qi K) := by
  have hn := w.1.1
  have h7 := R.1.1
  refine TX.start [(0, .ref (q 0)), (1, .int x), (2, .int y)] (by decide +kernel) (Nat.le_of_ble_eq_true rfl) rfl (fun A => ?_)
  refine G_aload_n dX3_of_0 rfl rfl ?_
  refine G_iload_n dX3_of_1 rfl rfl ?_
  refine G_callK (i := 0) (ci := 3) (d1 := 2) [.int x] dX3_of_2 ml_X3_74 (by decide) hW rfl rfl rfl rfl (Nat.le_of_ble_eq_true rfl) (c_X3_isFamily h7) (show 2 + 1 ≤ d by omega) (show 100 * 2 + 99 ≤ 100 * d by omega) (Nat.zero_le _) (Nat.zero_le _) rfl ?_
  rintro r N1 K1 ⟨rfl, rfl, rfl⟩
  refine G_st (st' := [.int (bI (isF (s_n S) x))]) rfl rfl ?_
  cases hf : isF (s_n S) x with
  | false =>
    refine G_if_ne (tgt := 18) dX3_of_5 (by decide) rfl (fun c5 => absurd rfl c5) (fun c5 => ?_)
    exact G_throw htr (by omega) "no such family" (is := 132) rfl (fun s h => h.1) dX3_of_8 dX3_of_11 dX3_of_12 dX3_of_14 dX3_of_17
  | true =>
    have hy : isF 8 y = false := by
      cases h8 : isF 8 y with
      | false => rfl
      | true =>
        rw [o_of, if_pos ⟨hf, h8⟩] at ho
        cases ho
    obtain ⟨f, hfn, rfl⟩ := (isF_iff hn).mp hf
    refine G_if_ne (tgt := 18) dX3_of_5 (by decide) rfl (fun c5 => ?_) (fun c5 => absurd c5 (by decide))
    refine G_aload_n dX3_of_18 rfl rfl ?_
    refine G_getR (r := q 1) dX3_of_19 fl_X3_11 (hW.2.2 0 _ rfl).2 rfl rfl rfl ?_
    refine G_iload_n dX3_of_22 rfl rfl ?_
    refine G_aald (r := q (20 + f)) (rf := fun k => (if k < 10 then some (20 + k) else none : Option Nat).map q) dX3_of_23 (hW.2.2 1 _ rfl).2 (show f < 10 by omega) (by decide) ?_ rfl ?_
    · show (if f < 10 then some (20 + f) else none : Option Nat).map q = some (q (20 + f))
      rw [if_pos (by omega)]
      rfl
    refine G_astore_n (lv' := [(0, .ref (q 0)), (1, .int (nI f)), (2, .int y), (3, .ref (q (20 + f)))]) dX3_of_24 (by decide) rfl rfl ?_
    refine G_iload_n dX3_of_25 rfl rfl ?_
    refine G_tswO (tgt := 124) dX3_of_26 ?_ (by decide) ?_
    · refine sw_out (x := y) 7 (by decide) (fun j hj e => ?_)
      rw [e, isF_nI (by decide) (by omega), decide_eq_true (by omega)] at hy
      cases hy
    exact G_throw htr (by omega) "no such thing of a family" (is := 153) rfl (fun s h => h.2.1) dX3_of_124 dX3_of_127 dX3_of_128 dX3_of_130 dX3_of_133
set_option maxRecDepth 100000 in
theorem t_X3_row {l : Launch} (htr : l.stackTraces = false) {D : va_G} {cy : Nat → ClassId} {d : Nat} (hd : 10 ≤ d) {sa : Nat → Nat} {S : GS} {N : Mem} {K : Mej} (R : RX S N K) (w : WF S) {x : Int32} (ho : (o_row S x).2 = true) {L : List Nat} {Sh : Nat → Shp} {q qi : Nat → Nat} (hW : WOK L Sh q qi) :
    TX l D cy d sa mX3_row [.ref (q 0), .int x] L Sh (km qi N) (kj qi K) := by
  have h9 := R.1.2.2.1
  have hx : isF (s_tc S) x = false := by
    cases h : isF (s_tc S) x with
    | false => rfl
    | true =>
      rw [o_row, if_pos h] at ho
      cases ho
  refine TX.start [(0, .ref (q 0)), (1, .int x)] (by decide +kernel) (Nat.le_of_ble_eq_true rfl) rfl (fun A => ?_)
  refine G_iload_n dX3_row_0 rfl rfl ?_
  have kt : EG l D cy (fr_rm d 1 6) mX3_row (fr_ws mX3_row) (fun _ => A) (th_Xt sa A) (th_Qt D cy L Sh (km qi N) (kj qi K) A) 0 0 12 [(0, .ref (q 0)), (1, .int x)] [] L Sh (km qi N) (kj qi K) := G_throw htr (by omega) "no such number of the row" (is := 222) rfl (fun s h => h.2.2.1) dX3_row_12 dX3_row_15 dX3_row_16 dX3_row_18 dX3_row_21
  refine G_if_lt (tgt := 12) dX3_row_1 (by decide) rfl (fun c1 => kt) (fun c1 => ?_)
  refine G_iload_n dX3_row_4 rfl rfl ?_
  refine G_aload_n dX3_row_5 rfl rfl ?_
  refine G_getI (v := nI (s_tc S)) dX3_row_6 fl_X3_49 (hW.2.2 0 _ rfl).2 rfl ?_ rfl ?_
  · show N (qi (q 0)) 9 = _
    rw [hW.1 0 (by decide)]
    exact h9
  refine G_icmp_lt (tgt := 22) dX3_row_9 (by decide) rfl (fun c9 => ?_) (fun c9 => kt)
  have : isF (s_tc S) x = true := decide_eq_true ⟨c1, Int32.not_le.mpr c9⟩
  rw [hx] at this
  cases this
