/-! the reference's trade -/
def pr : Nat → Option Nat
  | 0 => none
  | j + 1 => some j
theorem pr_dec (a : Nat) : nI a + Int32.ofInt (-1) = oI (pr a) := by
  cases a with
  | zero => decide
  | succ a => exact pk_m1 a
theorem pr_sub (a : Nat) : nI a - nI 1 = oI (pr a) := by
  cases a with
  | zero => decide
  | succ a =>
    have h := pk_m1 a
    rw [show (-1 : Int32) = -(nI 1) from by decide] at h
    rw [Int32.sub_eq_add_neg]
    exact h
section
variable {d : Nat} {mi : MI} {Post : PK} {pc n : Nat} {lv : LV} {st rest : List Value} {N : Mem} {K : Mej}
theorem K_decO {z a : Nat} {lv' : LV} (hd : decode mi.2.1 pc = .ok (.iinc z (-1), 3)) (hg : lvG z lv = some (.int (nI a))) (hb : z < mi.2.2.1) (hs : lvS1 z (.int (oI (pr a))) lv = lv') (hn : pc + 3 = n) (k : EK d mi Post n lv' rest N K) : EK d mi Post pc lv rest N K := K_iinc hd hg (pr_dec a) hb hs hn k
theorem K_subO {a : Nat} (hd : decode mi.2.1 pc = .ok (.isub, 1)) (hn : pc + 1 = n) (k : EK d mi Post n lv (.int (oI (pr a)) :: rest) N K) : EK d mi Post pc lv (.int (nI 1) :: .int (nI a) :: rest) N K := K_isub hd hn (by rw [pr_sub]; exact k)
end
theorem oB_pr {a : Nat} (h : a ≤ 1000) : oB (pr a) := fun g hg => by
  cases a with
  | zero => cases hg
  | succ a => cases hg; omega
def IL (S : GS) (L : Nat) (N : Mem) : Prop := ∀ f, f < s_n S → N 67 f = bI (L.testBit f)
theorem l_X4_firstOf {d : Nat} (hd : 3 ≤ d) {S : GS} {N : Mem} {K : Mej} (R : RY S N) (w : WF S) {L f : Nat} (hf : f < s_n S) (hI : IL S L N) :
    ∀ (k i : Nat), i + k = s_wc S f → (∀ j, j < i → (L.testBit (s_wl S f j) && s_tk S f (s_wl S f j)) = false) → EK d mX4_firstOf (PX (some (.int (oI (fo S L f)))) N K) 2 [(0, .ref 40), (1, .int (nI f)), (2, .int (nI i))] [] N K
  | 0, i, e, hz => by
    have hn := w.1.1
    have h52 := (R.2.2.1 f (by omega)).2.1
    have h9 := w.wc (f := f) (by omega)
    have ef : fo S L f = none := by unfold fo; rw [fnd_none (fun j hj => hz j (by omega))]; rfl
    rw [ef]
    refine K_iload_n dX4_firstOf_2 rfl rfl ?_
    refine K_aload_n dX4_firstOf_3 rfl rfl ?_
    refine K_getR (r := 52) dX4_firstOf_4 fl_X4_41 rfl rfl rfl rfl ?_
    refine K_iload_n dX4_firstOf_7 rfl rfl ?_
    refine K_iald dX4_firstOf_8 (by first | rfl | exact sk_rk (by omega) | exact sk_hh (by omega)) (by first | omega | fail) (by decide) (by first | assumption | rfl) rfl ?_
    refine K_icmp_geN (tgt := 50) dX4_firstOf_9 (by decide) rfl (by first | omega | fail) (by first | omega | fail) (fun c9 => ?_) (fun c9 => ?_)
    · refine K_iconst (v := (-1)) dX4_firstOf_50 (by decide) rfl ?_
      refine K_iret dX4_firstOf_51 rfl ?_
      exact ⟨rfl, rfl, rfl⟩
    · omega
  | k + 1, i, e, hz => by
    have hn := w.1.1
    have h52 := (R.2.2.1 f (by omega)).2.1
    have h9 := w.wc (f := f) (by omega)
    have h53 := (R.2.2.1 f (by omega)).2.2.1 i (by omega)
    have wl := (w.2.2.2.1 f i (by omega) (by omega)).1
    have h67 := hI (s_wl S f i) wl
    have nx := fun (z : (L.testBit (s_wl S f i) && s_tk S f (s_wl S f i)) = false) => l_X4_firstOf (d := d) (K := K) hd R w hf hI k (i + 1) (by omega) (fun j hj => by
      rcases Nat.lt_succ_iff_lt_or_eq.mp hj with hj | rfl
      · exact hz j hj
      · exact z)
    refine K_iload_n dX4_firstOf_2 rfl rfl ?_
    refine K_aload_n dX4_firstOf_3 rfl rfl ?_
    refine K_getR (r := 52) dX4_firstOf_4 fl_X4_41 rfl rfl rfl rfl ?_
    refine K_iload_n dX4_firstOf_7 rfl rfl ?_
    refine K_iald dX4_firstOf_8 (by first | rfl | exact sk_rk (by omega) | exact sk_hh (by omega)) (by first | omega | fail) (by decide) (by first | assumption | rfl) rfl ?_
    refine K_icmp_geN (tgt := 50) dX4_firstOf_9 (by decide) rfl (by first | omega | fail) (by first | omega | fail) (fun c9 => ?_) (fun c9 => ?_)
    · omega
    · refine K_aload_n dX4_firstOf_12 rfl rfl ?_
      refine K_getR (r := 53) dX4_firstOf_13 fl_X4_44 rfl rfl rfl rfl ?_
      refine K_bipush (v := nI 10) dX4_firstOf_16 (by decide) rfl ?_
      refine K_iload_n dX4_firstOf_18 rfl rfl ?_
      refine K_mulN dX4_firstOf_19 rfl ?_
      refine K_iload_n dX4_firstOf_20 rfl rfl ?_
      refine K_addN dX4_firstOf_21 rfl ?_
      refine K_iald dX4_firstOf_22 (by first | rfl | exact sk_rk (by omega) | exact sk_hh (by omega)) (by first | omega | fail) (by decide) (by first | assumption | rfl) rfl ?_
      refine K_istore_n (lv' := [(0, _), (1, _), (2, _), (3, _)]) dX4_firstOf_23 (by decide) rfl rfl ?_
      refine K_aload_n dX4_firstOf_24 rfl rfl ?_
      refine K_getR (r := 67) dX4_firstOf_25 fl_X4_66 rfl rfl rfl rfl ?_
      refine K_iload_n dX4_firstOf_28 rfl rfl ?_
      refine K_zald dX4_firstOf_29 (by first | rfl | exact sk_rk (by omega) | exact sk_hh (by omega)) (by first | omega | fail) (by decide) (by first | assumption | rfl) rfl ?_
      refine K_if_eqB (tgt := 44) dX4_firstOf_30 (by decide) rfl (fun c30 => ?_) (fun c30 => ?_)
      · first | refine K_incN (lv' := [(0, _), (1, _), (2, _), (3, _)]) dX4_firstOf_44 rfl (by decide) rfl rfl ?_ | refine K_iinc (lv' := [(0, _), (1, _), (2, _), (3, _)]) dX4_firstOf_44 rfl rfl (by decide) rfl rfl ?_
        refine K_goto (tgt := 2) dX4_firstOf_47 (by decide) ?_
        refine K_pick [0, 1, 2] rfl ?_
        first | (refine nx ?_; rw [c30]; rfl) | (refine nx ?_; rw [c39]; simp; done)
      · refine K_aload_n dX4_firstOf_33 rfl rfl ?_
        refine K_iload_n dX4_firstOf_34 rfl rfl ?_
        refine K_iload_n dX4_firstOf_35 rfl rfl ?_
        refine K_cv (ci := 4) (d1 := d - 1) [_, _] dX4_firstOf_36 ml_X4_148 (by decide) rfl rfl rfl (Nat.le_of_ble_eq_true rfl) (c_X4_takes (by omega) R w hf wl) (by omega) rfl ?_
        refine K_if_eqB (tgt := 44) dX4_firstOf_39 (by decide) rfl (fun c39 => ?_) (fun c39 => ?_)
        · first | refine K_incN (lv' := [(0, _), (1, _), (2, _), (3, _)]) dX4_firstOf_44 rfl (by decide) rfl rfl ?_ | refine K_iinc (lv' := [(0, _), (1, _), (2, _), (3, _)]) dX4_firstOf_44 rfl rfl (by decide) rfl rfl ?_
          refine K_goto (tgt := 2) dX4_firstOf_47 (by decide) ?_
          refine K_pick [0, 1, 2] rfl ?_
          first | (refine nx ?_; rw [c30]; rfl) | (refine nx ?_; rw [c39]; simp; done)
        · refine K_iload_n dX4_firstOf_42 rfl rfl ?_
          refine K_iret dX4_firstOf_43 rfl ?_
          have ef : fo S L f = some (s_wl S f i) := by unfold fo; rw [fnd_first (i := i) (by rw [c30, c39]; rfl) hz (by omega)]; rfl
          rw [ef]
          exact ⟨rfl, rfl, rfl⟩
set_option maxRecDepth 100000 in
theorem c_X4_firstOf {d : Nat} (hd : 3 ≤ d) {S : GS} {N : Mem} {K : Mej} (R : RY S N) (w : WF S) {L f : Nat} (hf : f < s_n S) (hI : IL S L N) : CK d mX4_firstOf [.ref 40, .int (nI f)] N K (PX (some (.int (oI (fo S L f)))) N K) := by
  refine CK.start [(0, _), (1, _)] (plainFor_of_name (by decide)) (Nat.le_of_ble_eq_true rfl) rfl ?_
  refine K_iconst (v := nI 0) dX4_firstOf_0 (by decide) rfl ?_
  refine K_istore_n (lv' := [(0, _), (1, _), (2, _)]) dX4_firstOf_1 (by decide) rfl rfl ?_
  exact l_X4_firstOf hd R w hf hI (s_wc S f) 0 (by omega) (fun j hj => absurd hj (Nat.not_lt_zero j))
theorem l_X4_leaver {d : Nat} (hd : 4 ≤ d) {S : GS} {N : Mem} {K : Mej} (R : RY S N) (w : WF S) {L : Nat} (hL : L < 2 ^ s_n S) (hI : IL S L N) :
    ∀ (k f : Nat), f + k = s_n S → (∀ j, j < f → (L.testBit j && (fo S L j).isNone) = false) → EK d mX4_leaver (PX (some (.int (oI (lv S L)))) N K) 2 [(0, .ref 40), (1, .int (nI f))] [] N K
  | 0, f, e, hz => by
    have hn := w.1.1
    have h7 := R.1.1
    have el : lv S L = none := fnd_none (fun j hj => hz j (by omega))
    rw [el]
    refine K_iload_n dX4_leaver_2 rfl rfl ?_
    refine K_aload_n dX4_leaver_3 rfl rfl ?_
    refine K_getI dX4_leaver_4 fl_X4_87 (by first | rfl | exact sk_rk (by omega) | exact sk_hh (by omega)) rfl (by first | assumption | rfl) rfl ?_
    refine K_icmp_geN (tgt := 35) dX4_leaver_7 (by decide) rfl (by first | omega | fail) (by first | omega | fail) (fun c7 => ?_) (fun c7 => ?_)
    · refine K_iconst (v := (-1)) dX4_leaver_35 (by decide) rfl ?_
      refine K_iret dX4_leaver_36 rfl ?_
      exact ⟨rfl, rfl, rfl⟩
    · omega
  | k + 1, f, e, hz => by
    have hn := w.1.1
    have h7 := R.1.1
    have h67 := hI f (by omega)
    have ob := fo_ob w (L := L) (f := f) (by omega) hL
    have nx := fun (z : (L.testBit f && (fo S L f).isNone) = false) => l_X4_leaver (d := d) (K := K) hd R w hL hI k (f + 1) (by omega) (fun j hj => by
      rcases Nat.lt_succ_iff_lt_or_eq.mp hj with hj | rfl
      · exact hz j hj
      · exact z)
    refine K_iload_n dX4_leaver_2 rfl rfl ?_
    refine K_aload_n dX4_leaver_3 rfl rfl ?_
    refine K_getI dX4_leaver_4 fl_X4_87 (by first | rfl | exact sk_rk (by omega) | exact sk_hh (by omega)) rfl (by first | assumption | rfl) rfl ?_
    refine K_icmp_geN (tgt := 35) dX4_leaver_7 (by decide) rfl (by first | omega | fail) (by first | omega | fail) (fun c7 => ?_) (fun c7 => ?_)
    · omega
    · refine K_aload_n dX4_leaver_10 rfl rfl ?_
      refine K_getR (r := 67) dX4_leaver_11 fl_X4_66 rfl rfl rfl rfl ?_
      refine K_iload_n dX4_leaver_14 rfl rfl ?_
      refine K_zald dX4_leaver_15 (by first | rfl | exact sk_rk (by omega) | exact sk_hh (by omega)) (by first | omega | fail) (by decide) (by first | assumption | rfl) rfl ?_
      refine K_if_eqB (tgt := 29) dX4_leaver_16 (by decide) rfl (fun c16 => ?_) (fun c16 => ?_)
      · first | refine K_incN (lv' := [(0, _), (1, _)]) dX4_leaver_29 rfl (by decide) rfl rfl ?_ | refine K_iinc (lv' := [(0, _), (1, _)]) dX4_leaver_29 rfl rfl (by decide) rfl rfl ?_
        refine K_goto (tgt := 2) dX4_leaver_32 (by decide) ?_
        first | (refine nx ?_; rw [c16]; rfl) | (refine nx ?_; rw [show (fo S L f).isNone = false from Option.isNone_eq_false_iff.mpr (Option.isSome_iff_ne_none.mpr c24)]; simp; done)
      · refine K_aload_n dX4_leaver_19 rfl rfl ?_
        refine K_iload_n dX4_leaver_20 rfl rfl ?_
        refine K_cv (ci := 4) (d1 := d - 1) [_] dX4_leaver_21 ml_X4_216 (by decide) rfl rfl rfl (Nat.le_of_ble_eq_true rfl) (c_X4_firstOf (by omega) R w (by omega) hI) (by omega) rfl ?_
        refine K_if_geO (tgt := 29) dX4_leaver_24 (by decide) rfl (by first | assumption | fail) (fun c24 => ?_) (fun c24 => ?_)
        · first | refine K_incN (lv' := [(0, _), (1, _)]) dX4_leaver_29 rfl (by decide) rfl rfl ?_ | refine K_iinc (lv' := [(0, _), (1, _)]) dX4_leaver_29 rfl rfl (by decide) rfl rfl ?_
          refine K_goto (tgt := 2) dX4_leaver_32 (by decide) ?_
          first | (refine nx ?_; rw [c16]; rfl) | (refine nx ?_; rw [show (fo S L f).isNone = false from Option.isNone_eq_false_iff.mpr (Option.isSome_iff_ne_none.mpr c24)]; simp; done)
        · refine K_iload_n dX4_leaver_27 rfl rfl ?_
          refine K_iret dX4_leaver_28 rfl ?_
          have el : lv S L = some f := fnd_first (by rw [c16, c24]; rfl) hz (by omega)
          rw [el]
          exact ⟨rfl, rfl, rfl⟩
set_option maxRecDepth 100000 in
theorem c_X4_leaver {d : Nat} (hd : 4 ≤ d) {S : GS} {N : Mem} {K : Mej} (R : RY S N) (w : WF S) {L : Nat} (hL : L < 2 ^ s_n S) (hI : IL S L N) : CK d mX4_leaver [.ref 40] N K (PX (some (.int (oI (lv S L)))) N K) := by
  refine CK.start [(0, _)] (plainFor_of_name (by decide)) (Nat.le_of_ble_eq_true rfl) rfl ?_
  refine K_iconst (v := nI 0) dX4_leaver_0 (by decide) rfl ?_
  refine K_istore_n (lv' := [(0, _), (1, _)]) dX4_leaver_1 (by decide) rfl rfl ?_
  exact l_X4_leaver hd R w hL hI (s_n S) 0 (by omega) (fun j hj => absurd hj (Nat.not_lt_zero j))
theorem l_X4_isRound {d : Nat} {n : Nat} {N : Mem} {K : Mej} {s : Nat → Nat} {L f : Nat} (hn : n ≤ 10) (h7 : N 40 1 = nI n) (hf : f < 10) (hs : ∀ x, L.testBit x = true → N 68 x = nI (s x) ∧ L.testBit (s x) = true) (hL : L < 1024) :
    ∀ (k i x : Nat), i + k = n → L.testBit x = true → EK d mX4_isRound (PX (some (.int (bI (rd s f k x)))) N K) 9 [(0, .ref 40), (1, .int (nI f)), (2, .int (nI x)), (3, .int (nI i))] [] N K
  | 0, i, x, e, hx => by
    have x10 := bit_lt (n := 10) hL hx
    refine K_iload_n dX4_isRound_9 rfl rfl ?_
    refine K_aload_n dX4_isRound_10 rfl rfl ?_
    refine K_getI dX4_isRound_11 fl_X4_87 (by first | rfl | exact sk_rk (by omega) | exact sk_hh (by omega)) rfl (by first | assumption | rfl) rfl ?_
    refine K_icmp_geN (tgt := 35) dX4_isRound_14 (by decide) rfl (by first | omega | fail) (by first | omega | fail) (fun c14 => ?_) (fun c14 => ?_)
    · refine K_iload_n dX4_isRound_35 rfl rfl ?_
      refine K_iload_n dX4_isRound_36 rfl rfl ?_
      refine K_icmp_neN (tgt := 44) dX4_isRound_37 (by decide) rfl (by first | omega | fail) (by first | omega | fail) (fun c37 => ?_) (fun c37 => ?_)
      · refine K_iconst (v := nI 0) dX4_isRound_44 (by decide) rfl ?_
        refine K_zret dX4_isRound_45 rfl (by first | rfl | exact bI_nar _) ?_
        rw [rd]
        first | (rw [decide_eq_true c37]; exact ⟨rfl, rfl, rfl⟩) | (rw [decide_eq_false c37]; exact ⟨rfl, rfl, rfl⟩)
      · refine K_iconst (v := nI 1) dX4_isRound_40 (by decide) rfl ?_
        refine K_goto (tgt := 45) dX4_isRound_41 (by decide) ?_
        refine K_zret dX4_isRound_45 rfl (by first | rfl | exact bI_nar _) ?_
        rw [rd]
        first | (rw [decide_eq_true c37]; exact ⟨rfl, rfl, rfl⟩) | (rw [decide_eq_false c37]; exact ⟨rfl, rfl, rfl⟩)
    · omega
  | k + 1, i, x, e, hx => by
    have x10 := bit_lt (n := 10) hL hx
    have h5 := (hs x hx).1
    by_cases hz : x = f
    · have e2 : rd s f (k + 1) x = true := by unfold rd; rw [if_pos hz]
      rw [e2]
      refine K_iload_n dX4_isRound_9 rfl rfl ?_
      refine K_aload_n dX4_isRound_10 rfl rfl ?_
      refine K_getI dX4_isRound_11 fl_X4_87 (by first | rfl | exact sk_rk (by omega) | exact sk_hh (by omega)) rfl (by first | assumption | rfl) rfl ?_
      refine K_icmp_geN (tgt := 35) dX4_isRound_14 (by decide) rfl (by first | omega | fail) (by first | omega | fail) (fun c14 => ?_) (fun c14 => ?_)
      · omega
      · refine K_iload_n dX4_isRound_17 rfl rfl ?_
        refine K_iload_n dX4_isRound_18 rfl rfl ?_
        refine K_icmp_eqN (tgt := 35) dX4_isRound_19 (by decide) rfl (by first | omega | fail) (by first | omega | fail) (fun c19 => ?_) (fun c19 => ?_)
        · refine K_iload_n dX4_isRound_35 rfl rfl ?_
          refine K_iload_n dX4_isRound_36 rfl rfl ?_
          refine K_icmp_neN (tgt := 44) dX4_isRound_37 (by decide) rfl (by first | omega | fail) (by first | omega | fail) (fun c37 => ?_) (fun c37 => ?_)
          · exact absurd hz c37
          · refine K_iconst (v := nI 1) dX4_isRound_40 (by decide) rfl ?_
            refine K_goto (tgt := 45) dX4_isRound_41 (by decide) ?_
            refine K_zret dX4_isRound_45 rfl (by first | rfl | exact bI_nar _) ?_
            exact ⟨rfl, rfl, rfl⟩
        · exact absurd hz c19
    · have e2 : rd s f (k + 1) x = rd s f k (s x) := by show (if x = f then true else _) = _; rw [if_neg hz]
      have ih := l_X4_isRound (d := d) (K := K) hn h7 hf hs hL k (i + 1) (s x) (by omega) (hs x hx).2
      rw [e2]
      refine K_iload_n dX4_isRound_9 rfl rfl ?_
      refine K_aload_n dX4_isRound_10 rfl rfl ?_
      refine K_getI dX4_isRound_11 fl_X4_87 (by first | rfl | exact sk_rk (by omega) | exact sk_hh (by omega)) rfl (by first | assumption | rfl) rfl ?_
      refine K_icmp_geN (tgt := 35) dX4_isRound_14 (by decide) rfl (by first | omega | fail) (by first | omega | fail) (fun c14 => ?_) (fun c14 => ?_)
      · omega
      · refine K_iload_n dX4_isRound_17 rfl rfl ?_
        refine K_iload_n dX4_isRound_18 rfl rfl ?_
        refine K_icmp_eqN (tgt := 35) dX4_isRound_19 (by decide) rfl (by first | omega | fail) (by first | omega | fail) (fun c19 => ?_) (fun c19 => ?_)
        · exact absurd c19 hz
        · refine K_aload_n dX4_isRound_22 rfl rfl ?_
          refine K_getR (r := 68) dX4_isRound_23 fl_X4_69 rfl rfl rfl rfl ?_
          refine K_iload_n dX4_isRound_26 rfl rfl ?_
          refine K_iald dX4_isRound_27 (by first | rfl | exact sk_rk (by omega) | exact sk_hh (by omega)) (by first | omega | fail) (by decide) (by first | assumption | rfl) rfl ?_
          refine K_istore_n (lv' := [(0, _), (1, _), (2, _), (3, _)]) dX4_isRound_28 (by decide) rfl rfl ?_
          first | refine K_incN (lv' := [(0, _), (1, _), (2, _), (3, _)]) dX4_isRound_29 rfl (by decide) rfl rfl ?_ | refine K_iinc (lv' := [(0, _), (1, _), (2, _), (3, _)]) dX4_isRound_29 rfl rfl (by decide) rfl rfl ?_
          refine K_goto (tgt := 9) dX4_isRound_32 (by decide) ?_
          exact ih
set_option maxRecDepth 100000 in
theorem c_X4_isRound {d : Nat} {n : Nat} {N : Mem} {K : Mej} {s : Nat → Nat} {L f : Nat} (hn : n ≤ 10) (h7 : N 40 1 = nI n) (hf : L.testBit f = true) (hs : ∀ x, L.testBit x = true → N 68 x = nI (s x) ∧ L.testBit (s x) = true) (hL : L < 1024) : CK d mX4_isRound [.ref 40, .int (nI f)] N K (PX (some (.int (bI (rd s f n (s f))))) N K) := by
  have f10 := bit_lt (n := 10) hL hf
  have h5 := (hs f hf).1
  refine CK.start [(0, _), (1, _)] (plainFor_of_name (by decide)) (Nat.le_of_ble_eq_true rfl) rfl ?_
  refine K_aload_n dX4_isRound_0 rfl rfl ?_
  refine K_getR (r := 68) dX4_isRound_1 fl_X4_69 rfl rfl rfl rfl ?_
  refine K_iload_n dX4_isRound_4 rfl rfl ?_
  refine K_iald dX4_isRound_5 (by first | rfl | exact sk_rk (by omega) | exact sk_hh (by omega)) (by first | omega | fail) (by decide) (by first | assumption | rfl) rfl ?_
  refine K_istore_n (lv' := [(0, _), (1, _), (2, _)]) dX4_isRound_6 (by decide) rfl rfl ?_
  refine K_iconst (v := nI 0) dX4_isRound_7 (by decide) rfl ?_
  refine K_istore_n (lv' := [(0, _), (1, _), (2, _), (3, _)]) dX4_isRound_8 (by decide) rfl rfl ?_
  exact l_X4_isRound hn h7 f10 hs hL n 0 (s f) (by omega) (hs f hf).2
