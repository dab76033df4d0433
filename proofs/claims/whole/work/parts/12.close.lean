def s_f1 (S : GS) (f : Nat) : Bool := match s_pl S f with
  | none => false
  | some g => !s_tk S f g
def s_f2 (S : GS) (f : Nat) : Bool := s_go S f && s_rv S f
def s_f3 (S : GS) (f : Nat) : Bool := !s_go S f && (s_gu S f).isSome
/-- what keeps the plan from closing -/
def s_fc (S : GS) : Nat := match fnd (s_f1 S) (s_n S) with
  | some f => 10 + f
  | none => match fnd (s_f2 S) (s_n S) with
    | some f => 20 + f
    | none => match fnd (s_f3 S) (s_n S) with
      | some f => 30 + f
      | none => 0
theorem below_s {p : Nat → Bool} {i : Nat} (h : ∀ j, j < i → p j = false) (hi : p i = false) : ∀ j, j < i + 1 → p j = false := fun j hj => by
  rcases Nat.lt_succ_iff_lt_or_eq.mp hj with hj | rfl
  · exact h j hj
  · exact hi
theorem l3_X3_faultOfClosing {d : Nat} (hd : 4 ≤ d) {S : GS} {N : Mem} {K : Mej} (R : RX S N K) (w : WF S) (z1 : fnd (s_f1 S) (s_n S) = none) (z2 : fnd (s_f2 S) (s_n S) = none) : ∀ k i : Nat, i + k = s_n S → (∀ j, j < i → s_f3 S j = false) → EK d mX3_faultOfClosing (PX (some (.int (nI (s_fc S)))) N K) 86 [(0, .ref 0), (1, .int (nI i))] [] N K
  | 0, i, e, hq => by
    obtain rfl : i = s_n S := by omega
    have hn := w.1.1
    have h0 := R.1.1
    refine K_iload_n dX3_faultOfClosing_86 rfl rfl ?_
    refine K_aload_n dX3_faultOfClosing_87 rfl rfl ?_
    refine K_getI dX3_faultOfClosing_88 fl_X3_42 (by first | rfl | exact sk_rk (by omega) | exact sk_hh (by omega)) rfl (by first | assumption | rfl) rfl ?_
    refine K_icmp_geN (tgt := 124) dX3_faultOfClosing_91 (by decide) rfl (by first | omega | fail) (by first | omega | fail) (fun c91 => ?_) (fun c91 => ?_)
    · refine K_iconst (v := nI 0) dX3_faultOfClosing_124 (by decide) rfl ?_
      refine K_iret dX3_faultOfClosing_125 rfl ?_
      refine ⟨?_, rfl, rfl⟩
      rw [s_fc, z1, z2, fnd_none hq]
    · omega
  | k + 1, i, e, hq => by
    have ih := l3_X3_faultOfClosing hd R w z1 z2 k (i + 1) (by omega)
    have hn := w.1.1
    have h0 := R.1.1
    have hp := R.2.2.2.1 i (by omega)
    have hob := w.plb (f := i) (by omega)
    have hog : oB (s_gu S i) := oB_fnd hn
    refine K_iload_n dX3_faultOfClosing_86 rfl rfl ?_
    refine K_aload_n dX3_faultOfClosing_87 rfl rfl ?_
    refine K_getI dX3_faultOfClosing_88 fl_X3_42 (by first | rfl | exact sk_rk (by omega) | exact sk_hh (by omega)) rfl (by first | assumption | rfl) rfl ?_
    refine K_icmp_geN (tgt := 124) dX3_faultOfClosing_91 (by decide) rfl (by first | omega | fail) (by first | omega | fail) (fun c91 => ?_) (fun c91 => ?_)
    · omega
    · refine K_aload_n dX3_faultOfClosing_94 rfl rfl ?_
      refine K_getR (r := 2) dX3_faultOfClosing_95 fl_X3_15 rfl rfl rfl rfl ?_
      refine K_iload_n dX3_faultOfClosing_98 rfl rfl ?_
      refine K_iald dX3_faultOfClosing_99 (by first | rfl | exact sk_rk (by omega) | exact sk_hh (by omega)) (by first | omega | fail) (by decide) (by first | assumption | rfl) rfl ?_
      refine K_iconst (v := (-1)) dX3_faultOfClosing_100 (by decide) rfl ?_
      refine K_icmp_neO (tgt := 118) dX3_faultOfClosing_101 (by decide) rfl (by first | assumption | fail) (fun c101 => ?_) (fun c101 => ?_)
      · first | refine K_incN (lv' := [(0, _), (1, _)]) dX3_faultOfClosing_118 rfl (by decide) rfl rfl ?_ | refine K_iinc (lv' := [(0, _), (1, _)]) dX3_faultOfClosing_118 rfl rfl (by decide) rfl rfl ?_
        refine K_goto (tgt := 86) dX3_faultOfClosing_121 (by decide) ?_
        first | exact ih (below_s hq (by simp only [s_f3, go_t c101]; rfl)) | exact ih (below_s hq (by simp only [s_f3, c110]; simp))
      · refine K_aload_n dX3_faultOfClosing_104 rfl rfl ?_
        refine K_iload_n dX3_faultOfClosing_105 rfl rfl ?_
        refine K_cv (ci := 3) (d1 := d - 1) [_] dX3_faultOfClosing_106 ml_X3_146 (by decide) rfl rfl rfl (Nat.le_of_ble_eq_true rfl) (c_X3_firstGuest R w (by omega)) (by omega) rfl ?_
        refine K_iconst (v := (-1)) dX3_faultOfClosing_109 (by decide) rfl ?_
        refine K_icmp_eqO (tgt := 118) dX3_faultOfClosing_110 (by decide) rfl (by first | assumption | fail) (fun c110 => ?_) (fun c110 => ?_)
        · first | refine K_incN (lv' := [(0, _), (1, _)]) dX3_faultOfClosing_118 rfl (by decide) rfl rfl ?_ | refine K_iinc (lv' := [(0, _), (1, _)]) dX3_faultOfClosing_118 rfl rfl (by decide) rfl rfl ?_
          refine K_goto (tgt := 86) dX3_faultOfClosing_121 (by decide) ?_
          first | exact ih (below_s hq (by simp only [s_f3, go_t c101]; rfl)) | exact ih (below_s hq (by simp only [s_f3, c110]; simp))
        · refine K_bipush (v := nI 30) dX3_faultOfClosing_113 (by decide) rfl ?_
          refine K_iload_n dX3_faultOfClosing_115 rfl rfl ?_
          refine K_addN dX3_faultOfClosing_116 rfl ?_
          refine K_iret dX3_faultOfClosing_117 rfl ?_
          refine ⟨?_, rfl, rfl⟩
          rw [s_fc, z1, z2, fnd_first (p := s_f3 S) (i := i) (by simp only [s_f3, go_f c101]; cases hg : s_gu S i with | none => exact absurd hg c110 | some z => rfl) hq (by omega)]
theorem l2_X3_faultOfClosing {d : Nat} (hd : 4 ≤ d) {S : GS} {N : Mem} {K : Mej} (R : RX S N K) (w : WF S) (z1 : fnd (s_f1 S) (s_n S) = none) : ∀ k i : Nat, i + k = s_n S → (∀ j, j < i → s_f2 S j = false) → EK d mX3_faultOfClosing (PX (some (.int (nI (s_fc S)))) N K) 47 [(0, .ref 0), (1, .int (nI i))] [] N K
  | 0, i, e, hq => by
    obtain rfl : i = s_n S := by omega
    have hn := w.1.1
    have h0 := R.1.1
    refine K_iload_n dX3_faultOfClosing_47 rfl rfl ?_
    refine K_aload_n dX3_faultOfClosing_48 rfl rfl ?_
    refine K_getI dX3_faultOfClosing_49 fl_X3_42 (by first | rfl | exact sk_rk (by omega) | exact sk_hh (by omega)) rfl (by first | assumption | rfl) rfl ?_
    refine K_icmp_geN (tgt := 84) dX3_faultOfClosing_52 (by decide) rfl (by first | omega | fail) (by first | omega | fail) (fun c52 => ?_) (fun c52 => ?_)
    · refine K_iconst (v := nI 0) dX3_faultOfClosing_84 (by decide) rfl ?_
      refine K_istore_n (lv' := [(0, _), (1, _)]) dX3_faultOfClosing_85 (by decide) rfl rfl ?_
      exact l3_X3_faultOfClosing hd R w z1 (fnd_none hq) (s_n S) 0 (by omega) (fun j hj => absurd hj (Nat.not_lt_zero j))
    · omega
  | k + 1, i, e, hq => by
    have ih := l2_X3_faultOfClosing hd R w z1 k (i + 1) (by omega)
    have hn := w.1.1
    have h0 := R.1.1
    have hp := R.2.2.2.1 i (by omega)
    have hob := w.plb (f := i) (by omega)
    refine K_iload_n dX3_faultOfClosing_47 rfl rfl ?_
    refine K_aload_n dX3_faultOfClosing_48 rfl rfl ?_
    refine K_getI dX3_faultOfClosing_49 fl_X3_42 (by first | rfl | exact sk_rk (by omega) | exact sk_hh (by omega)) rfl (by first | assumption | rfl) rfl ?_
    refine K_icmp_geN (tgt := 84) dX3_faultOfClosing_52 (by decide) rfl (by first | omega | fail) (by first | omega | fail) (fun c52 => ?_) (fun c52 => ?_)
    · omega
    · refine K_aload_n dX3_faultOfClosing_55 rfl rfl ?_
      refine K_getR (r := 2) dX3_faultOfClosing_56 fl_X3_15 rfl rfl rfl rfl ?_
      refine K_iload_n dX3_faultOfClosing_59 rfl rfl ?_
      refine K_iald dX3_faultOfClosing_60 (by first | rfl | exact sk_rk (by omega) | exact sk_hh (by omega)) (by first | omega | fail) (by decide) (by first | assumption | rfl) rfl ?_
      refine K_iconst (v := (-1)) dX3_faultOfClosing_61 (by decide) rfl ?_
      refine K_icmp_eqO (tgt := 78) dX3_faultOfClosing_62 (by decide) rfl (by first | assumption | fail) (fun c62 => ?_) (fun c62 => ?_)
      · first | refine K_incN (lv' := [(0, _), (1, _)]) dX3_faultOfClosing_78 rfl (by decide) rfl rfl ?_ | refine K_iinc (lv' := [(0, _), (1, _)]) dX3_faultOfClosing_78 rfl rfl (by decide) rfl rfl ?_
        refine K_goto (tgt := 47) dX3_faultOfClosing_81 (by decide) ?_
        first | exact ih (below_s hq (by simp only [s_f2, go_f c62]; rfl)) | exact ih (below_s hq (by simp only [s_f2, c70]; simp))
      · refine K_aload_n dX3_faultOfClosing_65 rfl rfl ?_
        refine K_iload_n dX3_faultOfClosing_66 rfl rfl ?_
        refine K_cv (ci := 3) (d1 := d - 1) [_] dX3_faultOfClosing_67 ml_X3_244 (by decide) rfl rfl rfl (Nat.le_of_ble_eq_true rfl) (c_X3_hasRival R w (by omega)) (by omega) rfl ?_
        refine K_if_eqB (tgt := 78) dX3_faultOfClosing_70 (by decide) rfl (fun c70 => ?_) (fun c70 => ?_)
        · first | refine K_incN (lv' := [(0, _), (1, _)]) dX3_faultOfClosing_78 rfl (by decide) rfl rfl ?_ | refine K_iinc (lv' := [(0, _), (1, _)]) dX3_faultOfClosing_78 rfl rfl (by decide) rfl rfl ?_
          refine K_goto (tgt := 47) dX3_faultOfClosing_81 (by decide) ?_
          first | exact ih (below_s hq (by simp only [s_f2, go_f c62]; rfl)) | exact ih (below_s hq (by simp only [s_f2, c70]; simp))
        · refine K_bipush (v := nI 20) dX3_faultOfClosing_73 (by decide) rfl ?_
          refine K_iload_n dX3_faultOfClosing_75 rfl rfl ?_
          refine K_addN dX3_faultOfClosing_76 rfl ?_
          refine K_iret dX3_faultOfClosing_77 rfl ?_
          refine ⟨?_, rfl, rfl⟩
          rw [s_fc, z1, fnd_first (p := s_f2 S) (i := i) (by simp only [s_f2, go_t c62, c70]; rfl) hq (by omega)]
theorem l1_X3_faultOfClosing {d : Nat} (hd : 4 ≤ d) {S : GS} {N : Mem} {K : Mej} (R : RX S N K) (w : WF S) : ∀ k i : Nat, i + k = s_n S → (∀ j, j < i → s_f1 S j = false) → EK d mX3_faultOfClosing (PX (some (.int (nI (s_fc S)))) N K) 2 [(0, .ref 0), (1, .int (nI i))] [] N K
  | 0, i, e, hq => by
    obtain rfl : i = s_n S := by omega
    have hn := w.1.1
    have h0 := R.1.1
    refine K_iload_n dX3_faultOfClosing_2 rfl rfl ?_
    refine K_aload_n dX3_faultOfClosing_3 rfl rfl ?_
    refine K_getI dX3_faultOfClosing_4 fl_X3_42 (by first | rfl | exact sk_rk (by omega) | exact sk_hh (by omega)) rfl (by first | assumption | rfl) rfl ?_
    refine K_icmp_geN (tgt := 45) dX3_faultOfClosing_7 (by decide) rfl (by first | omega | fail) (by first | omega | fail) (fun c7 => ?_) (fun c7 => ?_)
    · refine K_iconst (v := nI 0) dX3_faultOfClosing_45 (by decide) rfl ?_
      refine K_istore_n (lv' := [(0, _), (1, _)]) dX3_faultOfClosing_46 (by decide) rfl rfl ?_
      exact l2_X3_faultOfClosing hd R w (fnd_none hq) (s_n S) 0 (by omega) (fun j hj => absurd hj (Nat.not_lt_zero j))
    · omega
  | k + 1, i, e, hq => by
    have ih := l1_X3_faultOfClosing hd R w k (i + 1) (by omega)
    have hn := w.1.1
    have h0 := R.1.1
    have hp := R.2.2.2.1 i (by omega)
    cases hs : s_pl S i with
    | none =>
      rw [hs] at hp
      have hp2 : N 2 i = -1 := hp
      clear hp
      refine K_iload_n dX3_faultOfClosing_2 rfl rfl ?_
      refine K_aload_n dX3_faultOfClosing_3 rfl rfl ?_
      refine K_getI dX3_faultOfClosing_4 fl_X3_42 (by first | rfl | exact sk_rk (by omega) | exact sk_hh (by omega)) rfl (by first | assumption | rfl) rfl ?_
      refine K_icmp_geN (tgt := 45) dX3_faultOfClosing_7 (by decide) rfl (by first | omega | fail) (by first | omega | fail) (fun c7 => ?_) (fun c7 => ?_)
      · omega
      · refine K_aload_n dX3_faultOfClosing_10 rfl rfl ?_
        refine K_getR (r := 2) dX3_faultOfClosing_11 fl_X3_15 rfl rfl rfl rfl ?_
        refine K_iload_n dX3_faultOfClosing_14 rfl rfl ?_
        refine K_iald dX3_faultOfClosing_15 (by first | rfl | exact sk_rk (by omega) | exact sk_hh (by omega)) (by first | omega | fail) (by decide) (by first | assumption | rfl) rfl ?_
        refine K_iconst (v := (-1)) dX3_faultOfClosing_16 (by decide) rfl ?_
        refine K_icmp_eq (tgt := 39) dX3_faultOfClosing_17 (by decide) rfl (fun c17 => ?_) (fun c17 => ?_)
        · first | refine K_incN (lv' := [(0, _), (1, _)]) dX3_faultOfClosing_39 rfl (by decide) rfl rfl ?_ | refine K_iinc (lv' := [(0, _), (1, _)]) dX3_faultOfClosing_39 rfl rfl (by decide) rfl rfl ?_
          refine K_goto (tgt := 2) dX3_faultOfClosing_42 (by decide) ?_
          exact ih (below_s hq (by simp only [s_f1, hs]))
        · exact absurd rfl c17
    | some g =>
      rw [hs] at hp
      obtain ⟨b1, b2, b3⟩ := w.2.2.2.2.1 i g (by omega) hs
      have hp2 : N 2 i = nI g := hp
      clear hp
      refine K_iload_n dX3_faultOfClosing_2 rfl rfl ?_
      refine K_aload_n dX3_faultOfClosing_3 rfl rfl ?_
      refine K_getI dX3_faultOfClosing_4 fl_X3_42 (by first | rfl | exact sk_rk (by omega) | exact sk_hh (by omega)) rfl (by first | assumption | rfl) rfl ?_
      refine K_icmp_geN (tgt := 45) dX3_faultOfClosing_7 (by decide) rfl (by first | omega | fail) (by first | omega | fail) (fun c7 => ?_) (fun c7 => ?_)
      · omega
      · refine K_aload_n dX3_faultOfClosing_10 rfl rfl ?_
        refine K_getR (r := 2) dX3_faultOfClosing_11 fl_X3_15 rfl rfl rfl rfl ?_
        refine K_iload_n dX3_faultOfClosing_14 rfl rfl ?_
        refine K_iald dX3_faultOfClosing_15 (by first | rfl | exact sk_rk (by omega) | exact sk_hh (by omega)) (by first | omega | fail) (by decide) (by first | assumption | rfl) rfl ?_
        refine K_iconst (v := (-1)) dX3_faultOfClosing_16 (by decide) rfl ?_
        refine K_icmp_eq (tgt := 39) dX3_faultOfClosing_17 (by decide) rfl (fun c17 => ?_) (fun c17 => ?_)
        · exact absurd c17 (nI_neg1 (by omega))
        · refine K_aload_n dX3_faultOfClosing_20 rfl rfl ?_
          refine K_iload_n dX3_faultOfClosing_21 rfl rfl ?_
          refine K_aload_n dX3_faultOfClosing_22 rfl rfl ?_
          refine K_getR (r := 2) dX3_faultOfClosing_23 fl_X3_15 rfl rfl rfl rfl ?_
          refine K_iload_n dX3_faultOfClosing_26 rfl rfl ?_
          refine K_iald dX3_faultOfClosing_27 (by first | rfl | exact sk_rk (by omega) | exact sk_hh (by omega)) (by first | omega | fail) (by decide) (by first | assumption | rfl) rfl ?_
          refine K_cv (ci := 3) (d1 := d - 1) [_, _] dX3_faultOfClosing_28 ml_X3_188 (by decide) rfl rfl rfl (Nat.le_of_ble_eq_true rfl) (c_X3_takes (by omega) R w b1 b2) (by omega) rfl ?_
          refine K_if_neB (tgt := 39) dX3_faultOfClosing_31 (by decide) rfl (fun c31 => ?_) (fun c31 => ?_)
          · first | refine K_incN (lv' := [(0, _), (1, _)]) dX3_faultOfClosing_39 rfl (by decide) rfl rfl ?_ | refine K_iinc (lv' := [(0, _), (1, _)]) dX3_faultOfClosing_39 rfl rfl (by decide) rfl rfl ?_
            refine K_goto (tgt := 2) dX3_faultOfClosing_42 (by decide) ?_
            exact ih (below_s hq (by simp only [s_f1, hs, c31]; rfl))
          · refine K_bipush (v := nI 10) dX3_faultOfClosing_34 (by decide) rfl ?_
            refine K_iload_n dX3_faultOfClosing_36 rfl rfl ?_
            refine K_addN dX3_faultOfClosing_37 rfl ?_
            refine K_iret dX3_faultOfClosing_38 rfl ?_
            refine ⟨?_, rfl, rfl⟩
            rw [s_fc, fnd_first (p := s_f1 S) (i := i) (by simp only [s_f1, hs, c31]; rfl) hq (by omega)]
set_option maxRecDepth 100000 in
theorem c_X3_faultOfClosing {d : Nat} (hd : 4 ≤ d) {S : GS} {N : Mem} {K : Mej} (R : RX S N K) (w : WF S) : CK d mX3_faultOfClosing [.ref 0] N K (PX (some (.int (nI (s_fc S)))) N K) := by
  refine CK.start [(0, _)] (plainFor_of_name (by decide)) (Nat.le_of_ble_eq_true rfl) rfl ?_
  refine K_iconst (v := nI 0) dX3_faultOfClosing_0 (by decide) rfl ?_
  refine K_istore_n (lv' := [(0, _), (1, _)]) dX3_faultOfClosing_1 (by decide) rfl rfl ?_
  exact l1_X3_faultOfClosing hd R w (s_n S) 0 (by omega) (fun j hj => absurd hj (Nat.not_lt_zero j))
theorem s_fc_lt {S : GS} (w : WF S) : s_fc S < 50 := by
  have hn := w.1.1
  unfold s_fc
  split
  · next f h => have := (fnd_lt h).1; omega
  · split
    · next f h => have := (fnd_lt h).1; omega
    · split
      · next f h => have := (fnd_lt h).1; omega
      · omega
/-- steps on from where a way stands until it is back at f, at most k -/
def rlF (p : Nat → Option Nat) (f : Nat) : Nat → Option Nat → Nat
  | 0, _ => 0
  | _ + 1, none => 0
  | k + 1, some a => if a = f then 0 else 1 + rlF p f k (p a)
theorem rlF_le (p : Nat → Option Nat) (f : Nat) : ∀ k a, rlF p f k a ≤ k
  | 0, _ => Nat.le_refl 0
  | k + 1, none => Nat.zero_le _
  | k + 1, some a => by
    have := rlF_le p f k (p a)
    unfold rlF
    split <;> omega
def s_rl (S : GS) (f : Nat) : Nat := 1 + rlF (s_pl S) f 9 (s_pl S f)
theorem l_X3_ringLength {d : Nat} {S : GS} {N : Mem} {K : Mej} (R : RX S N K) (w : WF S) {f r : Nat} (hf : f < 10) : ∀ (k c : Nat) (a : Option Nat), c + k = 10 → (∀ g, a = some g → g < 10) → c + rlF (s_pl S) f k a = r → EK d mX3_ringLength (PX (some (.int (nI r))) N K) 9 [(0, .ref 0), (1, .int (nI f)), (2, .int (oI a)), (3, .int (nI c))] [] N K
  | 0, c, a, h, ha, e => by
    have hob : oB a := fun g hg => by have := ha g hg; omega
    have e2 : c = r := e
    refine K_iload_n dX3_ringLength_9 rfl rfl ?_
    refine K_iload_n dX3_ringLength_10 rfl rfl ?_
    refine K_icmp_eqON (tgt := 38) dX3_ringLength_11 (by decide) rfl (by first | assumption | fail) (by first | omega | fail) (fun c11 => ?_) (fun c11 => ?_)
    · refine K_iload_n dX3_ringLength_38 rfl rfl ?_
      refine K_iret dX3_ringLength_39 rfl ?_
      rw [← e2]
      exact ⟨rfl, rfl, rfl⟩
    · refine K_iload_n dX3_ringLength_14 rfl rfl ?_
      refine K_iconst (v := (-1)) dX3_ringLength_15 (by decide) rfl ?_
      refine K_icmp_eqO (tgt := 38) dX3_ringLength_16 (by decide) rfl (by first | assumption | fail) (fun c16 => ?_) (fun c16 => ?_)
      · refine K_iload_n dX3_ringLength_38 rfl rfl ?_
        refine K_iret dX3_ringLength_39 rfl ?_
        rw [← e2]
        exact ⟨rfl, rfl, rfl⟩
      · refine K_iload_n dX3_ringLength_19 rfl rfl ?_
        refine K_bipush (v := nI 10) dX3_ringLength_20 (by decide) rfl ?_
        refine K_icmp_geN (tgt := 38) dX3_ringLength_22 (by decide) rfl (by first | omega | fail) (by first | omega | fail) (fun c22 => ?_) (fun c22 => ?_)
        · refine K_iload_n dX3_ringLength_38 rfl rfl ?_
          refine K_iret dX3_ringLength_39 rfl ?_
          rw [← e2]
          exact ⟨rfl, rfl, rfl⟩
        · omega
  | k + 1, c, none, h, ha, e => by
    have hob : oB none := fun g hg => by cases hg
    have e2 : c = r := e
    refine K_iload_n dX3_ringLength_9 rfl rfl ?_
    refine K_iload_n dX3_ringLength_10 rfl rfl ?_
    refine K_icmp_eqON (tgt := 38) dX3_ringLength_11 (by decide) rfl (by first | assumption | fail) (by first | omega | fail) (fun c11 => ?_) (fun c11 => ?_)
    · cases c11
    · refine K_iload_n dX3_ringLength_14 rfl rfl ?_
      refine K_iconst (v := (-1)) dX3_ringLength_15 (by decide) rfl ?_
      refine K_icmp_eqO (tgt := 38) dX3_ringLength_16 (by decide) rfl (by first | assumption | fail) (fun c16 => ?_) (fun c16 => ?_)
      · refine K_iload_n dX3_ringLength_38 rfl rfl ?_
        refine K_iret dX3_ringLength_39 rfl ?_
        rw [← e2]
        exact ⟨rfl, rfl, rfl⟩
      · exact absurd rfl c16
  | k + 1, c, some a, h, ha, e => by
    have ha2 := ha a rfl
    have hp := R.2.2.2.1 a ha2
    have hn := w.1.1
    have hob : oB (some a) := fun g hg => by have := ha g hg; omega
    have ih := l_X3_ringLength (d := d) (r := r) R w hf k (c + 1) (s_pl S a) (by omega) (fun g hg => by have := (w.2.2.2.2.1 a g ha2 hg).2.1; omega)
    unfold rlF at e
    refine K_iload_n dX3_ringLength_9 rfl rfl ?_
    refine K_iload_n dX3_ringLength_10 rfl rfl ?_
    refine K_icmp_eqON (tgt := 38) dX3_ringLength_11 (by decide) rfl (by first | assumption | fail) (by first | omega | fail) (fun c11 => ?_) (fun c11 => ?_)
    · refine K_iload_n dX3_ringLength_38 rfl rfl ?_
      refine K_iret dX3_ringLength_39 rfl ?_
      rw [if_pos (Option.some.inj c11)] at e
      rw [← e]
      exact ⟨rfl, rfl, rfl⟩
    · refine K_iload_n dX3_ringLength_14 rfl rfl ?_
      refine K_iconst (v := (-1)) dX3_ringLength_15 (by decide) rfl ?_
      refine K_icmp_eqO (tgt := 38) dX3_ringLength_16 (by decide) rfl (by first | assumption | fail) (fun c16 => ?_) (fun c16 => ?_)
      · cases c16
      · refine K_iload_n dX3_ringLength_19 rfl rfl ?_
        refine K_bipush (v := nI 10) dX3_ringLength_20 (by decide) rfl ?_
        refine K_icmp_geN (tgt := 38) dX3_ringLength_22 (by decide) rfl (by first | omega | fail) (by first | omega | fail) (fun c22 => ?_) (fun c22 => ?_)
        · omega
        · refine K_aload_n dX3_ringLength_25 rfl rfl ?_
          refine K_getR (r := 2) dX3_ringLength_26 fl_X3_15 rfl rfl rfl rfl ?_
          refine K_iload_n dX3_ringLength_29 rfl rfl ?_
          refine K_iald dX3_ringLength_30 (by first | rfl | exact sk_rk (by omega) | exact sk_hh (by omega)) (by first | omega | fail) (by decide) (by first | assumption | rfl) rfl ?_
          refine K_istore_n (lv' := [(0, _), (1, _), (2, _), (3, _)]) dX3_ringLength_31 (by decide) rfl rfl ?_
          first | refine K_incN (lv' := [(0, _), (1, _), (2, _), (3, _)]) dX3_ringLength_32 rfl (by decide) rfl rfl ?_ | refine K_iinc (lv' := [(0, _), (1, _), (2, _), (3, _)]) dX3_ringLength_32 rfl rfl (by decide) rfl rfl ?_
          refine K_goto (tgt := 9) dX3_ringLength_35 (by decide) ?_
          rw [if_neg (fun z => c11 (congrArg some z))] at e
          exact ih (by omega)
set_option maxRecDepth 100000 in
theorem c_X3_ringLength {d : Nat} {S : GS} {N : Mem} {K : Mej} (R : RX S N K) (w : WF S) {f : Nat} (hf : f < 10) : CK d mX3_ringLength [.ref 0, .int (nI f)] N K (PX (some (.int (nI (s_rl S f)))) N K) := by
  have hp := R.2.2.2.1 f hf
  have hn := w.1.1
  refine CK.start [(0, _), (1, _)] (plainFor_of_name (by decide)) (Nat.le_of_ble_eq_true rfl) rfl ?_
  refine K_aload_n dX3_ringLength_0 rfl rfl ?_
  refine K_getR (r := 2) dX3_ringLength_1 fl_X3_15 rfl rfl rfl rfl ?_
  refine K_iload_n dX3_ringLength_4 rfl rfl ?_
  refine K_iald dX3_ringLength_5 (by first | rfl | exact sk_rk (by omega) | exact sk_hh (by omega)) (by first | omega | fail) (by decide) (by first | assumption | rfl) rfl ?_
  refine K_istore_n (lv' := [(0, _), (1, _), (2, _)]) dX3_ringLength_6 (by decide) rfl rfl ?_
  refine K_iconst (v := nI 1) dX3_ringLength_7 (by decide) rfl ?_
  refine K_istore_n (lv' := [(0, _), (1, _), (2, _), (3, _)]) dX3_ringLength_8 (by decide) rfl rfl ?_
  exact l_X3_ringLength R w hf 9 1 (s_pl S f) (by omega) (fun g hg => by have := (w.2.2.2.2.1 f g hf hg).2.1; omega) rfl
def s_f4 (S : GS) (f : Nat) : Bool := s_go S f && decide (s_mo S < s_rl S f)
def s_fl (S : GS) : Nat := match fnd (s_f4 S) (s_n S) with
  | some f => 40 + f
  | none => 0
theorem s_rl_le (S : GS) (f : Nat) : s_rl S f ≤ 10 := by
  have := rlF_le (s_pl S) f 9 (s_pl S f)
  unfold s_rl
  omega
theorem l_X3_faultOfLength {d : Nat} (hd : 1 ≤ d) {S : GS} {N : Mem} {K : Mej} (R : RX S N K) (w : WF S) : ∀ k i : Nat, i + k = s_n S → (∀ j, j < i → s_f4 S j = false) → EK d mX3_faultOfLength (PX (some (.int (nI (s_fl S)))) N K) 2 [(0, .ref 0), (1, .int (nI i))] [] N K
  | 0, i, e, hq => by
    obtain rfl : i = s_n S := by omega
    have hn := w.1.1
    have h0 := R.1.1
    refine K_iload_n dX3_faultOfLength_2 rfl rfl ?_
    refine K_aload_n dX3_faultOfLength_3 rfl rfl ?_
    refine K_getI dX3_faultOfLength_4 fl_X3_42 (by first | rfl | exact sk_rk (by omega) | exact sk_hh (by omega)) rfl (by first | assumption | rfl) rfl ?_
    refine K_icmp_geN (tgt := 43) dX3_faultOfLength_7 (by decide) rfl (by first | omega | fail) (by first | omega | fail) (fun c7 => ?_) (fun c7 => ?_)
    · refine K_iconst (v := nI 0) dX3_faultOfLength_43 (by decide) rfl ?_
      refine K_iret dX3_faultOfLength_44 rfl ?_
      refine ⟨?_, rfl, rfl⟩
      rw [s_fl, fnd_none hq]
    · omega
  | k + 1, i, e, hq => by
    have ih := l_X3_faultOfLength hd R w k (i + 1) (by omega)
    have hn := w.1.1
    have h0 := R.1.1
    have hm := R.1.2.2.2.2.1
    have hm2 := w.1.2.2.2.2.1
    have hp := R.2.2.2.1 i (by omega)
    have hob := w.plb (f := i) (by omega)
    have hrl := s_rl_le S i
    refine K_iload_n dX3_faultOfLength_2 rfl rfl ?_
    refine K_aload_n dX3_faultOfLength_3 rfl rfl ?_
    refine K_getI dX3_faultOfLength_4 fl_X3_42 (by first | rfl | exact sk_rk (by omega) | exact sk_hh (by omega)) rfl (by first | assumption | rfl) rfl ?_
    refine K_icmp_geN (tgt := 43) dX3_faultOfLength_7 (by decide) rfl (by first | omega | fail) (by first | omega | fail) (fun c7 => ?_) (fun c7 => ?_)
    · omega
    · refine K_aload_n dX3_faultOfLength_10 rfl rfl ?_
      refine K_getR (r := 2) dX3_faultOfLength_11 fl_X3_15 rfl rfl rfl rfl ?_
      refine K_iload_n dX3_faultOfLength_14 rfl rfl ?_
      refine K_iald dX3_faultOfLength_15 (by first | rfl | exact sk_rk (by omega) | exact sk_hh (by omega)) (by first | omega | fail) (by decide) (by first | assumption | rfl) rfl ?_
      refine K_iconst (v := (-1)) dX3_faultOfLength_16 (by decide) rfl ?_
      refine K_icmp_eqO (tgt := 37) dX3_faultOfLength_17 (by decide) rfl (by first | assumption | fail) (fun c17 => ?_) (fun c17 => ?_)
      · first | refine K_incN (lv' := [(0, _), (1, _)]) dX3_faultOfLength_37 rfl (by decide) rfl rfl ?_ | refine K_iinc (lv' := [(0, _), (1, _)]) dX3_faultOfLength_37 rfl rfl (by decide) rfl rfl ?_
        refine K_goto (tgt := 2) dX3_faultOfLength_40 (by decide) ?_
        first | exact ih (below_s hq (by simp only [s_f4, go_f c17]; rfl)) | exact ih (below_s hq (by simp only [s_f4, decide_eq_false (Nat.not_lt.mpr c29)]; simp))
      · refine K_aload_n dX3_faultOfLength_20 rfl rfl ?_
        refine K_iload_n dX3_faultOfLength_21 rfl rfl ?_
        refine K_cv (ci := 3) (d1 := d - 1) [_] dX3_faultOfLength_22 ml_X3_205 (by decide) rfl rfl rfl (Nat.le_of_ble_eq_true rfl) (c_X3_ringLength R w (by omega)) (by omega) rfl ?_
        refine K_aload_n dX3_faultOfLength_25 rfl rfl ?_
        refine K_getI dX3_faultOfLength_26 fl_X3_55 (by first | rfl | exact sk_rk (by omega) | exact sk_hh (by omega)) rfl (by first | assumption | rfl) rfl ?_
        refine K_icmp_leN (tgt := 37) dX3_faultOfLength_29 (by decide) rfl (by first | omega | fail) (by first | omega | fail) (fun c29 => ?_) (fun c29 => ?_)
        · first | refine K_incN (lv' := [(0, _), (1, _)]) dX3_faultOfLength_37 rfl (by decide) rfl rfl ?_ | refine K_iinc (lv' := [(0, _), (1, _)]) dX3_faultOfLength_37 rfl rfl (by decide) rfl rfl ?_
          refine K_goto (tgt := 2) dX3_faultOfLength_40 (by decide) ?_
          first | exact ih (below_s hq (by simp only [s_f4, go_f c17]; rfl)) | exact ih (below_s hq (by simp only [s_f4, decide_eq_false (Nat.not_lt.mpr c29)]; simp))
        · refine K_bipush (v := nI 40) dX3_faultOfLength_32 (by decide) rfl ?_
          refine K_iload_n dX3_faultOfLength_34 rfl rfl ?_
          refine K_addN dX3_faultOfLength_35 rfl ?_
          refine K_iret dX3_faultOfLength_36 rfl ?_
          refine ⟨?_, rfl, rfl⟩
          rw [s_fl, fnd_first (p := s_f4 S) (i := i) (by simp only [s_f4, go_t c17, decide_eq_true c29]; rfl) hq (by omega)]
set_option maxRecDepth 100000 in
theorem c_X3_faultOfLength {d : Nat} (hd : 1 ≤ d) {S : GS} {N : Mem} {K : Mej} (R : RX S N K) (w : WF S) : CK d mX3_faultOfLength [.ref 0] N K (PX (some (.int (nI (s_fl S)))) N K) := by
  refine CK.start [(0, _)] (plainFor_of_name (by decide)) (Nat.le_of_ble_eq_true rfl) rfl ?_
  refine K_iconst (v := nI 0) dX3_faultOfLength_0 (by decide) rfl ?_
  refine K_istore_n (lv' := [(0, _), (1, _)]) dX3_faultOfLength_1 (by decide) rfl rfl ?_
  exact l_X3_faultOfLength hd R w (s_n S) 0 (by omega) (fun j hj => absurd hj (Nat.not_lt_zero j))
set_option maxRecDepth 100000 in
theorem c_X3_wrong {d : Nat} (hd : 5 ≤ d) {S : GS} {N : Mem} {K : Mej} (R : RX S N K) (w : WF S) : CK d mX3_wrong [.ref 0] N K (PX (some (.int (nI (if s_fc S = 0 then s_fl S else s_fc S)))) N K) := by
  have hl := s_fc_lt w
  refine CK.start [(0, _)] (plainFor_of_name (by decide)) (Nat.le_of_ble_eq_true rfl) rfl ?_
  refine K_aload_n dX3_wrong_0 rfl rfl ?_
  refine K_cv (ci := 3) (d1 := d - 1) [] dX3_wrong_1 ml_X3_167 (by decide) rfl rfl rfl (Nat.le_of_ble_eq_true rfl) (c_X3_faultOfClosing (by omega) R w) (by omega) rfl ?_
  refine K_istore_n (lv' := [(0, _), (1, _)]) dX3_wrong_4 (by decide) rfl rfl ?_
  refine K_iload_n dX3_wrong_5 rfl rfl ?_
  refine K_if_eqN (tgt := 13) dX3_wrong_6 (by decide) rfl (by first | omega | fail) (fun c6 => ?_) (fun c6 => ?_)
  · refine K_aload_n dX3_wrong_13 rfl rfl ?_
    refine K_cv (ci := 3) (d1 := d - 1) [] dX3_wrong_14 ml_X3_170 (by decide) rfl rfl rfl (Nat.le_of_ble_eq_true rfl) (c_X3_faultOfLength (by omega) R w) (by omega) rfl ?_
    refine K_iret dX3_wrong_17 rfl ?_
    refine ⟨?_, rfl, rfl⟩
    simp_all
  · refine K_iload_n dX3_wrong_9 rfl rfl ?_
    refine K_goto (tgt := 17) dX3_wrong_10 (by decide) ?_
    refine K_iret dX3_wrong_17 rfl ?_
    refine ⟨?_, rfl, rfl⟩
    simp_all
