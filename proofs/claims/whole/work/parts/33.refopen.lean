theorem rv_iff {S : GS} {f : Nat} : s_rv S f = true ↔ ∃ g, g < s_n S ∧ g ≠ f ∧ s_pl S g = s_pl S f := by
  unfold s_rv
  constructor
  · intro h
    cases hq : fnd (fun g => decide (g ≠ f ∧ s_pl S g = s_pl S f)) (s_n S) with
    | none => rw [hq] at h; cases h
    | some g =>
      obtain ⟨h1, h2⟩ := fnd_lt hq
      have h3 := of_decide_eq_true h2
      exact ⟨g, h1, h3.1, h3.2⟩
  · rintro ⟨g, h1, h2, h3⟩
    cases hq : fnd (fun g => decide (g ≠ f ∧ s_pl S g = s_pl S f)) (s_n S) with
    | some z => rfl
    | none =>
      have := fnd_no hq g h1
      simp [h2, h3] at this
theorem l3_X4_open {d : Nat} (hd : 3 ≤ d) {S : GS} {N : Mem} {K : Mej} (R : RY S N) (w : WF S) (z1 : fnd (s_f1 S) (s_n S) = none) (z2 : fnd (s_f2 S) (s_n S) = none) : ∀ k i : Nat, i + k = s_n S → (∀ j, j < i → s_f3 S j = false) → EK d mX4_open (PX (some (.int (nI (s_fc S)))) N K) 107 [(0, .ref 40), (1, .int (nI i))] [] N K
  | 0, i, e, hq => by
    obtain rfl : i = s_n S := by omega
    have hn := w.1.1
    have h0 := R.1.1
    refine K_iload_n dX4_open_107 rfl rfl ?_
    refine K_aload_n dX4_open_108 rfl rfl ?_
    refine K_getI dX4_open_109 fl_X4_87 (by first | rfl | exact sk_rk (by omega) | exact sk_hh (by omega)) rfl (by first | assumption | rfl) rfl ?_
    refine K_icmp_geN (tgt := 142) dX4_open_112 (by decide) rfl (by first | omega | fail) (by first | omega | fail) (fun c112 => ?_) (fun c112 => ?_)
    · refine K_iconst (v := nI 0) dX4_open_142 (by decide) rfl ?_
      refine K_iret dX4_open_143 rfl ?_
      refine ⟨?_, rfl, rfl⟩
      rw [s_fc, z1, z2, fnd_none hq]
    · omega
  | k + 1, i, e, hq => by
    have ih := l3_X4_open (K := K) hd R w z1 z2 k (i + 1) (by omega)
    have hn := w.1.1
    have h0 := R.1.1
    have hog : oB (s_gu S i) := oB_fnd hn
    refine K_iload_n dX4_open_107 rfl rfl ?_
    refine K_aload_n dX4_open_108 rfl rfl ?_
    refine K_getI dX4_open_109 fl_X4_87 (by first | rfl | exact sk_rk (by omega) | exact sk_hh (by omega)) rfl (by first | assumption | rfl) rfl ?_
    refine K_icmp_geN (tgt := 142) dX4_open_112 (by decide) rfl (by first | omega | fail) (by first | omega | fail) (fun c112 => ?_) (fun c112 => ?_)
    · omega
    · refine K_aload_n dX4_open_115 rfl rfl ?_
      refine K_iload_n dX4_open_116 rfl rfl ?_
      refine K_cv (ci := 4) (d1 := d - 1) [_] dX4_open_117 ml_X4_145 (by decide) rfl rfl rfl (Nat.le_of_ble_eq_true rfl) (c_X4_goesAtAll R w (by omega)) (by omega) rfl ?_
      refine K_if_neB (tgt := 136) dX4_open_120 (by decide) rfl (fun c120 => ?_) (fun c120 => ?_)
      · first | refine K_incN (lv' := [(0, _), (1, _)]) dX4_open_136 rfl (by decide) rfl rfl ?_ | refine K_iinc (lv' := [(0, _), (1, _)]) dX4_open_136 rfl rfl (by decide) rfl rfl ?_
        refine K_goto (tgt := 107) dX4_open_139 (by decide) ?_
        first | exact ih (below_s hq (by simp only [s_f3, c120]; rfl)) | exact ih (below_s hq (by simp only [s_f3, c128]; simp))
      · refine K_aload_n dX4_open_123 rfl rfl ?_
        refine K_iload_n dX4_open_124 rfl rfl ?_
        refine K_cv (ci := 4) (d1 := d - 1) [_] dX4_open_125 ml_X4_151 (by decide) rfl rfl rfl (Nat.le_of_ble_eq_true rfl) (c_X4_guest R w (by omega)) (by omega) rfl ?_
        refine K_if_ltO (tgt := 136) dX4_open_128 (by decide) rfl (by first | assumption | fail) (fun c128 => ?_) (fun c128 => ?_)
        · first | refine K_incN (lv' := [(0, _), (1, _)]) dX4_open_136 rfl (by decide) rfl rfl ?_ | refine K_iinc (lv' := [(0, _), (1, _)]) dX4_open_136 rfl rfl (by decide) rfl rfl ?_
          refine K_goto (tgt := 107) dX4_open_139 (by decide) ?_
          first | exact ih (below_s hq (by simp only [s_f3, c120]; rfl)) | exact ih (below_s hq (by simp only [s_f3, c128]; simp))
        · refine K_bipush (v := nI 30) dX4_open_131 (by decide) rfl ?_
          refine K_iload_n dX4_open_133 rfl rfl ?_
          refine K_addN dX4_open_134 rfl ?_
          refine K_iret dX4_open_135 rfl ?_
          refine ⟨?_, rfl, rfl⟩
          rw [s_fc, z1, z2, fnd_first (p := s_f3 S) (i := i) (by simp only [s_f3, c120]; cases hg : s_gu S i with | none => exact absurd hg c128 | some z => rfl) hq (by omega)]
theorem l2i_X4_open {d : Nat} (hd : 3 ≤ d) {S : GS} {N : Mem} {K : Mej} (R : RY S N) (w : WF S) (z1 : fnd (s_f1 S) (s_n S) = none) {i : Nat} (hi : i < s_n S) (hq : ∀ j, j < i → s_f2 S j = false) (next : s_f2 S i = false → EK d mX4_open (PX (some (.int (nI (s_fc S)))) N K) 45 [(0, .ref 40), (1, .int (nI (i + 1)))] [] N K) : ∀ k g : Nat, g + k = s_n S → i < g → (∀ j, i < j → j < g → ¬ (s_go S i = true ∧ s_pl S i = s_pl S j)) → EK d mX4_open (PX (some (.int (nI (s_fc S)))) N K) 57 [(0, .ref 40), (1, .int (nI i)), (2, .int (nI g))] [] N K
  | 0, g, e, hg, hz => by
    obtain rfl : g = s_n S := by omega
    have hn := w.1.1
    have h0 := R.1.1
    have hf2 : s_f2 S i = false := by
      cases hc : s_f2 S i with
      | false => rfl
      | true =>
        exfalso
        simp only [s_f2, Bool.and_eq_true] at hc
        obtain ⟨j, h1, h2, h3⟩ := rv_iff.mp hc.2
        rcases Nat.lt_or_gt_of_ne h2 with h4 | h4
        · have h5 := hq j h4
          have h6 : s_f2 S j = true := by
            simp only [s_f2, Bool.and_eq_true]
            refine ⟨?_, rv_iff.mpr ⟨i, hi, by omega, h3.symm⟩⟩
            unfold s_go
            rw [h3]
            exact hc.1
          rw [h5] at h6
          cases h6
        · exact hz j h4 h1 ⟨hc.1, h3.symm⟩
    refine K_iload_n dX4_open_57 rfl rfl ?_
    refine K_aload_n dX4_open_58 rfl rfl ?_
    refine K_getI dX4_open_59 fl_X4_87 (by first | rfl | exact sk_rk (by omega) | exact sk_hh (by omega)) rfl (by first | assumption | rfl) rfl ?_
    refine K_icmp_geN (tgt := 99) dX4_open_62 (by decide) rfl (by first | omega | fail) (by first | omega | fail) (fun c62 => ?_) (fun c62 => ?_)
    · first | refine K_incN (lv' := [(0, _), (1, _), (2, _)]) dX4_open_99 rfl (by decide) rfl rfl ?_ | refine K_iinc (lv' := [(0, _), (1, _), (2, _)]) dX4_open_99 rfl rfl (by decide) rfl rfl ?_
      refine K_goto (tgt := 45) dX4_open_102 (by decide) ?_
      refine K_pick [0, 1] rfl ?_
      exact next hf2
    · omega
  | k + 1, g, e, hg, hz => by
    have ih := l2i_X4_open hd R w z1 hi hq next k (g + 1) (by omega) (by omega)
    have hn := w.1.1
    have h0 := R.1.1
    have hpi := (R.2.1 i hi).2.2.2.2.2.2.2.2.2
    have hpg := (R.2.1 g (by omega)).2.2.2.2.2.2.2.2.2
    have hoi := w.plb (f := i) (by omega)
    have hog := w.plb (f := g) (by omega)
    refine K_iload_n dX4_open_57 rfl rfl ?_
    refine K_aload_n dX4_open_58 rfl rfl ?_
    refine K_getI dX4_open_59 fl_X4_87 (by first | rfl | exact sk_rk (by omega) | exact sk_hh (by omega)) rfl (by first | assumption | rfl) rfl ?_
    refine K_icmp_geN (tgt := 99) dX4_open_62 (by decide) rfl (by first | omega | fail) (by first | omega | fail) (fun c62 => ?_) (fun c62 => ?_)
    · omega
    · refine K_aload_n dX4_open_65 rfl rfl ?_
      refine K_iload_n dX4_open_66 rfl rfl ?_
      refine K_cv (ci := 4) (d1 := d - 1) [_] dX4_open_67 ml_X4_145 (by decide) rfl rfl rfl (Nat.le_of_ble_eq_true rfl) (c_X4_goesAtAll R w hi) (by omega) rfl ?_
      refine K_if_eqB (tgt := 93) dX4_open_70 (by decide) rfl (fun c70 => ?_) (fun c70 => ?_)
      · first | refine K_incN (lv' := [(0, _), (1, _), (2, _)]) dX4_open_93 rfl (by decide) rfl rfl ?_ | refine K_iinc (lv' := [(0, _), (1, _), (2, _)]) dX4_open_93 rfl rfl (by decide) rfl rfl ?_
        refine K_goto (tgt := 57) dX4_open_96 (by decide) ?_
        refine ih (fun j h1 h2 => ?_)
        rcases Nat.lt_succ_iff_lt_or_eq.mp h2 with h2 | rfl
        · exact hz j h1 h2
        · first | exact fun h => c85 h.2 | exact fun h => by rw [c70] at h; exact absurd h.1 (by decide)
      · refine K_aload_n dX4_open_73 rfl rfl ?_
        refine K_getR (r := 55) dX4_open_74 fl_X4_50 rfl rfl rfl rfl ?_
        refine K_iload_n dX4_open_77 rfl rfl ?_
        refine K_iald dX4_open_78 (by first | rfl | exact sk_rk (by omega) | exact sk_hh (by omega)) (by first | omega | fail) (by decide) (by first | assumption | rfl) rfl ?_
        refine K_aload_n dX4_open_79 rfl rfl ?_
        refine K_getR (r := 55) dX4_open_80 fl_X4_50 rfl rfl rfl rfl ?_
        refine K_iload_n dX4_open_83 rfl rfl ?_
        refine K_iald dX4_open_84 (by first | rfl | exact sk_rk (by omega) | exact sk_hh (by omega)) (by first | omega | fail) (by decide) (by first | assumption | rfl) rfl ?_
        refine K_icmp_neOO (tgt := 93) dX4_open_85 (by decide) rfl (by first | assumption | fail) (by first | assumption | fail) (fun c85 => ?_) (fun c85 => ?_)
        · first | refine K_incN (lv' := [(0, _), (1, _), (2, _)]) dX4_open_93 rfl (by decide) rfl rfl ?_ | refine K_iinc (lv' := [(0, _), (1, _), (2, _)]) dX4_open_93 rfl rfl (by decide) rfl rfl ?_
          refine K_goto (tgt := 57) dX4_open_96 (by decide) ?_
          refine ih (fun j h1 h2 => ?_)
          rcases Nat.lt_succ_iff_lt_or_eq.mp h2 with h2 | rfl
          · exact hz j h1 h2
          · first | exact fun h => c85 h.2 | exact fun h => by rw [c70] at h; exact absurd h.1 (by decide)
        · refine K_bipush (v := nI 20) dX4_open_88 (by decide) rfl ?_
          refine K_iload_n dX4_open_90 rfl rfl ?_
          refine K_addN dX4_open_91 rfl ?_
          refine K_iret dX4_open_92 rfl ?_
          refine ⟨?_, rfl, rfl⟩
          rw [s_fc, z1, fnd_first (p := s_f2 S) (i := i) (by simp only [s_f2, c70, rv_iff.mpr ⟨g, by omega, by omega, c85.symm⟩]; rfl) hq (by omega)]
theorem l2_X4_open {d : Nat} (hd : 3 ≤ d) {S : GS} {N : Mem} {K : Mej} (R : RY S N) (w : WF S) (z1 : fnd (s_f1 S) (s_n S) = none) : ∀ k i : Nat, i + k = s_n S → (∀ j, j < i → s_f2 S j = false) → EK d mX4_open (PX (some (.int (nI (s_fc S)))) N K) 45 [(0, .ref 40), (1, .int (nI i))] [] N K
  | 0, i, e, hq => by
    obtain rfl : i = s_n S := by omega
    have hn := w.1.1
    have h0 := R.1.1
    refine K_iload_n dX4_open_45 rfl rfl ?_
    refine K_aload_n dX4_open_46 rfl rfl ?_
    refine K_getI dX4_open_47 fl_X4_87 (by first | rfl | exact sk_rk (by omega) | exact sk_hh (by omega)) rfl (by first | assumption | rfl) rfl ?_
    refine K_icmp_geN (tgt := 105) dX4_open_50 (by decide) rfl (by first | omega | fail) (by first | omega | fail) (fun c50 => ?_) (fun c50 => ?_)
    · refine K_iconst (v := nI 0) dX4_open_105 (by decide) rfl ?_
      refine K_istore_n (lv' := [(0, _), (1, _)]) dX4_open_106 (by decide) rfl rfl ?_
      exact l3_X4_open hd R w z1 (fnd_none hq) (s_n S) 0 (by omega) (fun j hj => absurd hj (Nat.not_lt_zero j))
    · omega
  | k + 1, i, e, hq => by
    have ih := l2_X4_open (K := K) hd R w z1 k (i + 1) (by omega)
    have hn := w.1.1
    have h0 := R.1.1
    refine K_iload_n dX4_open_45 rfl rfl ?_
    refine K_aload_n dX4_open_46 rfl rfl ?_
    refine K_getI dX4_open_47 fl_X4_87 (by first | rfl | exact sk_rk (by omega) | exact sk_hh (by omega)) rfl (by first | assumption | rfl) rfl ?_
    refine K_icmp_geN (tgt := 105) dX4_open_50 (by decide) rfl (by first | omega | fail) (by first | omega | fail) (fun c50 => ?_) (fun c50 => ?_)
    · omega
    · refine K_iload_n dX4_open_53 rfl rfl ?_
      refine K_iconst (v := nI 1) dX4_open_54 (by decide) rfl ?_
      refine K_addN dX4_open_55 rfl ?_
      refine K_istore_n (lv' := [(0, _), (1, _), (2, _)]) dX4_open_56 (by decide) rfl rfl ?_
      exact l2i_X4_open hd R w z1 (by omega) hq (fun hf => ih (below_s hq hf)) (s_n S - (i + 1)) (i + 1) (by omega) (by omega) (fun j h1 h2 => by omega)
theorem l1_X4_open {d : Nat} (hd : 3 ≤ d) {S : GS} {N : Mem} {K : Mej} (R : RY S N) (w : WF S) : ∀ k i : Nat, i + k = s_n S → (∀ j, j < i → s_f1 S j = false) → EK d mX4_open (PX (some (.int (nI (s_fc S)))) N K) 2 [(0, .ref 40), (1, .int (nI i))] [] N K
  | 0, i, e, hq => by
    obtain rfl : i = s_n S := by omega
    have hn := w.1.1
    have h0 := R.1.1
    refine K_iload_n dX4_open_2 rfl rfl ?_
    refine K_aload_n dX4_open_3 rfl rfl ?_
    refine K_getI dX4_open_4 fl_X4_87 (by first | rfl | exact sk_rk (by omega) | exact sk_hh (by omega)) rfl (by first | assumption | rfl) rfl ?_
    refine K_icmp_geN (tgt := 43) dX4_open_7 (by decide) rfl (by first | omega | fail) (by first | omega | fail) (fun c7 => ?_) (fun c7 => ?_)
    · refine K_iconst (v := nI 0) dX4_open_43 (by decide) rfl ?_
      refine K_istore_n (lv' := [(0, _), (1, _)]) dX4_open_44 (by decide) rfl rfl ?_
      exact l2_X4_open hd R w (fnd_none hq) (s_n S) 0 (by omega) (fun j hj => absurd hj (Nat.not_lt_zero j))
    · omega
  | k + 1, i, e, hq => by
    have ih := l1_X4_open (K := K) hd R w k (i + 1) (by omega)
    have hn := w.1.1
    have h0 := R.1.1
    have hp := (R.2.1 i (by omega)).2.2.2.2.2.2.2.2.2
    have hgo := c_X4_goesAtAll (d := d - 1) (K := K) R w (f := i) (by omega)
    cases hs : s_pl S i with
    | none =>
      rw [go_f hs] at hgo
      refine K_iload_n dX4_open_2 rfl rfl ?_
      refine K_aload_n dX4_open_3 rfl rfl ?_
      refine K_getI dX4_open_4 fl_X4_87 (by first | rfl | exact sk_rk (by omega) | exact sk_hh (by omega)) rfl (by first | assumption | rfl) rfl ?_
      refine K_icmp_geN (tgt := 43) dX4_open_7 (by decide) rfl (by first | omega | fail) (by first | omega | fail) (fun c7 => ?_) (fun c7 => ?_)
      · omega
      · refine K_aload_n dX4_open_10 rfl rfl ?_
        refine K_iload_n dX4_open_11 rfl rfl ?_
        refine K_cv (ci := 4) (d1 := d - 1) [_] dX4_open_12 ml_X4_145 (by decide) rfl rfl rfl (Nat.le_of_ble_eq_true rfl) hgo (by omega) rfl ?_
        refine K_if_eqB (tgt := 37) dX4_open_15 (by decide) rfl (fun c15 => ?_) (fun c15 => ?_)
        · first | refine K_incN (lv' := [(0, _), (1, _)]) dX4_open_37 rfl (by decide) rfl rfl ?_ | refine K_iinc (lv' := [(0, _), (1, _)]) dX4_open_37 rfl rfl (by decide) rfl rfl ?_
          refine K_goto (tgt := 2) dX4_open_40 (by decide) ?_
          exact ih (below_s hq (by simp only [s_f1, hs]))
        · cases c15
    | some g =>
      rw [hs] at hp
      rw [go_t (by rw [hs]; exact fun h => by cases h)] at hgo
      obtain ⟨b1, b2, b3⟩ := w.2.2.2.2.1 i g (by omega) hs
      have hp2 : N 55 i = nI g := hp
      clear hp
      refine K_iload_n dX4_open_2 rfl rfl ?_
      refine K_aload_n dX4_open_3 rfl rfl ?_
      refine K_getI dX4_open_4 fl_X4_87 (by first | rfl | exact sk_rk (by omega) | exact sk_hh (by omega)) rfl (by first | assumption | rfl) rfl ?_
      refine K_icmp_geN (tgt := 43) dX4_open_7 (by decide) rfl (by first | omega | fail) (by first | omega | fail) (fun c7 => ?_) (fun c7 => ?_)
      · omega
      · refine K_aload_n dX4_open_10 rfl rfl ?_
        refine K_iload_n dX4_open_11 rfl rfl ?_
        refine K_cv (ci := 4) (d1 := d - 1) [_] dX4_open_12 ml_X4_145 (by decide) rfl rfl rfl (Nat.le_of_ble_eq_true rfl) hgo (by omega) rfl ?_
        refine K_if_eqB (tgt := 37) dX4_open_15 (by decide) rfl (fun c15 => ?_) (fun c15 => ?_)
        · cases c15
        · refine K_aload_n dX4_open_18 rfl rfl ?_
          refine K_iload_n dX4_open_19 rfl rfl ?_
          refine K_aload_n dX4_open_20 rfl rfl ?_
          refine K_getR (r := 55) dX4_open_21 fl_X4_50 rfl rfl rfl rfl ?_
          refine K_iload_n dX4_open_24 rfl rfl ?_
          refine K_iald dX4_open_25 (by first | rfl | exact sk_rk (by omega) | exact sk_hh (by omega)) (by first | omega | fail) (by decide) (by first | assumption | rfl) rfl ?_
          refine K_cv (ci := 4) (d1 := d - 1) [_, _] dX4_open_26 ml_X4_148 (by decide) rfl rfl rfl (Nat.le_of_ble_eq_true rfl) (c_X4_takes (by omega) R w b1 b2) (by omega) rfl ?_
          refine K_if_neB (tgt := 37) dX4_open_29 (by decide) rfl (fun c29 => ?_) (fun c29 => ?_)
          · first | refine K_incN (lv' := [(0, _), (1, _)]) dX4_open_37 rfl (by decide) rfl rfl ?_ | refine K_iinc (lv' := [(0, _), (1, _)]) dX4_open_37 rfl rfl (by decide) rfl rfl ?_
            refine K_goto (tgt := 2) dX4_open_40 (by decide) ?_
            exact ih (below_s hq (by simp only [s_f1, hs, c29]; rfl))
          · refine K_bipush (v := nI 10) dX4_open_32 (by decide) rfl ?_
            refine K_iload_n dX4_open_34 rfl rfl ?_
            refine K_addN dX4_open_35 rfl ?_
            refine K_iret dX4_open_36 rfl ?_
            refine ⟨?_, rfl, rfl⟩
            rw [s_fc, fnd_first (p := s_f1 S) (i := i) (by simp only [s_f1, hs, c29]; rfl) hq (by omega)]
set_option maxRecDepth 100000 in
theorem c_X4_open {d : Nat} (hd : 3 ≤ d) {S : GS} {N : Mem} {K : Mej} (R : RY S N) (w : WF S) : CK d mX4_open [.ref 40] N K (PX (some (.int (nI (s_fc S)))) N K) := by
  refine CK.start [(0, _)] (plainFor_of_name (by decide)) (Nat.le_of_ble_eq_true rfl) rfl ?_
  refine K_iconst (v := nI 0) dX4_open_0 (by decide) rfl ?_
  refine K_istore_n (lv' := [(0, _), (1, _)]) dX4_open_1 (by decide) rfl rfl ?_
  exact l1_X4_open hd R w (s_n S) 0 (by omega) (fun j hj => absurd hj (Nat.not_lt_zero j))
theorem l_X4_goers {d : Nat} (hd : 1 ≤ d) {S : GS} {N : Mem} {K : Mej} (R : RY S N) (w : WF S) : ∀ k i : Nat, i + k = s_n S → EK d mX4_goers (PX (some (.int (nI (cnt (s_go S) (s_n S))))) N K) 4 [(0, .ref 40), (1, .int (nI (cnt (s_go S) i))), (2, .int (nI i))] [] N K
  | 0, i, h => by
    obtain rfl : i = s_n S := by omega
    have hn := w.1.1
    have h0 := R.1.1
    refine K_iload_n dX4_goers_4 rfl rfl ?_
    refine K_aload_n dX4_goers_5 rfl rfl ?_
    refine K_getI dX4_goers_6 fl_X4_87 (by first | rfl | exact sk_rk (by omega) | exact sk_hh (by omega)) rfl (by first | assumption | rfl) rfl ?_
    refine K_icmp_geN (tgt := 34) dX4_goers_9 (by decide) rfl (by first | omega | fail) (by first | omega | fail) (fun c9 => ?_) (fun c9 => ?_)
    · refine K_iload_n dX4_goers_34 rfl rfl ?_
      refine K_iret dX4_goers_35 rfl ?_
      exact ⟨rfl, rfl, rfl⟩
    · omega
  | k + 1, i, h => by
    have ih := l_X4_goers (K := K) hd R w k (i + 1) (by omega)
    have hn := w.1.1
    have h0 := R.1.1
    refine K_iload_n dX4_goers_4 rfl rfl ?_
    refine K_aload_n dX4_goers_5 rfl rfl ?_
    refine K_getI dX4_goers_6 fl_X4_87 (by first | rfl | exact sk_rk (by omega) | exact sk_hh (by omega)) rfl (by first | assumption | rfl) rfl ?_
    refine K_icmp_geN (tgt := 34) dX4_goers_9 (by decide) rfl (by first | omega | fail) (by first | omega | fail) (fun c9 => ?_) (fun c9 => ?_)
    · omega
    · refine K_iload_n dX4_goers_12 rfl rfl ?_
      refine K_aload_n dX4_goers_13 rfl rfl ?_
      refine K_iload_n dX4_goers_14 rfl rfl ?_
      refine K_cv (ci := 4) (d1 := d - 1) [_] dX4_goers_15 ml_X4_145 (by decide) rfl rfl rfl (Nat.le_of_ble_eq_true rfl) (c_X4_goesAtAll R w (by omega)) (by omega) rfl ?_
      refine K_if_eqB (tgt := 25) dX4_goers_18 (by decide) rfl (fun c18 => ?_) (fun c18 => ?_)
      · refine K_iconst (v := nI 0) dX4_goers_25 (by decide) rfl ?_
        refine K_addN dX4_goers_26 rfl ?_
        refine K_istore_n (lv' := [(0, _), (1, _), (2, _)]) dX4_goers_27 (by decide) rfl rfl ?_
        first | refine K_incN (lv' := [(0, _), (1, _), (2, _)]) dX4_goers_28 rfl (by decide) rfl rfl ?_ | refine K_iinc (lv' := [(0, _), (1, _), (2, _)]) dX4_goers_28 rfl rfl (by decide) rfl rfl ?_
        refine K_goto (tgt := 4) dX4_goers_31 (by decide) ?_
        first | (rw [cnt_f c18] at ih; exact ih) | (rw [cnt_t c18] at ih; exact ih)
      · refine K_iconst (v := nI 1) dX4_goers_21 (by decide) rfl ?_
        refine K_goto (tgt := 26) dX4_goers_22 (by decide) ?_
        refine K_addN dX4_goers_26 rfl ?_
        refine K_istore_n (lv' := [(0, _), (1, _), (2, _)]) dX4_goers_27 (by decide) rfl rfl ?_
        first | refine K_incN (lv' := [(0, _), (1, _), (2, _)]) dX4_goers_28 rfl (by decide) rfl rfl ?_ | refine K_iinc (lv' := [(0, _), (1, _), (2, _)]) dX4_goers_28 rfl rfl (by decide) rfl rfl ?_
        refine K_goto (tgt := 4) dX4_goers_31 (by decide) ?_
        first | (rw [cnt_f c18] at ih; exact ih) | (rw [cnt_t c18] at ih; exact ih)
set_option maxRecDepth 100000 in
theorem c_X4_goers {d : Nat} (hd : 1 ≤ d) {S : GS} {N : Mem} {K : Mej} (R : RY S N) (w : WF S) : CK d mX4_goers [.ref 40] N K (PX (some (.int (nI (cnt (s_go S) (s_n S))))) N K) := by
  refine CK.start [(0, _)] (plainFor_of_name (by decide)) (Nat.le_of_ble_eq_true rfl) rfl ?_
  refine K_iconst (v := nI 0) dX4_goers_0 (by decide) rfl ?_
  refine K_istore_n (lv' := [(0, _), (1, _)]) dX4_goers_1 (by decide) rfl rfl ?_
  refine K_iconst (v := nI 0) dX4_goers_2 (by decide) rfl ?_
  refine K_istore_n (lv' := [(0, _), (1, _), (2, _)]) dX4_goers_3 (by decide) rfl rfl ?_
  exact l_X4_goers hd R w (s_n S) 0 (by omega)
