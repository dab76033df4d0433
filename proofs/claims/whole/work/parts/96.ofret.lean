/-! the class's of and row, where they answer -/
set_option maxRecDepth 100000 in
theorem sw_X3_of {d : Nat} (hd : 5 ≤ d) {S : GS} {N : Mem} {K : Mej} {Post : PK} (R : RX S N K) (w : WF S) {f : Nat} (hf : f < s_n S) {y : Int32} (hy : isF 8 y = true) (hP : Post (some (.int (ofV S f y))) N K) : EK d mX3_of Post 25 [(0, .ref 0), (1, .int (nI f)), (2, .int y), (3, .ref (20 + f))] [] N K := by
  have hn := w.1.1
  obtain ⟨b1, b2, b3, -, -, b6, -, -, -, -, -, b12⟩ := R.2.1 f (by omega)
  obtain ⟨wb1, wb2, -⟩ := w.2.1 f hf
  have hpl := R.2.2.2.1 f (by omega)
  refine K_iload_n dX3_of_25 rfl rfl ?_
  by_cases e0 : y = nI 0
  · subst e0
    refine K_tswI (off := 46) (tgt := 72) dX3_of_26 (by decide) (by decide) (by decide) (by decide) ?_
    refine K_aload_n dX3_of_72 rfl rfl ?_
    refine K_cv (ci := 0) (d1 := d - 1) [] dX3_of_73 ml_X3_137 (by decide) (sk_hh (by omega)) rfl rfl (Nat.le_of_ble_eq_true rfl) (c_X0_sleeps (by omega) b2 b3 wb1 wb2.1) (by omega) rfl ?_
    refine K_iret dX3_of_76 rfl ?_
    exact hP
  by_cases e1 : y = nI 1
  · subst e1
    refine K_tswI (off := 51) (tgt := 77) dX3_of_26 (by decide) (by decide) (by decide) (by decide) ?_
    refine K_aload_n dX3_of_77 rfl rfl ?_
    refine K_cv (ci := 0) (d1 := d - 1) [] dX3_of_78 ml_X3_140 (by decide) (sk_hh (by omega)) rfl rfl (Nat.le_of_ble_eq_true rfl) (c_X0_worth (by omega) (by omega) b2 b3 wb1 wb2.1) (by omega) rfl ?_
    refine K_iret dX3_of_81 rfl ?_
    exact hP
  by_cases e2 : y = nI 2
  · subst e2
    refine K_tswI (off := 56) (tgt := 82) dX3_of_26 (by decide) (by decide) (by decide) (by decide) ?_
    refine K_aload_n dX3_of_82 rfl rfl ?_
    refine K_getI dX3_of_83 fl_X3_97 (by first | rfl | exact sk_rk (by omega) | exact sk_hh (by omega)) rfl (by first | assumption | rfl) rfl ?_
    refine K_iret dX3_of_86 rfl ?_
    exact hP
  by_cases e3 : y = nI 3
  · subst e3
    refine K_tswI (off := 61) (tgt := 87) dX3_of_26 (by decide) (by decide) (by decide) (by decide) ?_
    refine K_aload_n dX3_of_87 rfl rfl ?_
    refine K_getI dX3_of_88 fl_X3_143 (by first | rfl | exact sk_rk (by omega) | exact sk_hh (by omega)) rfl (by first | assumption | rfl) rfl ?_
    refine K_iret dX3_of_91 rfl ?_
    exact hP
  by_cases e4 : y = nI 4
  · subst e4
    refine K_tswI (off := 66) (tgt := 92) dX3_of_26 (by decide) (by decide) (by decide) (by decide) ?_
    refine K_aload_n dX3_of_92 rfl rfl ?_
    refine K_getR (r := 2) dX3_of_93 fl_X3_15 rfl rfl rfl rfl ?_
    refine K_iload_n dX3_of_96 rfl rfl ?_
    refine K_iald dX3_of_97 (by first | rfl | exact sk_rk (by omega) | exact sk_hh (by omega)) (by first | omega | fail) (by decide) (by first | assumption | rfl) rfl ?_
    refine K_iret dX3_of_98 rfl ?_
    exact hP
  by_cases e5 : y = nI 5
  · subst e5
    refine K_tswI (off := 73) (tgt := 99) dX3_of_26 (by decide) (by decide) (by decide) (by decide) ?_
    refine K_aload_n dX3_of_99 rfl rfl ?_
    refine K_iload_n dX3_of_100 rfl rfl ?_
    refine K_cv (ci := 3) (d1 := d - 1) [_] dX3_of_101 ml_X3_146 (by decide) rfl rfl rfl (Nat.le_of_ble_eq_true rfl) (c_X3_firstGuest R w (by omega)) (by omega) rfl ?_
    refine K_iret dX3_of_104 rfl ?_
    exact hP
  by_cases e6 : y = nI 6
  · subst e6
    have hv : ofV S f (nI 6) = bI (s_pr S f) := rfl
    rw [hv] at hP
    refine K_tswI (off := 79) (tgt := 105) dX3_of_26 (by decide) (by decide) (by decide) (by decide) ?_
    cases hb : s_pr S f with
    | true =>
      rw [hb] at hP b6
      refine K_aload_n dX3_of_105 rfl rfl ?_
      refine K_getI dX3_of_106 fl_X3_114 (by first | rfl | exact sk_rk (by omega) | exact sk_hh (by omega)) rfl (by first | assumption | rfl) rfl ?_
      refine K_if_eqB (tgt := 116) dX3_of_109 (by decide) rfl (fun c109 => ?_) (fun c109 => ?_)
      · cases c109
      · refine K_iconst (v := nI 1) dX3_of_112 (by decide) rfl ?_
        refine K_goto (tgt := 117) dX3_of_113 (by decide) ?_
        refine K_iret dX3_of_117 rfl ?_
        exact hP
    | false =>
      rw [hb] at hP b6
      refine K_aload_n dX3_of_105 rfl rfl ?_
      refine K_getI dX3_of_106 fl_X3_114 (by first | rfl | exact sk_rk (by omega) | exact sk_hh (by omega)) rfl (by first | assumption | rfl) rfl ?_
      refine K_if_eqB (tgt := 116) dX3_of_109 (by decide) rfl (fun c109 => ?_) (fun c109 => ?_)
      · refine K_iconst (v := nI 0) dX3_of_116 (by decide) rfl ?_
        refine K_iret dX3_of_117 rfl ?_
        exact hP
      · cases c109
  have hv : ofV S f y = nI (cnt (s_tk S f) (s_n S)) := by
    unfold ofV
    rw [if_neg e0, if_neg e1, if_neg e2, if_neg e3, if_neg e4, if_neg e5, if_neg e6]
  rw [hv] at hP
  obtain ⟨j, hj, rfl⟩ := (isF_iff (n := 8) (by decide)).mp hy
  have e7 : j = 7 := by
    rcases (show j = 0 ∨ j = 1 ∨ j = 2 ∨ j = 3 ∨ j = 4 ∨ j = 5 ∨ j = 6 ∨ j = 7 by omega) with rfl | rfl | rfl | rfl | rfl | rfl | rfl | rfl
    · exact absurd rfl e0
    · exact absurd rfl e1
    · exact absurd rfl e2
    · exact absurd rfl e3
    · exact absurd rfl e4
    · exact absurd rfl e5
    · exact absurd rfl e6
    · rfl
  subst e7
  refine K_tswI (off := 92) (tgt := 118) dX3_of_26 (by decide) (by decide) (by decide) (by decide) ?_
  refine K_aload_n dX3_of_118 rfl rfl ?_
  refine K_iload_n dX3_of_119 rfl rfl ?_
  refine K_cv (ci := 3) (d1 := d - 1) [_] dX3_of_120 ml_X3_150 (by decide) rfl rfl rfl (Nat.le_of_ble_eq_true rfl) (c_X3_countTaken (by omega) R w hf) (by omega) rfl ?_
  refine K_iret dX3_of_123 rfl ?_
  exact hP
set_option maxRecDepth 100000 in
theorem c_X3_of {d : Nat} (hd : 6 ≤ d) {S : GS} {N : Mem} {K : Mej} (R : RX S N K) (w : WF S) {x y : Int32} (ho : (o_of S x y).2 = false) : CK d mX3_of [.ref 0, .int x, .int y] N K (PX (some (.int (o_of S x y).1)) N K) := by
  have hn := w.1.1
  have h7 := R.1.1
  have hc : isF (s_n S) x = true ∧ isF 8 y = true := by
    unfold o_of at ho
    split at ho
    · assumption
    · cases ho
  obtain ⟨f, hf, rfl⟩ := (isF_iff hn).mp hc.1
  have hv : (o_of S (nI f) y).1 = ofV S f y := by
    rw [o_of, if_pos hc, nI_clamp (by omega)]
  rw [hv]
  have hi : CK (d - 1) mX3_isFamily [.ref 0, .int (nI f)] N K (PX (some (.int (bI true))) N K) := by
    have := c_X3_isFamily (d := d - 1) (K := K) (x := nI f) h7
    rw [hc.1] at this
    exact this
  have hs := sw_X3_of (d := d) (by omega) (Post := PX (some (.int (ofV S f y))) N K) R w hf hc.2 ⟨rfl, rfl, rfl⟩
  refine CK.start [(0, _), (1, _), (2, _)] (plainFor_of_name (by decide)) (Nat.le_of_ble_eq_true rfl) rfl ?_
  refine K_aload_n dX3_of_0 rfl rfl ?_
  refine K_iload_n dX3_of_1 rfl rfl ?_
  refine K_cv (ci := 3) (d1 := d - 1) [_] dX3_of_2 ml_X3_74 (by decide) rfl rfl rfl (Nat.le_of_ble_eq_true rfl) hi (by omega) rfl ?_
  refine K_if_neB (tgt := 18) dX3_of_5 (by decide) rfl (fun c5 => ?_) (fun c5 => ?_)
  · refine K_aload_n dX3_of_18 rfl rfl ?_
    refine K_getR (r := 1) dX3_of_19 fl_X3_11 rfl rfl rfl rfl ?_
    refine K_iload_n dX3_of_22 rfl rfl ?_
    refine K_hh dX3_of_23 (by first | omega | fail) rfl ?_
    refine K_astore_n (lv' := [(0, _), (1, _), (2, _), (3, _)]) dX3_of_24 (by decide) rfl rfl ?_
    exact hs
  · cases c5
set_option maxRecDepth 100000 in
theorem c_X3_row {d : Nat} {S : GS} {N : Mem} {K : Mej} (R : RX S N K) (w : WF S) {x : Int32} (ho : (o_row S x).2 = false) : CK d mX3_row [.ref 0, .int x] N K (PX (some (.int (o_row S x).1)) N K) := by
  have ht := w.1.2.2.1
  have h9 := R.1.2.2.1
  have hc : isF (s_tc S) x = true := by
    unfold o_row at ho
    split at ho
    · assumption
    · cases ho
  obtain ⟨i, hi, rfl⟩ := (isF_iff ht).mp hc
  have hv : (o_row S (nI i)).1 = nI (s_td S i) := by
    rw [o_row, if_pos hc, nI_clamp (by omega)]
  rw [hv]
  have hr := R.2.2.2.2.2.1 i hi
  refine CK.start [(0, _), (1, _)] (plainFor_of_name (by decide)) (Nat.le_of_ble_eq_true rfl) rfl ?_
  refine K_iload_n dX3_row_0 rfl rfl ?_
  refine K_if_ltN (tgt := 12) dX3_row_1 (by decide) rfl (by first | omega | fail) (fun c1 => ?_) (fun c1 => ?_)
  · exact c1.elim
  · refine K_iload_n dX3_row_4 rfl rfl ?_
    refine K_aload_n dX3_row_5 rfl rfl ?_
    refine K_getI dX3_row_6 fl_X3_49 (by first | rfl | exact sk_rk (by omega) | exact sk_hh (by omega)) rfl (by first | assumption | rfl) rfl ?_
    refine K_icmp_ltN (tgt := 22) dX3_row_9 (by decide) rfl (by first | omega | fail) (by first | omega | fail) (fun c9 => ?_) (fun c9 => ?_)
    · refine K_aload_n dX3_row_22 rfl rfl ?_
      refine K_getR (r := 4) dX3_row_23 fl_X3_22 rfl rfl rfl rfl ?_
      refine K_iload_n dX3_row_26 rfl rfl ?_
      refine K_iald dX3_row_27 (by first | rfl | exact sk_rk (by omega) | exact sk_hh (by omega)) (by first | omega | fail) (by decide) (by first | assumption | rfl) rfl ?_
      refine K_iret dX3_row_28 rfl ?_
      exact ⟨rfl, rfl, rfl⟩
    · omega
