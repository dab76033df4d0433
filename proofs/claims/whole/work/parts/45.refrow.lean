set_option maxRecDepth 100000 in
theorem c_X4_refuse {d : Nat} {N : Mem} {K : Mej} : CK d mX4_refuse [.ref 40] N K (PX (some (.int (nI 0))) (sM N 40 0 (nI 1)) K) := by
  refine CK.start [(0, _)] (plainFor_of_name (by decide)) (Nat.le_of_ble_eq_true rfl) rfl ?_
  refine K_aload_n dX4_refuse_0 rfl rfl ?_
  refine K_iconst (v := nI 1) dX4_refuse_1 (by decide) rfl ?_
  refine K_putI dX4_refuse_2 fl_X4_84 (by first | rfl | exact sk_rk (by omega) | exact sk_hh (by omega)) rfl rfl rfl rfl ?_
  refine K_iconst (v := nI 0) dX4_refuse_5 (by decide) rfl ?_
  refine K_iret dX4_refuse_6 rfl ?_
  exact ⟨rfl, rfl, rfl⟩
theorem tc_long {n : Nat} (hn : n ≤ 10) (x : Int32) : decide (¬ x.toInt64 < 0 ∧ ¬ (nI n - nI 1).toInt64 < x.toInt64) = isF n x := isF_long hn x
/-- row(i): the number, and whether it is refused -/
def o_row (S : GS) (x : Int32) : Int32 × Bool := if isF (s_tc S) x = true then (nI (s_td S x.toNatClampNeg), false) else (0, true)
set_option maxRecDepth 100000 in
theorem c_X4_row {d : Nat} (hd : 1 ≤ d) {S : GS} {N : Mem} {K : Mej} (R : RY S N) (w : WF S) {x : Int32} : CK d mX4_row [.ref 40, .int x] N K (fun r1 N1 K1 => r1 = some (.int (o_row S x).1) ∧ N1 40 0 = bI (o_row S x).2 ∧ RY S N1 ∧ FY N N1 ∧ K1 = K) := by
  have ht := w.1.2.2.1
  have R0 := R.thr (nI 0)
  have h29 : sM N 40 0 (nI 0) 40 29 = nI (s_tc S) := R0.1.2.2.2.2.2.1
  have hli : CK (d - 1) mX4_lies [.long x.toInt64, .long 0, .long (nI (s_tc S) - nI 1).toInt64] (sM N 40 0 (nI 0)) K (PX (some (.int (bI (isF (s_tc S) x)))) (sM N 40 0 (nI 0)) K) := by
    rw [← tc_long ht x]
    exact c_X4_lies
  cases hx : isF (s_tc S) x with
  | false =>
    rw [hx] at hli
    refine CK.start [(0, _), (1, _)] (plainFor_of_name (by decide)) (Nat.le_of_ble_eq_true rfl) rfl ?_
    refine K_aload_n dX4_row_0 rfl rfl ?_
    refine K_iconst (v := nI 0) dX4_row_1 (by decide) rfl ?_
    refine K_putI dX4_row_2 fl_X4_84 (by first | rfl | exact sk_rk (by omega) | exact sk_hh (by omega)) rfl rfl rfl rfl ?_
    refine K_iload_n dX4_row_5 rfl rfl ?_
    refine K_i2l dX4_row_6 rfl ?_
    refine K_lconst (v := 0) dX4_row_7 (by decide) rfl ?_
    refine K_aload_n dX4_row_8 rfl rfl ?_
    refine K_getI dX4_row_9 fl_X4_164 (by first | rfl | exact sk_rk (by omega) | exact sk_hh (by omega)) rfl (by first | assumption | rfl) rfl ?_
    refine K_iconst (v := nI 1) dX4_row_12 (by decide) rfl ?_
    refine K_isub dX4_row_13 rfl ?_
    refine K_i2l dX4_row_14 rfl ?_
    refine K_sv (d1 := d - 1) [_, _, _] dX4_row_15 ml_X4_90 rfl rfl (Nat.le_of_ble_eq_true rfl) hli (by omega) rfl ?_
    refine K_if_eqB (tgt := 30) dX4_row_18 (by decide) rfl (fun c18 => ?_) (fun c18 => ?_)
    · refine K_aload_n dX4_row_30 rfl rfl ?_
      refine K_cv (ci := 4) (d1 := d - 1) [] dX4_row_31 ml_X4_175 (by decide) rfl rfl rfl (Nat.le_of_ble_eq_true rfl) c_X4_refuse (by omega) rfl ?_
      refine K_iret dX4_row_34 rfl ?_
      rw [o_row, hx]
      exact ⟨rfl, sM_eq _ _ _ _, R0.thr (nI 1), (FY.t0 N).set (by decide), rfl⟩
    · cases c18
  | true =>
    obtain ⟨i, hi, rfl⟩ := (isF_iff ht).mp hx
    have hr := R0.2.2.2.2 i hi
    rw [hx] at hli
    refine CK.start [(0, _), (1, _)] (plainFor_of_name (by decide)) (Nat.le_of_ble_eq_true rfl) rfl ?_
    refine K_aload_n dX4_row_0 rfl rfl ?_
    refine K_iconst (v := nI 0) dX4_row_1 (by decide) rfl ?_
    refine K_putI dX4_row_2 fl_X4_84 (by first | rfl | exact sk_rk (by omega) | exact sk_hh (by omega)) rfl rfl rfl rfl ?_
    refine K_iload_n dX4_row_5 rfl rfl ?_
    refine K_i2l dX4_row_6 rfl ?_
    refine K_lconst (v := 0) dX4_row_7 (by decide) rfl ?_
    refine K_aload_n dX4_row_8 rfl rfl ?_
    refine K_getI dX4_row_9 fl_X4_164 (by first | rfl | exact sk_rk (by omega) | exact sk_hh (by omega)) rfl (by first | assumption | rfl) rfl ?_
    refine K_iconst (v := nI 1) dX4_row_12 (by decide) rfl ?_
    refine K_isub dX4_row_13 rfl ?_
    refine K_i2l dX4_row_14 rfl ?_
    refine K_sv (d1 := d - 1) [_, _, _] dX4_row_15 ml_X4_90 rfl rfl (Nat.le_of_ble_eq_true rfl) hli (by omega) rfl ?_
    refine K_if_eqB (tgt := 30) dX4_row_18 (by decide) rfl (fun c18 => ?_) (fun c18 => ?_)
    · cases c18
    · refine K_aload_n dX4_row_21 rfl rfl ?_
      refine K_getR (r := 70) dX4_row_22 fl_X4_72 rfl rfl rfl rfl ?_
      refine K_iload_n dX4_row_25 rfl rfl ?_
      refine K_iald dX4_row_26 (by first | rfl | exact sk_rk (by omega) | exact sk_hh (by omega)) (by first | omega | fail) (by decide) (by first | assumption | rfl) rfl ?_
      refine K_goto (tgt := 34) dX4_row_27 (by decide) ?_
      refine K_iret dX4_row_34 rfl ?_
      rw [o_row, hx, if_pos rfl, nI_clamp (by omega)]
      exact ⟨rfl, sM_eq _ _ _ _, R0, FY.t0 N, rfl⟩
