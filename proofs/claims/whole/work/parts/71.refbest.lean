theorem IsB_gC {S : GS} {k : Bool} {b : Nat → Nat} (h : IsB (gC S) k b) : IsB S k b := by
  have e1 : s_tk (gC S) = s_tk S := rfl
  have e2 : VP (gC S) = VP S := by unfold VP; rw [e1]; rfl
  have e3 : s_rk (gC S) = s_rk S := rfl
  have e4 : eM (gC S) = eM S := by funext k f g; unfold eM; rw [e3]; rfl
  have e5 : mer (gC S) = mer S := by funext k t; unfold mer; rw [show eT (gC S) = eT S from by funext k t f; unfold eT; rw [e4]]; rfl
  have e6 : bt (gC S) = bt S := by funext k t b; unfold bt; rw [e5]; rfl
  unfold IsB at h ⊢
  rw [e2, e6] at h
  exact h
theorem best_of {S : GS} (w : WF S) {b : Nat → Nat} (h : IsB S false b) : o_best S = (nI (goT b (s_n S)), plG (gC S) (pv (s_n S) b)) := by
  have e := bp_is w h
  unfold o_best
  rw [goT_agree e, pv_c e]
theorem mend_of {S : GS} (w : WF S) {b : Nat → Nat} (h : IsB S true b) : o_mend S = (nI (kpT S b (s_n S)), plG (gC S) (pv (s_n S) b)) := by
  have e := bp_is w h
  unfold o_mend
  rw [kpT_agree e, pv_c e]
set_option maxRecDepth 100000 in
theorem c_X4_best {d : Nat} (hd : 21 ≤ d) {S : GS} {N : Mem} {K : Mej} (R : RY S N) (w : WF S) : CK d mX4_best [.ref 40] N K (PRY (o_best S).1 (o_best S).2 N K) := by
  have hn := w.1.1
  have hc := c_X4_all (d := d - 1) (K := K) (k := false) (by omega) w.c0 R.c0
  have fin : ∀ res N2 K2, (res = none ∧ K2 = K ∧ FY (sM (sM N 40 0 (nI 0)) 40 19 (nI 0)) N2 ∧ ∃ b, IsB (gC S) false b ∧ RY (plG (gC S) (pv (s_n (gC S)) b)) N2 ∧ N2 40 25 = nI (goT b (s_n (gC S))) ∧ N2 40 24 = nI (kpT (gC S) b (s_n (gC S)))) → EK d mX4_best (PRY (o_best S).1 (o_best S).2 N K) 15 [(0, .ref 40)] (res.toList ++ []) N2 K2 := by
    rintro res N2 K2 ⟨z1, z2, z3, b, z4, z5, z6, z7⟩
    subst z1
    subst z2
    have z6 : N2 40 25 = nI (goT b (s_n S)) := z6
    have h7 : N2 40 1 = nI (s_n S) := z5.1.1
    rw [best_of w (IsB_gC z4)]
    refine K_aload_n dX4_best_15 rfl rfl ?_
    refine K_getI dX4_best_16 fl_X4_87 (by first | rfl | exact sk_rk (by omega) | exact sk_hh (by omega)) rfl (by first | assumption | rfl) rfl ?_
    refine K_if_neN (tgt := 26) dX4_best_19 (by decide) rfl (by first | omega | fail) (fun c19 => ?_) (fun c19 => ?_)
    · refine K_aload_n dX4_best_26 rfl rfl ?_
      refine K_getI dX4_best_27 fl_X4_191 (by first | rfl | exact sk_rk (by omega) | exact sk_hh (by omega)) rfl (by first | assumption | rfl) rfl ?_
      refine K_iret dX4_best_30 rfl ?_
      first | exact ⟨rfl, z5, (FY.c0 N).trans z3, rfl⟩ | exact ⟨by rw [c19]; rfl, z5, (FY.c0 N).trans z3, rfl⟩
    · refine K_iconst (v := nI 0) dX4_best_22 (by decide) rfl ?_
      refine K_goto (tgt := 30) dX4_best_23 (by decide) ?_
      refine K_iret dX4_best_30 rfl ?_
      first | exact ⟨rfl, z5, (FY.c0 N).trans z3, rfl⟩ | exact ⟨by rw [c19]; rfl, z5, (FY.c0 N).trans z3, rfl⟩
  refine CK.start [(0, _)] (plainFor_of_name (by decide)) (Nat.le_of_ble_eq_true rfl) rfl ?_
  refine K_aload_n dX4_best_0 rfl rfl ?_
  refine K_iconst (v := nI 0) dX4_best_1 (by decide) rfl ?_
  refine K_putI dX4_best_2 fl_X4_84 (by first | rfl | exact sk_rk (by omega) | exact sk_hh (by omega)) rfl rfl rfl rfl ?_
  refine K_aload_n dX4_best_5 rfl rfl ?_
  refine K_iconst (v := nI 0) dX4_best_6 (by decide) rfl ?_
  refine K_putI dX4_best_7 fl_X4_98 (by first | rfl | exact sk_rk (by omega) | exact sk_hh (by omega)) rfl rfl rfl rfl ?_
  refine K_aload_n dX4_best_10 rfl rfl ?_
  refine K_iconst (v := nI 0) dX4_best_11 (by decide) rfl ?_
  refine K_callV (ci := 4) (d1 := d - 1) [_] dX4_best_12 ml_X4_212 (by decide) rfl rfl rfl (Nat.le_of_ble_eq_true rfl) hc (by omega) rfl ?_
  exact fin
set_option maxRecDepth 100000 in
theorem c_X4_mend {d : Nat} (hd : 21 ≤ d) {S : GS} {N : Mem} {K : Mej} (R : RY S N) (w : WF S) : CK d mX4_mend [.ref 40] N K (PRY (o_mend S).1 (o_mend S).2 N K) := by
  have hn := w.1.1
  have hc := c_X4_all (d := d - 1) (K := K) (k := true) (by omega) w.c0 R.c0
  have fin : ∀ res N2 K2, (res = none ∧ K2 = K ∧ FY (sM (sM N 40 0 (nI 0)) 40 19 (nI 0)) N2 ∧ ∃ b, IsB (gC S) true b ∧ RY (plG (gC S) (pv (s_n (gC S)) b)) N2 ∧ N2 40 25 = nI (goT b (s_n (gC S))) ∧ N2 40 24 = nI (kpT (gC S) b (s_n (gC S)))) → EK d mX4_mend (PRY (o_mend S).1 (o_mend S).2 N K) 15 [(0, .ref 40)] (res.toList ++ []) N2 K2 := by
    rintro res N2 K2 ⟨z1, z2, z3, b, z4, z5, z6, z7⟩
    subst z1
    subst z2
    have z7 : N2 40 24 = nI (kpT S b (s_n S)) := z7
    have h7 : N2 40 1 = nI (s_n S) := z5.1.1
    rw [mend_of w (IsB_gC z4)]
    refine K_aload_n dX4_mend_15 rfl rfl ?_
    refine K_getI dX4_mend_16 fl_X4_87 (by first | rfl | exact sk_rk (by omega) | exact sk_hh (by omega)) rfl (by first | assumption | rfl) rfl ?_
    refine K_if_neN (tgt := 26) dX4_mend_19 (by decide) rfl (by first | omega | fail) (fun c19 => ?_) (fun c19 => ?_)
    · refine K_aload_n dX4_mend_26 rfl rfl ?_
      refine K_getI dX4_mend_27 fl_X4_188 (by first | rfl | exact sk_rk (by omega) | exact sk_hh (by omega)) rfl (by first | assumption | rfl) rfl ?_
      refine K_iret dX4_mend_30 rfl ?_
      first | exact ⟨rfl, z5, (FY.c0 N).trans z3, rfl⟩ | exact ⟨by rw [c19]; rfl, z5, (FY.c0 N).trans z3, rfl⟩
    · refine K_iconst (v := nI 0) dX4_mend_22 (by decide) rfl ?_
      refine K_goto (tgt := 30) dX4_mend_23 (by decide) ?_
      refine K_iret dX4_mend_30 rfl ?_
      first | exact ⟨rfl, z5, (FY.c0 N).trans z3, rfl⟩ | exact ⟨by rw [c19]; rfl, z5, (FY.c0 N).trans z3, rfl⟩
  refine CK.start [(0, _)] (plainFor_of_name (by decide)) (Nat.le_of_ble_eq_true rfl) rfl ?_
  refine K_aload_n dX4_mend_0 rfl rfl ?_
  refine K_iconst (v := nI 0) dX4_mend_1 (by decide) rfl ?_
  refine K_putI dX4_mend_2 fl_X4_84 (by first | rfl | exact sk_rk (by omega) | exact sk_hh (by omega)) rfl rfl rfl rfl ?_
  refine K_aload_n dX4_mend_5 rfl rfl ?_
  refine K_iconst (v := nI 0) dX4_mend_6 (by decide) rfl ?_
  refine K_putI dX4_mend_7 fl_X4_98 (by first | rfl | exact sk_rk (by omega) | exact sk_hh (by omega)) rfl rfl rfl rfl ?_
  refine K_aload_n dX4_mend_10 rfl rfl ?_
  refine K_iconst (v := nI 1) dX4_mend_11 (by decide) rfl ?_
  refine K_callV (ci := 4) (d1 := d - 1) [_] dX4_mend_12 ml_X4_212 (by decide) rfl rfl rfl (Nat.le_of_ble_eq_true rfl) hc (by omega) rfl ?_
  exact fin
