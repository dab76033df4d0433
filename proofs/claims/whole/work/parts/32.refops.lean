set_option maxRecDepth 100000 in
theorem c_X4_thrown {d : Nat} {N : Mem} {K : Mej} {v : Int32} (h : N 40 0 = v) : CK d mX4_thrown [.ref 40] N K (PX (some (.int v)) N K) := by
  refine CK.start [(0, _)] (plainFor_of_name (by decide)) (Nat.le_of_ble_eq_true rfl) rfl ?_
  refine K_aload_n dX4_thrown_0 rfl rfl ?_
  refine K_getI dX4_thrown_1 fl_X4_84 (by first | rfl | exact sk_rk (by omega) | exact sk_hh (by omega)) rfl (by first | assumption | rfl) rfl ?_
  refine K_iret dX4_thrown_4 rfl ?_
  exact ⟨rfl, rfl, rfl⟩
set_option maxRecDepth 100000 in
theorem c_X4_in {d : Nat} (hd : 2 ≤ d) {S : GS} {N : Mem} {K : Mej} (R : RY S N) (w : WF S) {x : Int32} {b : Bool} : CK d mX4_in [.ref 40, .int x, .int (bI b)] N K (PRY (o_in S x b).1 (o_in S x b).2 N K) := by
  have hn := w.1.1
  have R0 := R.c0
  have h7 : sM (sM N 40 0 (nI 0)) 40 19 (nI 0) 40 1 = nI (s_n S) := R0.1.1
  cases hx : isF (s_n S) x with
  | false =>
    refine CK.start [(0, _), (1, _), (2, _)] (plainFor_of_name (by decide)) (Nat.le_of_ble_eq_true rfl) rfl ?_
    refine K_aload_n dX4_in_0 rfl rfl ?_
    refine K_iconst (v := nI 0) dX4_in_1 (by decide) rfl ?_
    refine K_putI dX4_in_2 fl_X4_84 (by first | rfl | exact sk_rk (by omega) | exact sk_hh (by omega)) rfl rfl rfl rfl ?_
    refine K_aload_n dX4_in_5 rfl rfl ?_
    refine K_iconst (v := nI 0) dX4_in_6 (by decide) rfl ?_
    refine K_putI dX4_in_7 fl_X4_98 (by first | rfl | exact sk_rk (by omega) | exact sk_hh (by omega)) rfl rfl rfl rfl ?_
    refine K_aload_n dX4_in_10 rfl rfl ?_
    refine K_iload_n dX4_in_11 rfl rfl ?_
    refine K_cv (ci := 4) (d1 := d - 1) [_] dX4_in_12 ml_X4_94 (by decide) rfl rfl rfl (Nat.le_of_ble_eq_true rfl) (c_X4_isFamily (by omega) hn h7) (by omega) rfl ?_
    refine K_if_neB (tgt := 20) dX4_in_15 (by decide) rfl (fun c15 => ?_) (fun c15 => ?_)
    · rw [hx] at c15; cases c15
    · refine K_iconst (v := nI 0) dX4_in_18 (by decide) rfl ?_
      refine K_zret dX4_in_19 rfl (by first | rfl | exact bI_nar _) ?_
      simp only [o_in, hx]
      exact ⟨rfl, R0, FY.c0 N, rfl⟩
  | true =>
    obtain ⟨f, hf, rfl⟩ := (isF_iff hn).mp hx
    have hc : (nI f).toNatClampNeg = f := nI_clamp (by omega)
    have R1 := R0.a51 (f := f) b
    refine CK.start [(0, _), (1, _), (2, _)] (plainFor_of_name (by decide)) (Nat.le_of_ble_eq_true rfl) rfl ?_
    refine K_aload_n dX4_in_0 rfl rfl ?_
    refine K_iconst (v := nI 0) dX4_in_1 (by decide) rfl ?_
    refine K_putI dX4_in_2 fl_X4_84 (by first | rfl | exact sk_rk (by omega) | exact sk_hh (by omega)) rfl rfl rfl rfl ?_
    refine K_aload_n dX4_in_5 rfl rfl ?_
    refine K_iconst (v := nI 0) dX4_in_6 (by decide) rfl ?_
    refine K_putI dX4_in_7 fl_X4_98 (by first | rfl | exact sk_rk (by omega) | exact sk_hh (by omega)) rfl rfl rfl rfl ?_
    refine K_aload_n dX4_in_10 rfl rfl ?_
    refine K_iload_n dX4_in_11 rfl rfl ?_
    refine K_cv (ci := 4) (d1 := d - 1) [_] dX4_in_12 ml_X4_94 (by decide) rfl rfl rfl (Nat.le_of_ble_eq_true rfl) (c_X4_isFamily (by omega) hn h7) (by omega) rfl ?_
    refine K_if_neB (tgt := 20) dX4_in_15 (by decide) rfl (fun c15 => ?_) (fun c15 => ?_)
    · refine K_aload_n dX4_in_20 rfl rfl ?_
      refine K_getR (r := 51) dX4_in_21 fl_X4_38 rfl rfl rfl rfl ?_
      refine K_iload_n dX4_in_24 rfl rfl ?_
      refine K_iload_n dX4_in_25 rfl rfl ?_
      refine K_zast dX4_in_26 (by first | rfl | exact sk_rk (by omega) | exact sk_hh (by omega)) (by first | omega | fail) (by decide) (by first | exact bI_01 _ | exact Or.inl rfl | exact Or.inr rfl | assumption) rfl ?_
      refine K_iconst (v := nI 1) dX4_in_27 (by decide) rfl ?_
      refine K_zret dX4_in_28 rfl (by first | rfl | exact bI_nar _) ?_
      simp only [o_in, hx, if_true, hc]
      exact ⟨rfl, R1, (FY.c0 N).set (by decide), rfl⟩
    · rw [hx] at c15; cases c15
set_option maxRecDepth 100000 in
theorem c_X4_put {d : Nat} (hd : 3 ≤ d) {S : GS} {N : Mem} {K : Mej} (R : RY S N) (w : WF S) {x y : Int32} : CK d mX4_put [.ref 40, .int x, .int y] N K (PRY (o_put S x y).1 (o_put S x y).2 N K) := by
  have hn := w.1.1
  have R0 := R.c0
  have h7 : sM (sM N 40 0 (nI 0)) 40 19 (nI 0) 40 1 = nI (s_n S) := R0.1.1
  cases hx : isF (s_n S) x with
  | false =>
    refine CK.start [(0, _), (1, _), (2, _)] (plainFor_of_name (by decide)) (Nat.le_of_ble_eq_true rfl) rfl ?_
    refine K_aload_n dX4_put_0 rfl rfl ?_
    refine K_iconst (v := nI 0) dX4_put_1 (by decide) rfl ?_
    refine K_putI dX4_put_2 fl_X4_84 (by first | rfl | exact sk_rk (by omega) | exact sk_hh (by omega)) rfl rfl rfl rfl ?_
    refine K_aload_n dX4_put_5 rfl rfl ?_
    refine K_iconst (v := nI 0) dX4_put_6 (by decide) rfl ?_
    refine K_putI dX4_put_7 fl_X4_98 (by first | rfl | exact sk_rk (by omega) | exact sk_hh (by omega)) rfl rfl rfl rfl ?_
    refine K_aload_n dX4_put_10 rfl rfl ?_
    refine K_iload_n dX4_put_11 rfl rfl ?_
    refine K_cv (ci := 4) (d1 := d - 1) [_] dX4_put_12 ml_X4_94 (by decide) rfl rfl rfl (Nat.le_of_ble_eq_true rfl) (c_X4_isFamily (by omega) hn h7) (by omega) rfl ?_
    refine K_if_eqB (tgt := 32) dX4_put_15 (by decide) rfl (fun c15 => ?_) (fun c15 => ?_)
    · refine K_iconst (v := nI 0) dX4_put_32 (by decide) rfl ?_
      refine K_zret dX4_put_33 rfl (by first | rfl | exact bI_nar _) ?_
      rw [o_put, if_neg (fun h => by rw [hx] at h; cases h.1)]
      exact ⟨rfl, R0, FY.c0 N, rfl⟩
    · rw [hx] at c15; cases c15
  | true =>
    obtain ⟨f, hf, rfl⟩ := (isF_iff hn).mp hx
    have hc : (nI f).toNatClampNeg = f := nI_clamp (by omega)
    have R1 := R0.a55 (f := f) none
    refine CK.start [(0, _), (1, _), (2, _)] (plainFor_of_name (by decide)) (Nat.le_of_ble_eq_true rfl) rfl ?_
    refine K_aload_n dX4_put_0 rfl rfl ?_
    refine K_iconst (v := nI 0) dX4_put_1 (by decide) rfl ?_
    refine K_putI dX4_put_2 fl_X4_84 (by first | rfl | exact sk_rk (by omega) | exact sk_hh (by omega)) rfl rfl rfl rfl ?_
    refine K_aload_n dX4_put_5 rfl rfl ?_
    refine K_iconst (v := nI 0) dX4_put_6 (by decide) rfl ?_
    refine K_putI dX4_put_7 fl_X4_98 (by first | rfl | exact sk_rk (by omega) | exact sk_hh (by omega)) rfl rfl rfl rfl ?_
    refine K_aload_n dX4_put_10 rfl rfl ?_
    refine K_iload_n dX4_put_11 rfl rfl ?_
    refine K_cv (ci := 4) (d1 := d - 1) [_] dX4_put_12 ml_X4_94 (by decide) rfl rfl rfl (Nat.le_of_ble_eq_true rfl) (c_X4_isFamily (by omega) hn h7) (by omega) rfl ?_
    refine K_if_eqB (tgt := 32) dX4_put_15 (by decide) rfl (fun c15 => ?_) (fun c15 => ?_)
    · rw [hx] at c15; cases c15
    · refine K_iload_n dX4_put_18 rfl rfl ?_
      refine K_iconst (v := (-1)) dX4_put_19 (by decide) rfl ?_
      refine K_icmp_eq (tgt := 34) dX4_put_20 (by decide) rfl (fun c20 => ?_) (fun c20 => ?_)
      · refine K_aload_n dX4_put_34 rfl rfl ?_
        refine K_getR (r := 55) dX4_put_35 fl_X4_50 rfl rfl rfl rfl ?_
        refine K_iload_n dX4_put_38 rfl rfl ?_
        refine K_iload_n dX4_put_39 rfl rfl ?_
        refine K_iast dX4_put_40 (by first | rfl | exact sk_rk (by omega) | exact sk_hh (by omega)) (by first | omega | fail) (by decide) rfl ?_
        refine K_iconst (v := nI 1) dX4_put_41 (by decide) rfl ?_
        refine K_zret dX4_put_42 rfl (by first | rfl | exact bI_nar _) ?_
        rw [o_put]
        first | (rw [if_pos ⟨hx, Or.inl c20⟩, hc, if_pos c20]; subst c20; exact ⟨rfl, R1, (FY.c0 N).set (by decide), rfl⟩) | (rw [if_pos ⟨hx, Or.inr c29⟩, hc, if_neg c20]; obtain ⟨f2, g, z1, z2, z3, z4, rfl⟩ := (two_iff hn).mp c29; rw [nI_clamp (by omega)]; exact ⟨rfl, R0.a55 (f := f) (some g), (FY.c0 N).set (by decide), rfl⟩)
      · refine K_aload_n dX4_put_23 rfl rfl ?_
        refine K_iload_n dX4_put_24 rfl rfl ?_
        refine K_iload_n dX4_put_25 rfl rfl ?_
        refine K_cv (ci := 4) (d1 := d - 1) [_, _] dX4_put_26 ml_X4_107 (by decide) rfl rfl rfl (Nat.le_of_ble_eq_true rfl) (c_X4_areTwo (by omega) hn h7) (by omega) rfl ?_
        refine K_if_neB (tgt := 34) dX4_put_29 (by decide) rfl (fun c29 => ?_) (fun c29 => ?_)
        · refine K_aload_n dX4_put_34 rfl rfl ?_
          refine K_getR (r := 55) dX4_put_35 fl_X4_50 rfl rfl rfl rfl ?_
          refine K_iload_n dX4_put_38 rfl rfl ?_
          refine K_iload_n dX4_put_39 rfl rfl ?_
          refine K_iast dX4_put_40 (by first | rfl | exact sk_rk (by omega) | exact sk_hh (by omega)) (by first | omega | fail) (by decide) rfl ?_
          refine K_iconst (v := nI 1) dX4_put_41 (by decide) rfl ?_
          refine K_zret dX4_put_42 rfl (by first | rfl | exact bI_nar _) ?_
          rw [o_put]
          first | (rw [if_pos ⟨hx, Or.inl c20⟩, hc, if_pos c20]; subst c20; exact ⟨rfl, R1, (FY.c0 N).set (by decide), rfl⟩) | (rw [if_pos ⟨hx, Or.inr c29⟩, hc, if_neg c20]; obtain ⟨f2, g, z1, z2, z3, z4, rfl⟩ := (two_iff hn).mp c29; rw [nI_clamp (by omega)]; exact ⟨rfl, R0.a55 (f := f) (some g), (FY.c0 N).set (by decide), rfl⟩)
        · refine K_iconst (v := nI 0) dX4_put_32 (by decide) rfl ?_
          refine K_zret dX4_put_33 rfl (by first | rfl | exact bI_nar _) ?_
          rw [o_put, if_neg (fun h => by rcases h.2 with e | e; exact c20 e; rw [c29] at e; cases e)]
          exact ⟨rfl, R0, FY.c0 N, rfl⟩
set_option maxRecDepth 100000 in
theorem c_X4_rank {d : Nat} (hd : 3 ≤ d) {S : GS} {N : Mem} {K : Mej} (R : RY S N) (w : WF S) {x y : Int32} : CK d mX4_rank [.ref 40, .int x, .int y] N K (PRY (o_rank S x y) S N K) := by
  have hn := w.1.1
  have R0 := R.thr (nI 0)
  have h7 : sM N 40 0 (nI 0) 40 1 = nI (s_n S) := R0.1.1
  cases ht : two (s_n S) x y with
  | false =>
    refine CK.start [(0, _), (1, _), (2, _)] (plainFor_of_name (by decide)) (Nat.le_of_ble_eq_true rfl) rfl ?_
    refine K_aload_n dX4_rank_0 rfl rfl ?_
    refine K_iconst (v := nI 0) dX4_rank_1 (by decide) rfl ?_
    refine K_putI dX4_rank_2 fl_X4_84 (by first | rfl | exact sk_rk (by omega) | exact sk_hh (by omega)) rfl rfl rfl rfl ?_
    refine K_aload_n dX4_rank_5 rfl rfl ?_
    refine K_iload_n dX4_rank_6 rfl rfl ?_
    refine K_iload_n dX4_rank_7 rfl rfl ?_
    refine K_cv (ci := 4) (d1 := d - 1) [_, _] dX4_rank_8 ml_X4_107 (by decide) rfl rfl rfl (Nat.le_of_ble_eq_true rfl) (c_X4_areTwo (by omega) hn h7) (by omega) rfl ?_
    refine K_if_eqB (tgt := 23) dX4_rank_11 (by decide) rfl (fun c11 => ?_) (fun c11 => ?_)
    · refine K_iconst (v := (-1)) dX4_rank_23 (by decide) rfl ?_
      refine K_iret dX4_rank_24 rfl ?_
      rw [o_rank, ht]
      exact ⟨rfl, R0, FY.t0 N, rfl⟩
    · rw [ht] at c11; cases c11
  | true =>
    obtain ⟨f, g, hf, hg, hfg, rfl, rfl⟩ := (two_iff hn).mp ht
    refine CK.start [(0, _), (1, _), (2, _)] (plainFor_of_name (by decide)) (Nat.le_of_ble_eq_true rfl) rfl ?_
    refine K_aload_n dX4_rank_0 rfl rfl ?_
    refine K_iconst (v := nI 0) dX4_rank_1 (by decide) rfl ?_
    refine K_putI dX4_rank_2 fl_X4_84 (by first | rfl | exact sk_rk (by omega) | exact sk_hh (by omega)) rfl rfl rfl rfl ?_
    refine K_aload_n dX4_rank_5 rfl rfl ?_
    refine K_iload_n dX4_rank_6 rfl rfl ?_
    refine K_iload_n dX4_rank_7 rfl rfl ?_
    refine K_cv (ci := 4) (d1 := d - 1) [_, _] dX4_rank_8 ml_X4_107 (by decide) rfl rfl rfl (Nat.le_of_ble_eq_true rfl) (c_X4_areTwo (by omega) hn h7) (by omega) rfl ?_
    refine K_if_eqB (tgt := 23) dX4_rank_11 (by decide) rfl (fun c11 => ?_) (fun c11 => ?_)
    · rw [ht] at c11; cases c11
    · refine K_aload_n dX4_rank_14 rfl rfl ?_
      refine K_iload_n dX4_rank_15 rfl rfl ?_
      refine K_iload_n dX4_rank_16 rfl rfl ?_
      refine K_cv (ci := 4) (d1 := d - 1) [_, _] dX4_rank_17 ml_X4_111 (by decide) rfl rfl rfl (Nat.le_of_ble_eq_true rfl) (c_X4_rankOf R0 w (by omega) (by omega)) (by omega) rfl ?_
      refine K_goto (tgt := 24) dX4_rank_20 (by decide) ?_
      refine K_iret dX4_rank_24 rfl ?_
      rw [o_rank, ht, if_pos rfl, nI_clamp (by omega), nI_clamp (by omega)]
      exact ⟨rfl, R0, FY.t0 N, rfl⟩
set_option maxRecDepth 100000 in
theorem c_X4_can {d : Nat} (hd : 3 ≤ d) {S : GS} {N : Mem} {K : Mej} (R : RY S N) (w : WF S) {x y : Int32} : CK d mX4_can [.ref 40, .int x, .int y] N K (PRY (o_can S x y) S N K) := by
  have hn := w.1.1
  have R0 := R.thr (nI 0)
  have h7 : sM N 40 0 (nI 0) 40 1 = nI (s_n S) := R0.1.1
  cases ht : two (s_n S) x y with
  | false =>
    refine CK.start [(0, _), (1, _), (2, _)] (plainFor_of_name (by decide)) (Nat.le_of_ble_eq_true rfl) rfl ?_
    refine K_aload_n dX4_can_0 rfl rfl ?_
    refine K_iconst (v := nI 0) dX4_can_1 (by decide) rfl ?_
    refine K_putI dX4_can_2 fl_X4_84 (by first | rfl | exact sk_rk (by omega) | exact sk_hh (by omega)) rfl rfl rfl rfl ?_
    refine K_aload_n dX4_can_5 rfl rfl ?_
    refine K_iload_n dX4_can_6 rfl rfl ?_
    refine K_iload_n dX4_can_7 rfl rfl ?_
    refine K_cv (ci := 4) (d1 := d - 1) [_, _] dX4_can_8 ml_X4_107 (by decide) rfl rfl rfl (Nat.le_of_ble_eq_true rfl) (c_X4_areTwo (by omega) hn h7) (by omega) rfl ?_
    refine K_if_eqB (tgt := 23) dX4_can_11 (by decide) rfl (fun c11 => ?_) (fun c11 => ?_)
    · refine K_iconst (v := (-1)) dX4_can_23 (by decide) rfl ?_
      refine K_iret dX4_can_24 rfl ?_
      rw [o_can, ht]
      exact ⟨rfl, R0, FY.t0 N, rfl⟩
    · rw [ht] at c11; cases c11
  | true =>
    obtain ⟨f, g, hf, hg, hfg, rfl, rfl⟩ := (two_iff hn).mp ht
    refine CK.start [(0, _), (1, _), (2, _)] (plainFor_of_name (by decide)) (Nat.le_of_ble_eq_true rfl) rfl ?_
    refine K_aload_n dX4_can_0 rfl rfl ?_
    refine K_iconst (v := nI 0) dX4_can_1 (by decide) rfl ?_
    refine K_putI dX4_can_2 fl_X4_84 (by first | rfl | exact sk_rk (by omega) | exact sk_hh (by omega)) rfl rfl rfl rfl ?_
    refine K_aload_n dX4_can_5 rfl rfl ?_
    refine K_iload_n dX4_can_6 rfl rfl ?_
    refine K_iload_n dX4_can_7 rfl rfl ?_
    refine K_cv (ci := 4) (d1 := d - 1) [_, _] dX4_can_8 ml_X4_107 (by decide) rfl rfl rfl (Nat.le_of_ble_eq_true rfl) (c_X4_areTwo (by omega) hn h7) (by omega) rfl ?_
    refine K_if_eqB (tgt := 23) dX4_can_11 (by decide) rfl (fun c11 => ?_) (fun c11 => ?_)
    · rw [ht] at c11; cases c11
    · refine K_aload_n dX4_can_14 rfl rfl ?_
      refine K_iload_n dX4_can_15 rfl rfl ?_
      refine K_iload_n dX4_can_16 rfl rfl ?_
      refine K_cv (ci := 4) (d1 := d - 1) [_, _] dX4_can_17 ml_X4_142 (by decide) rfl rfl rfl (Nat.le_of_ble_eq_true rfl) (c_X4_barrier (by omega) R0 w hf hg) (by omega) rfl ?_
      refine K_goto (tgt := 24) dX4_can_20 (by decide) ?_
      refine K_iret dX4_can_24 rfl ?_
      rw [o_can, ht, if_pos rfl, nI_clamp (by omega), nI_clamp (by omega)]
      exact ⟨rfl, R0, FY.t0 N, rfl⟩
set_option maxRecDepth 100000 in
theorem c_X4_week {d : Nat} (hd : 3 ≤ d) {S : GS} {N : Mem} {K : Mej} (R : RY S N) (w : WF S) {x y : Int32} : CK d mX4_week [.ref 40, .int x, .int y] N K (PRY (o_week S x y) S N K) := by
  have hn := w.1.1
  have R0 := R.thr (nI 0)
  have h7 : sM N 40 0 (nI 0) 40 1 = nI (s_n S) := R0.1.1
  cases ht : two (s_n S) x y with
  | false =>
    refine CK.start [(0, _), (1, _), (2, _)] (plainFor_of_name (by decide)) (Nat.le_of_ble_eq_true rfl) rfl ?_
    refine K_aload_n dX4_week_0 rfl rfl ?_
    refine K_iconst (v := nI 0) dX4_week_1 (by decide) rfl ?_
    refine K_putI dX4_week_2 fl_X4_84 (by first | rfl | exact sk_rk (by omega) | exact sk_hh (by omega)) rfl rfl rfl rfl ?_
    refine K_aload_n dX4_week_5 rfl rfl ?_
    refine K_iload_n dX4_week_6 rfl rfl ?_
    refine K_iload_n dX4_week_7 rfl rfl ?_
    refine K_cv (ci := 4) (d1 := d - 1) [_, _] dX4_week_8 ml_X4_107 (by decide) rfl rfl rfl (Nat.le_of_ble_eq_true rfl) (c_X4_areTwo (by omega) hn h7) (by omega) rfl ?_
    refine K_if_eqB (tgt := 41) dX4_week_11 (by decide) rfl (fun c11 => ?_) (fun c11 => ?_)
    · refine K_iconst (v := (-1)) dX4_week_41 (by decide) rfl ?_
      refine K_iret dX4_week_42 rfl ?_
      rw [o_week, if_neg (fun h => by rw [ht] at h; cases h.1)]
      exact ⟨rfl, R0, FY.t0 N, rfl⟩
    · rw [ht] at c11; cases c11
  | true =>
    obtain ⟨f, g, hf, hg, hfg, rfl, rfl⟩ := (two_iff hn).mp ht
    have f9 := (R0.2.1 f hf).2.2.2.2.2.2.1
    have g7 := (R0.2.1 g hg).2.2.2.2.1
    have wf := (w.2.1 f hf).2.2.2.2.2.1
    have wg := (w.2.1 g hg).2.2.2.1
    have hh := s_hin_lt S f g
    refine CK.start [(0, _), (1, _), (2, _)] (plainFor_of_name (by decide)) (Nat.le_of_ble_eq_true rfl) rfl ?_
    refine K_aload_n dX4_week_0 rfl rfl ?_
    refine K_iconst (v := nI 0) dX4_week_1 (by decide) rfl ?_
    refine K_putI dX4_week_2 fl_X4_84 (by first | rfl | exact sk_rk (by omega) | exact sk_hh (by omega)) rfl rfl rfl rfl ?_
    refine K_aload_n dX4_week_5 rfl rfl ?_
    refine K_iload_n dX4_week_6 rfl rfl ?_
    refine K_iload_n dX4_week_7 rfl rfl ?_
    refine K_cv (ci := 4) (d1 := d - 1) [_, _] dX4_week_8 ml_X4_107 (by decide) rfl rfl rfl (Nat.le_of_ble_eq_true rfl) (c_X4_areTwo (by omega) hn h7) (by omega) rfl ?_
    refine K_if_eqB (tgt := 41) dX4_week_11 (by decide) rfl (fun c11 => ?_) (fun c11 => ?_)
    · rw [ht] at c11; cases c11
    · refine K_aload_n dX4_week_14 rfl rfl ?_
      refine K_iload_n dX4_week_15 rfl rfl ?_
      refine K_iload_n dX4_week_16 rfl rfl ?_
      refine K_cv (ci := 4) (d1 := d - 1) [_, _] dX4_week_17 ml_X4_142 (by decide) rfl rfl rfl (Nat.le_of_ble_eq_true rfl) (c_X4_barrier (by omega) R0 w hf hg) (by omega) rfl ?_
      refine K_if_neN (tgt := 41) dX4_week_20 (by decide) rfl (by first | omega | fail) (fun c20 => ?_) (fun c20 => ?_)
      · refine K_iconst (v := (-1)) dX4_week_41 (by decide) rfl ?_
        refine K_iret dX4_week_42 rfl ?_
        rw [o_week, nI_clamp (by omega), nI_clamp (by omega)]
        first | (rw [if_pos ⟨ht, c20⟩]; exact ⟨rfl, R0, FY.t0 N, rfl⟩) | (rw [if_neg (fun h => c20 h.2)]; exact ⟨rfl, R0, FY.t0 N, rfl⟩)
      · refine K_aload_n dX4_week_23 rfl rfl ?_
        refine K_getR (r := 48) dX4_week_24 fl_X4_29 rfl rfl rfl rfl ?_
        refine K_iload_n dX4_week_27 rfl rfl ?_
        refine K_iald dX4_week_28 (by first | rfl | exact sk_rk (by omega) | exact sk_hh (by omega)) (by first | omega | fail) (by decide) (by first | assumption | rfl) rfl ?_
        refine K_aload_n dX4_week_29 rfl rfl ?_
        refine K_getR (r := 46) dX4_week_30 fl_X4_23 rfl rfl rfl rfl ?_
        refine K_iload_n dX4_week_33 rfl rfl ?_
        refine K_iald dX4_week_34 (by first | rfl | exact sk_rk (by omega) | exact sk_hh (by omega)) (by first | omega | fail) (by decide) (by first | assumption | rfl) rfl ?_
        refine K_sv (d1 := d - 1) [_, _] dX4_week_35 ml_X4_139 rfl rfl (Nat.le_of_ble_eq_true rfl) (c_J9_max_7cf53 (by omega) (by omega)) (by omega) rfl ?_
        refine K_goto (tgt := 42) dX4_week_38 (by decide) ?_
        refine K_iret dX4_week_42 rfl ?_
        rw [o_week, nI_clamp (by omega), nI_clamp (by omega)]
        first | (rw [if_pos ⟨ht, c20⟩]; exact ⟨rfl, R0, FY.t0 N, rfl⟩) | (rw [if_neg (fun h => c20 h.2)]; exact ⟨rfl, R0, FY.t0 N, rfl⟩)
theorem yr_long {n : Nat} (hn : n ≤ 60) (x : Int32) : decide (¬ x.toInt64 < 0 ∧ ¬ (nI n - nI 1).toInt64 < x.toInt64) = decide (¬ x < 0 ∧ ¬ nI n ≤ x) := by
  apply decide_eq_decide.mpr
  have h1 : (nI n - nI 1).toInt = (n : Int) - 1 := pk_sub_toInt (by omega) (by decide)
  have h0 : ((0 : Int64)).toInt = 0 := by decide
  have h00 : ((0 : Int32)).toInt = 0 := by decide
  rw [Int64.lt_iff_toInt_lt, Int64.lt_iff_toInt_lt, Int32.toInt_toInt64, Int32.toInt_toInt64, h1, h0, Int32.lt_iff_toInt_lt, Int32.le_iff_toInt_le, nI_toInt (by omega), h00]
  omega
set_option maxRecDepth 100000 in
theorem c_X4_went {d : Nat} (hd : 2 ≤ d) {S : GS} {N : Mem} {K : Mej} (R : RY S N) (w : WF S) {y x : Int32} : CK d mX4_went [.ref 40, .int y, .int x] N K (PRY (o_went S y x) S N K) := by
  have hn := w.1.1
  have hyr := w.1.2.1
  have R0 := R.thr (nI 0)
  have h7 : sM N 40 0 (nI 0) 40 1 = nI (s_n S) := R0.1.1
  have h8 : sM N 40 0 (nI 0) 40 34 = nI (s_yr S) := R0.1.2.2.2.2.2.2
  have hli : CK (d - 1) mX4_lies [.long y.toInt64, .long 0, .long (nI (s_yr S) - nI 1).toInt64] (sM N 40 0 (nI 0)) K (PX (some (.int (bI (decide (¬ y < 0 ∧ ¬ nI (s_yr S) ≤ y))))) (sM N 40 0 (nI 0)) K) := by
    rw [← yr_long hyr y]
    exact c_X4_lies
  by_cases hok : ¬ y < 0 ∧ ¬ nI (s_yr S) ≤ y ∧ isF (s_n S) x = true
  · obtain ⟨hy0, hy1, hx⟩ := id hok
    obtain ⟨f, hf, rfl⟩ := (isF_iff hn).mp hx
    obtain ⟨j, hj, rfl⟩ := nI_of hy0
    have hj2 : j < s_yr S := by
      rw [nI_leI (by omega) hj] at hy1
      omega
    have hb := R0.2.2.2.1 j f hj2 (by omega)
    rw [decide_eq_true ⟨hy0, hy1⟩] at hli
    refine CK.start [(0, _), (1, _), (2, _)] (plainFor_of_name (by decide)) (Nat.le_of_ble_eq_true rfl) rfl ?_
    refine K_aload_n dX4_went_0 rfl rfl ?_
    refine K_iconst (v := nI 0) dX4_went_1 (by decide) rfl ?_
    refine K_putI dX4_went_2 fl_X4_84 (by first | rfl | exact sk_rk (by omega) | exact sk_hh (by omega)) rfl rfl rfl rfl ?_
    refine K_iload_n dX4_went_5 rfl rfl ?_
    refine K_i2l dX4_went_6 rfl ?_
    refine K_lconst (v := 0) dX4_went_7 (by decide) rfl ?_
    refine K_aload_n dX4_went_8 rfl rfl ?_
    refine K_getI dX4_went_9 fl_X4_161 (by first | rfl | exact sk_rk (by omega) | exact sk_hh (by omega)) rfl (by first | assumption | rfl) rfl ?_
    refine K_iconst (v := nI 1) dX4_went_12 (by decide) rfl ?_
    refine K_isub dX4_went_13 rfl ?_
    refine K_i2l dX4_went_14 rfl ?_
    refine K_sv (d1 := d - 1) [_, _, _] dX4_went_15 ml_X4_90 rfl rfl (Nat.le_of_ble_eq_true rfl) hli (by omega) rfl ?_
    refine K_if_eqB (tgt := 43) dX4_went_18 (by decide) rfl (fun c18 => ?_) (fun c18 => ?_)
    · cases c18
    · refine K_aload_n dX4_went_21 rfl rfl ?_
      refine K_iload_n dX4_went_22 rfl rfl ?_
      refine K_cv (ci := 4) (d1 := d - 1) [_] dX4_went_23 ml_X4_94 (by decide) rfl rfl rfl (Nat.le_of_ble_eq_true rfl) (c_X4_isFamily (by omega) hn h7) (by omega) rfl ?_
      refine K_if_eqB (tgt := 43) dX4_went_26 (by decide) rfl (fun c26 => ?_) (fun c26 => ?_)
      · rw [hx] at c26; cases c26
      · refine K_aload_n dX4_went_29 rfl rfl ?_
        refine K_getR (r := 75) dX4_went_30 fl_X4_81 rfl rfl rfl rfl ?_
        refine K_bipush (v := nI 10) dX4_went_33 (by decide) rfl ?_
        refine K_iload_n dX4_went_35 rfl rfl ?_
        refine K_mulN dX4_went_36 rfl ?_
        refine K_iload_n dX4_went_37 rfl rfl ?_
        refine K_addN dX4_went_38 rfl ?_
        refine K_iald dX4_went_39 (by first | rfl | exact sk_rk (by omega) | exact sk_hh (by omega)) (by first | omega | fail) (by decide) (by first | assumption | rfl) rfl ?_
        refine K_goto (tgt := 44) dX4_went_40 (by decide) ?_
        refine K_iret dX4_went_44 rfl ?_
        rw [o_went, if_pos hok, nI_clamp (by omega), nI_clamp (by omega)]
        exact ⟨rfl, R0, FY.t0 N, rfl⟩
  · have hdummy := hn
    refine CK.start [(0, _), (1, _), (2, _)] (plainFor_of_name (by decide)) (Nat.le_of_ble_eq_true rfl) rfl ?_
    refine K_aload_n dX4_went_0 rfl rfl ?_
    refine K_iconst (v := nI 0) dX4_went_1 (by decide) rfl ?_
    refine K_putI dX4_went_2 fl_X4_84 (by first | rfl | exact sk_rk (by omega) | exact sk_hh (by omega)) rfl rfl rfl rfl ?_
    refine K_iload_n dX4_went_5 rfl rfl ?_
    refine K_i2l dX4_went_6 rfl ?_
    refine K_lconst (v := 0) dX4_went_7 (by decide) rfl ?_
    refine K_aload_n dX4_went_8 rfl rfl ?_
    refine K_getI dX4_went_9 fl_X4_161 (by first | rfl | exact sk_rk (by omega) | exact sk_hh (by omega)) rfl (by first | assumption | rfl) rfl ?_
    refine K_iconst (v := nI 1) dX4_went_12 (by decide) rfl ?_
    refine K_isub dX4_went_13 rfl ?_
    refine K_i2l dX4_went_14 rfl ?_
    refine K_sv (d1 := d - 1) [_, _, _] dX4_went_15 ml_X4_90 rfl rfl (Nat.le_of_ble_eq_true rfl) hli (by omega) rfl ?_
    refine K_if_eqB (tgt := 43) dX4_went_18 (by decide) rfl (fun c18 => ?_) (fun c18 => ?_)
    · refine K_iconst (v := (-1)) dX4_went_43 (by decide) rfl ?_
      refine K_iret dX4_went_44 rfl ?_
      rw [o_went, if_neg hok]
      exact ⟨rfl, R0, FY.t0 N, rfl⟩
    · refine K_aload_n dX4_went_21 rfl rfl ?_
      refine K_iload_n dX4_went_22 rfl rfl ?_
      refine K_cv (ci := 4) (d1 := d - 1) [_] dX4_went_23 ml_X4_94 (by decide) rfl rfl rfl (Nat.le_of_ble_eq_true rfl) (c_X4_isFamily (by omega) hn h7) (by omega) rfl ?_
      refine K_if_eqB (tgt := 43) dX4_went_26 (by decide) rfl (fun c26 => ?_) (fun c26 => ?_)
      · refine K_iconst (v := (-1)) dX4_went_43 (by decide) rfl ?_
        refine K_iret dX4_went_44 rfl ?_
        rw [o_went, if_neg hok]
        exact ⟨rfl, R0, FY.t0 N, rfl⟩
      · exact absurd ⟨(of_decide_eq_true c18).1, (of_decide_eq_true c18).2, c26⟩ hok
