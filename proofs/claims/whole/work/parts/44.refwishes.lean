set_option maxRecDepth 100000 in
set_option maxHeartbeats 4000000 in
theorem c_X4_wishes {d : Nat} (hd : 3 ≤ d) {S : GS} {N : Mem} {K : Mej} (R : RY S N) (w : WF S) {x kd n a st : Int32} : CK d mX4_wishes [.ref 40, .int x, .int kd, .int n, .int a, .int st] N K (PRY (o_wishes S x kd n a st).1 (o_wishes S x kd n a st).2 N K) := by
  have hn := w.1.1
  have R0 := R.c0
  generalize hN0 : sM (sM N 40 0 (nI 0)) 40 19 (nI 0) = M0 at R0
  have F0 : FY N M0 := by rw [← hN0]; exact FY.c0 N
  have h7 : M0 40 1 = nI (s_n S) := R0.1.1
  have l1 : CK (d - 1) mX4_lies [.long kd.toInt64, .long 0, .long 2] M0 K (PX (some (.int (bI (decide (¬ kd < 0 ∧ ¬ nI 2 < kd))))) M0 K) := c_li 0 (nI 2) (by decide) (by decide)
  by_cases hok : isF (s_n S) x = true ∧ ¬ kd < 0 ∧ ¬ nI 2 < kd ∧ n ≤ nI 20
  · obtain ⟨hx, hk0, hk2, hn20⟩ := id hok
    rw [o_wishes, if_pos hok]
    rw [decide_eq_true ⟨hk0, hk2⟩] at l1
    by_cases hneg : ¬ kd = nI 2 ∧ n < 0
    · rw [if_pos hneg]
      have hng : ¬ 0 ≤ n := fun h => by
        have h2 := hneg.2
        rw [Int32.lt_iff_toInt_lt] at h2
        rw [Int32.le_iff_toInt_le] at h
        omega
      refine CK.start [(0, _), (1, _), (2, _), (3, _), (4, _), (5, _)] (plainFor_of_name (by decide)) (Nat.le_of_ble_eq_true rfl) rfl ?_
      refine K_aload_n dX4_wishes_0 rfl rfl ?_
      refine K_iconst (v := nI 0) dX4_wishes_1 (by decide) rfl ?_
      refine K_putI dX4_wishes_2 fl_X4_84 (by first | rfl | exact sk_rk (by omega) | exact sk_hh (by omega)) rfl rfl rfl rfl ?_
      refine K_aload_n dX4_wishes_5 rfl rfl ?_
      refine K_iconst (v := nI 0) dX4_wishes_6 (by decide) rfl ?_
      refine K_putI dX4_wishes_7 fl_X4_98 (by first | rfl | exact sk_rk (by omega) | exact sk_hh (by omega)) rfl rfl rfl rfl ?_
      rw [hN0]
      refine K_aload_n dX4_wishes_10 rfl rfl ?_
      refine K_iload_n dX4_wishes_11 rfl rfl ?_
      refine K_cv (ci := 4) (d1 := d - 1) [_] dX4_wishes_12 ml_X4_94 (by decide) rfl rfl rfl (Nat.le_of_ble_eq_true rfl) (c_X4_isFamily (by omega) hn h7) (by omega) rfl ?_
      refine K_if_eqB (tgt := 36) dX4_wishes_15 (by decide) rfl (fun c15 => ?_) (fun c15 => ?_)
      · rw [hx] at c15; cases c15
      · refine K_iload_n dX4_wishes_18 rfl rfl ?_
        refine K_i2l dX4_wishes_19 rfl ?_
        refine K_lconst (v := 0) dX4_wishes_20 (by decide) rfl ?_
        refine K_ldc2 dX4_wishes_21 kl_X4_119 rfl ?_
        refine K_sv (d1 := d - 1) [_, _, _] dX4_wishes_24 ml_X4_90 rfl rfl (Nat.le_of_ble_eq_true rfl) l1 (by omega) rfl ?_
        refine K_if_eqB (tgt := 36) dX4_wishes_27 (by decide) rfl (fun c27 => ?_) (fun c27 => ?_)
        · cases c27
        · refine K_iload_n dX4_wishes_30 rfl rfl ?_
          refine K_bipush (v := nI 20) dX4_wishes_31 (by decide) rfl ?_
          refine K_icmp_le (tgt := 38) dX4_wishes_33 (by decide) rfl (fun c33 => ?_) (fun c33 => ?_)
          · refine K_iload_n dX4_wishes_38 rfl rfl ?_
            refine K_if_ge (tgt := 50) dX4_wishes_39 (by decide) rfl (fun c39 => ?_) (fun c39 => ?_)
            · exact absurd c39 hng
            · refine K_iload_n dX4_wishes_42 rfl rfl ?_
              refine K_iconst (v := nI 2) dX4_wishes_43 (by decide) rfl ?_
              refine K_icmp_eq (tgt := 50) dX4_wishes_44 (by decide) rfl (fun c44 => ?_) (fun c44 => ?_)
              · exact absurd c44 hneg.1
              · refine K_bipush (v := (-2)) dX4_wishes_47 (by decide) rfl ?_
                refine K_iret dX4_wishes_49 rfl ?_
                exact ⟨rfl, R0, F0, rfl⟩
          · exact absurd hn20 c33
    · rw [if_neg hneg]
      obtain ⟨f, hf, rfl⟩ := (isF_iff hn).mp hx
      have hc : (nI f).toNatClampNeg = f := nI_clamp (by omega)
      have R1 := R0.drop f
      have w1 := w.c0.drop (f := f)
      have F1 : FY N (sM M0 52 f (nI 0)) := F0.set (by decide)
      rw [hc]
      by_cases hk : kd = nI 2
      · have hg : wsG S f kd n a st = gN (gC S) 8 f 0 := if_pos hk
        rw [hg]
        have hw1 := (R1.2.2.1 f (by omega)).2.1
        refine CK.start [(0, _), (1, _), (2, _), (3, _), (4, _), (5, _)] (plainFor_of_name (by decide)) (Nat.le_of_ble_eq_true rfl) rfl ?_
        refine K_aload_n dX4_wishes_0 rfl rfl ?_
        refine K_iconst (v := nI 0) dX4_wishes_1 (by decide) rfl ?_
        refine K_putI dX4_wishes_2 fl_X4_84 (by first | rfl | exact sk_rk (by omega) | exact sk_hh (by omega)) rfl rfl rfl rfl ?_
        refine K_aload_n dX4_wishes_5 rfl rfl ?_
        refine K_iconst (v := nI 0) dX4_wishes_6 (by decide) rfl ?_
        refine K_putI dX4_wishes_7 fl_X4_98 (by first | rfl | exact sk_rk (by omega) | exact sk_hh (by omega)) rfl rfl rfl rfl ?_
        rw [hN0]
        refine K_aload_n dX4_wishes_10 rfl rfl ?_
        refine K_iload_n dX4_wishes_11 rfl rfl ?_
        refine K_cv (ci := 4) (d1 := d - 1) [_] dX4_wishes_12 ml_X4_94 (by decide) rfl rfl rfl (Nat.le_of_ble_eq_true rfl) (c_X4_isFamily (by omega) hn h7) (by omega) rfl ?_
        refine K_if_eqB (tgt := 36) dX4_wishes_15 (by decide) rfl (fun c15 => ?_) (fun c15 => ?_)
        · rw [hx] at c15; cases c15
        · refine K_iload_n dX4_wishes_18 rfl rfl ?_
          refine K_i2l dX4_wishes_19 rfl ?_
          refine K_lconst (v := 0) dX4_wishes_20 (by decide) rfl ?_
          refine K_ldc2 dX4_wishes_21 kl_X4_119 rfl ?_
          refine K_sv (d1 := d - 1) [_, _, _] dX4_wishes_24 ml_X4_90 rfl rfl (Nat.le_of_ble_eq_true rfl) l1 (by omega) rfl ?_
          refine K_if_eqB (tgt := 36) dX4_wishes_27 (by decide) rfl (fun c27 => ?_) (fun c27 => ?_)
          · cases c27
          · refine K_iload_n dX4_wishes_30 rfl rfl ?_
            refine K_bipush (v := nI 20) dX4_wishes_31 (by decide) rfl ?_
            refine K_icmp_le (tgt := 38) dX4_wishes_33 (by decide) rfl (fun c33 => ?_) (fun c33 => ?_)
            · refine K_iload_n dX4_wishes_38 rfl rfl ?_
              refine K_if_ge (tgt := 50) dX4_wishes_39 (by decide) rfl (fun c39 => ?_) (fun c39 => ?_)
              · refine K_aload_n dX4_wishes_50 rfl rfl ?_
                refine K_getR (r := 52) dX4_wishes_51 fl_X4_41 rfl rfl rfl rfl ?_
                refine K_iload_n dX4_wishes_54 rfl rfl ?_
                refine K_iconst (v := nI 0) dX4_wishes_55 (by decide) rfl ?_
                refine K_iast dX4_wishes_56 (by first | rfl | exact sk_rk (by omega) | exact sk_hh (by omega)) (by first | omega | fail) (by decide) rfl ?_
                refine K_iconst (v := nI 0) dX4_wishes_57 (by decide) rfl ?_
                refine K_istore (lv' := [(0, _), (1, _), (2, _), (3, _), (4, _), (5, _), (6, _)]) dX4_wishes_58 (by decide) rfl rfl ?_
                refine K_iload dX4_wishes_60 rfl rfl ?_
                refine K_iload_n dX4_wishes_62 rfl rfl ?_
                refine K_icmp_ge (tgt := 135) dX4_wishes_63 (by decide) rfl (fun c63 => ?_) (fun c63 => ?_)
                · refine K_aload_n dX4_wishes_135 rfl rfl ?_
                  refine K_getR (r := 52) dX4_wishes_136 fl_X4_41 rfl rfl rfl rfl ?_
                  refine K_iload_n dX4_wishes_139 rfl rfl ?_
                  refine K_iald dX4_wishes_140 (by first | rfl | exact sk_rk (by omega) | exact sk_hh (by omega)) (by first | omega | fail) (by decide) (by first | assumption | rfl) rfl ?_
                  refine K_iret dX4_wishes_141 rfl ?_
                  exact ⟨rfl, R1, F1, rfl⟩
                · refine K_iload_n dX4_wishes_66 rfl rfl ?_
                  refine K_iconst (v := nI 2) dX4_wishes_67 (by decide) rfl ?_
                  refine K_icmp_eq (tgt := 135) dX4_wishes_68 (by decide) rfl (fun c68 => ?_) (fun c68 => ?_)
                  · refine K_aload_n dX4_wishes_135 rfl rfl ?_
                    refine K_getR (r := 52) dX4_wishes_136 fl_X4_41 rfl rfl rfl rfl ?_
                    refine K_iload_n dX4_wishes_139 rfl rfl ?_
                    refine K_iald dX4_wishes_140 (by first | rfl | exact sk_rk (by omega) | exact sk_hh (by omega)) (by first | omega | fail) (by decide) (by first | assumption | rfl) rfl ?_
                    refine K_iret dX4_wishes_141 rfl ?_
                    exact ⟨rfl, R1, F1, rfl⟩
                  · exact absurd hk c68
              · refine K_iload_n dX4_wishes_42 rfl rfl ?_
                refine K_iconst (v := nI 2) dX4_wishes_43 (by decide) rfl ?_
                refine K_icmp_eq (tgt := 50) dX4_wishes_44 (by decide) rfl (fun c44 => ?_) (fun c44 => ?_)
                · refine K_aload_n dX4_wishes_50 rfl rfl ?_
                  refine K_getR (r := 52) dX4_wishes_51 fl_X4_41 rfl rfl rfl rfl ?_
                  refine K_iload_n dX4_wishes_54 rfl rfl ?_
                  refine K_iconst (v := nI 0) dX4_wishes_55 (by decide) rfl ?_
                  refine K_iast dX4_wishes_56 (by first | rfl | exact sk_rk (by omega) | exact sk_hh (by omega)) (by first | omega | fail) (by decide) rfl ?_
                  refine K_iconst (v := nI 0) dX4_wishes_57 (by decide) rfl ?_
                  refine K_istore (lv' := [(0, _), (1, _), (2, _), (3, _), (4, _), (5, _), (6, _)]) dX4_wishes_58 (by decide) rfl rfl ?_
                  refine K_iload dX4_wishes_60 rfl rfl ?_
                  refine K_iload_n dX4_wishes_62 rfl rfl ?_
                  refine K_icmp_ge (tgt := 135) dX4_wishes_63 (by decide) rfl (fun c63 => ?_) (fun c63 => ?_)
                  · refine K_aload_n dX4_wishes_135 rfl rfl ?_
                    refine K_getR (r := 52) dX4_wishes_136 fl_X4_41 rfl rfl rfl rfl ?_
                    refine K_iload_n dX4_wishes_139 rfl rfl ?_
                    refine K_iald dX4_wishes_140 (by first | rfl | exact sk_rk (by omega) | exact sk_hh (by omega)) (by first | omega | fail) (by decide) (by first | assumption | rfl) rfl ?_
                    refine K_iret dX4_wishes_141 rfl ?_
                    exact ⟨rfl, R1, F1, rfl⟩
                  · refine K_iload_n dX4_wishes_66 rfl rfl ?_
                    refine K_iconst (v := nI 2) dX4_wishes_67 (by decide) rfl ?_
                    refine K_icmp_eq (tgt := 135) dX4_wishes_68 (by decide) rfl (fun c68 => ?_) (fun c68 => ?_)
                    · refine K_aload_n dX4_wishes_135 rfl rfl ?_
                      refine K_getR (r := 52) dX4_wishes_136 fl_X4_41 rfl rfl rfl rfl ?_
                      refine K_iload_n dX4_wishes_139 rfl rfl ?_
                      refine K_iald dX4_wishes_140 (by first | rfl | exact sk_rk (by omega) | exact sk_hh (by omega)) (by first | omega | fail) (by decide) (by first | assumption | rfl) rfl ?_
                      refine K_iret dX4_wishes_141 rfl ?_
                      exact ⟨rfl, R1, F1, rfl⟩
                    · exact absurd hk c68
                · exact absurd hk c44
            · exact absurd hn20 c33
      · have hn0 : ¬ n < 0 := fun h => hneg ⟨hk, h⟩
        obtain ⟨nn, hnn, rfl⟩ := nI_of hn0
        have hn2 := nle_20 hnn hn20
        have hg : wsG S f kd (nI nn) a st = cpF f (decide (kd = 0)) a st nn 0 (gN (gC S) 8 f 0) := by rw [wsG, if_neg hk, nI_clamp hnn]
        rw [hg]
        have hf1 : f < s_n (gN (gC S) 8 f 0) := hf
        refine CK.start [(0, _), (1, _), (2, _), (3, _), (4, _), (5, _)] (plainFor_of_name (by decide)) (Nat.le_of_ble_eq_true rfl) rfl ?_
        refine K_aload_n dX4_wishes_0 rfl rfl ?_
        refine K_iconst (v := nI 0) dX4_wishes_1 (by decide) rfl ?_
        refine K_putI dX4_wishes_2 fl_X4_84 (by first | rfl | exact sk_rk (by omega) | exact sk_hh (by omega)) rfl rfl rfl rfl ?_
        refine K_aload_n dX4_wishes_5 rfl rfl ?_
        refine K_iconst (v := nI 0) dX4_wishes_6 (by decide) rfl ?_
        refine K_putI dX4_wishes_7 fl_X4_98 (by first | rfl | exact sk_rk (by omega) | exact sk_hh (by omega)) rfl rfl rfl rfl ?_
        rw [hN0]
        refine K_aload_n dX4_wishes_10 rfl rfl ?_
        refine K_iload_n dX4_wishes_11 rfl rfl ?_
        refine K_cv (ci := 4) (d1 := d - 1) [_] dX4_wishes_12 ml_X4_94 (by decide) rfl rfl rfl (Nat.le_of_ble_eq_true rfl) (c_X4_isFamily (by omega) hn h7) (by omega) rfl ?_
        refine K_if_eqB (tgt := 36) dX4_wishes_15 (by decide) rfl (fun c15 => ?_) (fun c15 => ?_)
        · rw [hx] at c15; cases c15
        · refine K_iload_n dX4_wishes_18 rfl rfl ?_
          refine K_i2l dX4_wishes_19 rfl ?_
          refine K_lconst (v := 0) dX4_wishes_20 (by decide) rfl ?_
          refine K_ldc2 dX4_wishes_21 kl_X4_119 rfl ?_
          refine K_sv (d1 := d - 1) [_, _, _] dX4_wishes_24 ml_X4_90 rfl rfl (Nat.le_of_ble_eq_true rfl) l1 (by omega) rfl ?_
          refine K_if_eqB (tgt := 36) dX4_wishes_27 (by decide) rfl (fun c27 => ?_) (fun c27 => ?_)
          · cases c27
          · refine K_iload_n dX4_wishes_30 rfl rfl ?_
            refine K_bipush (v := nI 20) dX4_wishes_31 (by decide) rfl ?_
            refine K_icmp_le (tgt := 38) dX4_wishes_33 (by decide) rfl (fun c33 => ?_) (fun c33 => ?_)
            · refine K_iload_n dX4_wishes_38 rfl rfl ?_
              refine K_if_geN (tgt := 50) dX4_wishes_39 (by decide) rfl (by first | omega | fail) (fun c39 => ?_) (fun c39 => ?_)
              · refine K_aload_n dX4_wishes_50 rfl rfl ?_
                refine K_getR (r := 52) dX4_wishes_51 fl_X4_41 rfl rfl rfl rfl ?_
                refine K_iload_n dX4_wishes_54 rfl rfl ?_
                refine K_iconst (v := nI 0) dX4_wishes_55 (by decide) rfl ?_
                refine K_iast dX4_wishes_56 (by first | rfl | exact sk_rk (by omega) | exact sk_hh (by omega)) (by first | omega | fail) (by decide) rfl ?_
                refine K_iconst (v := nI 0) dX4_wishes_57 (by decide) rfl ?_
                refine K_istore (lv' := [(0, _), (1, _), (2, _), (3, _), (4, _), (5, _), (6, _)]) dX4_wishes_58 (by decide) rfl rfl ?_
                exact l_X4_wishes hd hn2 hk nn 0 _ _ (by omega) R1 w1 hf1 F1 rfl
              · exact c39.elim
            · exact absurd hn20 c33
  · rw [o_wishes, if_neg hok]
    refine CK.start [(0, _), (1, _), (2, _), (3, _), (4, _), (5, _)] (plainFor_of_name (by decide)) (Nat.le_of_ble_eq_true rfl) rfl ?_
    refine K_aload_n dX4_wishes_0 rfl rfl ?_
    refine K_iconst (v := nI 0) dX4_wishes_1 (by decide) rfl ?_
    refine K_putI dX4_wishes_2 fl_X4_84 (by first | rfl | exact sk_rk (by omega) | exact sk_hh (by omega)) rfl rfl rfl rfl ?_
    refine K_aload_n dX4_wishes_5 rfl rfl ?_
    refine K_iconst (v := nI 0) dX4_wishes_6 (by decide) rfl ?_
    refine K_putI dX4_wishes_7 fl_X4_98 (by first | rfl | exact sk_rk (by omega) | exact sk_hh (by omega)) rfl rfl rfl rfl ?_
    rw [hN0]
    refine K_aload_n dX4_wishes_10 rfl rfl ?_
    refine K_iload_n dX4_wishes_11 rfl rfl ?_
    refine K_cv (ci := 4) (d1 := d - 1) [_] dX4_wishes_12 ml_X4_94 (by decide) rfl rfl rfl (Nat.le_of_ble_eq_true rfl) (c_X4_isFamily (by omega) hn h7) (by omega) rfl ?_
    refine K_if_eqB (tgt := 36) dX4_wishes_15 (by decide) rfl (fun c15 => ?_) (fun c15 => ?_)
    · refine K_iconst (v := (-1)) dX4_wishes_36 (by decide) rfl ?_
      refine K_iret dX4_wishes_37 rfl ?_
      exact ⟨rfl, R0, F0, rfl⟩
    · refine K_iload_n dX4_wishes_18 rfl rfl ?_
      refine K_i2l dX4_wishes_19 rfl ?_
      refine K_lconst (v := 0) dX4_wishes_20 (by decide) rfl ?_
      refine K_ldc2 dX4_wishes_21 kl_X4_119 rfl ?_
      refine K_sv (d1 := d - 1) [_, _, _] dX4_wishes_24 ml_X4_90 rfl rfl (Nat.le_of_ble_eq_true rfl) l1 (by omega) rfl ?_
      refine K_if_eqB (tgt := 36) dX4_wishes_27 (by decide) rfl (fun c27 => ?_) (fun c27 => ?_)
      · refine K_iconst (v := (-1)) dX4_wishes_36 (by decide) rfl ?_
        refine K_iret dX4_wishes_37 rfl ?_
        exact ⟨rfl, R0, F0, rfl⟩
      · refine K_iload_n dX4_wishes_30 rfl rfl ?_
        refine K_bipush (v := nI 20) dX4_wishes_31 (by decide) rfl ?_
        refine K_icmp_le (tgt := 38) dX4_wishes_33 (by decide) rfl (fun c33 => ?_) (fun c33 => ?_)
        · exact absurd ⟨c15, (of_decide_eq_true c27).1, (of_decide_eq_true c27).2, c33⟩ hok
        · refine K_iconst (v := (-1)) dX4_wishes_36 (by decide) rfl ?_
          refine K_iret dX4_wishes_37 rfl ?_
          exact ⟨rfl, R0, F0, rfl⟩
