theorem RY.po {S : GS} {N : Mem} (R : RY S N) (f : Nat) (v : Int32) : RY (gZ S f v) (sM N 50 f v) := by
  refine ⟨R.1, R.2.1, fun f2 hf2 => ?_, R.2.2.2.1, R.2.2.2.2⟩
  obtain ⟨c1, c2, c3, c4⟩ := R.2.2.1 f2 hf2
  refine ⟨?_, c2, c3, c4⟩
  rw [sM_at]
  show _ = (if f2 = f then v else s_po S f2)
  by_cases e : f2 = f
  · rw [if_pos ⟨rfl, e⟩, if_pos e]
  · rw [if_neg (fun z => e z.2), if_neg e]
    exact c1
theorem RY.off {S : GS} {N : Mem} (h : s_ch S = false) (R : RY (gC S) N) : RY S N := by
  obtain ⟨⟨a1, a2, a3, a4, a5, a6, a7⟩, b, c, d, e⟩ := R
  refine ⟨⟨a1, a2, a3, a4, ?_, a6, a7⟩, b, c, d, e⟩
  rw [h]
  exact a5
theorem one_nI (w : Nat) : nI 1 * nI w = nI w := by rw [pk_mul, Nat.one_mul]
theorem l_X4_travel {d : Nat} (hd : 2 ≤ d) {S : GS} {N0 : Mem} {K : Mej} (w : WF S) : ∀ (k j : Nat) (N : Mem), j + 1 + k = s_tc S → RY (trv S j) N → FY N0 N → EK d mX4_travel (PRY (nI (s_tc S - 1)) (trv S (s_tc S - 1)) N0 K) 23 [(0, .ref 40), (1, .int (nI (s_tc S))), (2, .int (nI j))] [] N K
  | 0, j, N, h, R, F => by
    obtain rfl : j = s_tc S - 1 := by omega
    have ht := w.1.2.2.1
    refine K_iload_n dX4_travel_23 rfl rfl ?_
    refine K_iconst (v := nI 1) dX4_travel_24 (by decide) rfl ?_
    refine K_addN dX4_travel_25 rfl ?_
    refine K_iload_n dX4_travel_26 rfl rfl ?_
    refine K_icmp_geN (tgt := 90) dX4_travel_27 (by decide) rfl (by first | omega | fail) (by first | omega | fail) (fun c27 => ?_) (fun c27 => ?_)
    · refine K_iload_n dX4_travel_90 rfl rfl ?_
      refine K_iconst (v := nI 1) dX4_travel_91 (by decide) rfl ?_
      first | refine K_subN dX4_travel_92 (by first | omega | fail) rfl ?_ | refine K_isub dX4_travel_92 rfl ?_
      refine K_iret dX4_travel_93 rfl ?_
      exact ⟨rfl, R, F, rfl⟩
    · omega
  | k + 1, j, N, h, R, F => by
    have ih := fun N2 => l_X4_travel (N0 := N0) (K := K) hd w k (j + 1) N2 (by omega)
    have ht := w.1.2.2.1
    have hn := w.1.1
    have hq := trv_n S j
    have wj := trv_wf w j (by omega)
    have ha := w.2.2.2.2.2.2 j (by omega)
    have hb := w.2.2.2.2.2.2 (j + 1) (by omega)
    have t1 : N 70 j = nI (s_td S j) := by
      have := R.2.2.2.2 j (by rw [hq.2.2]; omega)
      rw [hq.2.1] at this
      exact this
    have t2 : N 70 (j + 1) = nI (s_td S (j + 1)) := by
      have := R.2.2.2.2 (j + 1) (by rw [hq.2.2]; omega)
      rw [hq.2.1] at this
      exact this
    have p1 := (R.2.2.1 (s_td S j) (by omega)).1
    have R1 := R.po (s_td S j) (s_po (trv S j) (s_td S j) - nI 1 * nI (s_wo (trv S j) (s_td S (j + 1))))
    have p2 := (R1.2.2.1 (s_td S (j + 1)) (by omega)).1
    have R2 := R1.po (s_td S (j + 1)) (s_po (gZ (trv S j) (s_td S j) (s_po (trv S j) (s_td S j) - nI 1 * nI (s_wo (trv S j) (s_td S (j + 1))))) (s_td S (j + 1)) + nI 1 * nI (s_wo (trv S j) (s_td S (j + 1))))
    have hw1 : CK (d - 1) mX4_worth [.ref 40, .int (nI (s_td S (j + 1)))] N K (PX (some (.int (nI (s_wo (trv S j) (s_td S (j + 1)))))) N K) := c_X4_worth (by omega) R wj (by rw [hq.1]; exact hb)
    have w1 : WF (gZ (trv S j) (s_td S j) (s_po (trv S j) (s_td S j) - nI 1 * nI (s_wo (trv S j) (s_td S (j + 1))))) := WF.po wj (by rw [hq.1]; exact ha) _
    have hw2 : CK (d - 1) mX4_worth [.ref 40, .int (nI (s_td S (j + 1)))] (sM N 50 (s_td S j) (s_po (trv S j) (s_td S j) - nI 1 * nI (s_wo (trv S j) (s_td S (j + 1))))) K (PX (some (.int (nI (s_wo (trv S j) (s_td S (j + 1)))))) (sM N 50 (s_td S j) (s_po (trv S j) (s_td S j) - nI 1 * nI (s_wo (trv S j) (s_td S (j + 1))))) K) := c_X4_worth (S := gZ (trv S j) (s_td S j) (s_po (trv S j) (s_td S j) - nI 1 * nI (s_wo (trv S j) (s_td S (j + 1))))) (by omega) R1 w1 (by show s_td S (j + 1) < s_n (trv S j); rw [hq.1]; exact hb)
    have t3 : sM N 50 (s_td S j) (s_po (trv S j) (s_td S j) - nI 1 * nI (s_wo (trv S j) (s_td S (j + 1)))) 70 (j + 1) = nI (s_td S (j + 1)) := t2
    rw [one_nI] at R1 R2 p2 hw2 t3
    refine K_iload_n dX4_travel_23 rfl rfl ?_
    refine K_iconst (v := nI 1) dX4_travel_24 (by decide) rfl ?_
    refine K_addN dX4_travel_25 rfl ?_
    refine K_iload_n dX4_travel_26 rfl rfl ?_
    refine K_icmp_geN (tgt := 90) dX4_travel_27 (by decide) rfl (by first | omega | fail) (by first | omega | fail) (fun c27 => ?_) (fun c27 => ?_)
    · omega
    · refine K_aload_n dX4_travel_30 rfl rfl ?_
      refine K_getR (r := 50) dX4_travel_31 fl_X4_35 rfl rfl rfl rfl ?_
      refine K_aload_n dX4_travel_34 rfl rfl ?_
      refine K_getR (r := 70) dX4_travel_35 fl_X4_72 rfl rfl rfl rfl ?_
      refine K_iload_n dX4_travel_38 rfl rfl ?_
      refine K_iald dX4_travel_39 (by first | rfl | exact sk_rk (by omega) | exact sk_hh (by omega)) (by first | omega | fail) (by decide) (by first | assumption | rfl) rfl ?_
      refine K_dup2 dX4_travel_40 rfl rfl rfl ?_
      refine K_iald dX4_travel_41 (by first | rfl | exact sk_rk (by omega) | exact sk_hh (by omega)) (by first | omega | fail) (by decide) (by first | assumption | rfl) rfl ?_
      refine K_aload_n dX4_travel_42 rfl rfl ?_
      refine K_aload_n dX4_travel_43 rfl rfl ?_
      refine K_getR (r := 70) dX4_travel_44 fl_X4_72 rfl rfl rfl rfl ?_
      refine K_iload_n dX4_travel_47 rfl rfl ?_
      refine K_iconst (v := nI 1) dX4_travel_48 (by decide) rfl ?_
      refine K_addN dX4_travel_49 rfl ?_
      refine K_iald dX4_travel_50 (by first | rfl | exact sk_rk (by omega) | exact sk_hh (by omega)) (by first | omega | fail) (by decide) (by first | assumption | rfl) rfl ?_
      refine K_cv (ci := 4) (d1 := d - 1) [_] dX4_travel_51 ml_X4_178 (by decide) rfl rfl rfl (Nat.le_of_ble_eq_true rfl) hw1 (by omega) rfl ?_
      refine K_isub dX4_travel_54 rfl ?_
      refine K_iast dX4_travel_55 (by first | rfl | exact sk_rk (by omega) | exact sk_hh (by omega)) (by first | omega | fail) (by decide) rfl ?_
      refine K_aload_n dX4_travel_56 rfl rfl ?_
      refine K_getR (r := 50) dX4_travel_57 fl_X4_35 rfl rfl rfl rfl ?_
      refine K_aload_n dX4_travel_60 rfl rfl ?_
      refine K_getR (r := 70) dX4_travel_61 fl_X4_72 rfl rfl rfl rfl ?_
      refine K_iload_n dX4_travel_64 rfl rfl ?_
      refine K_iconst (v := nI 1) dX4_travel_65 (by decide) rfl ?_
      refine K_addN dX4_travel_66 rfl ?_
      refine K_iald dX4_travel_67 (by first | rfl | exact sk_rk (by omega) | exact sk_hh (by omega)) (by first | omega | fail) (by decide) (by first | assumption | rfl) rfl ?_
      refine K_dup2 dX4_travel_68 rfl rfl rfl ?_
      refine K_iald dX4_travel_69 (by first | rfl | exact sk_rk (by omega) | exact sk_hh (by omega)) (by first | omega | fail) (by decide) (by first | assumption | rfl) rfl ?_
      refine K_aload_n dX4_travel_70 rfl rfl ?_
      refine K_aload_n dX4_travel_71 rfl rfl ?_
      refine K_getR (r := 70) dX4_travel_72 fl_X4_72 rfl rfl rfl rfl ?_
      refine K_iload_n dX4_travel_75 rfl rfl ?_
      refine K_iconst (v := nI 1) dX4_travel_76 (by decide) rfl ?_
      refine K_addN dX4_travel_77 rfl ?_
      refine K_iald dX4_travel_78 (by first | rfl | exact sk_rk (by omega) | exact sk_hh (by omega)) (by first | omega | fail) (by decide) (by first | assumption | rfl) rfl ?_
      refine K_cv (ci := 4) (d1 := d - 1) [_] dX4_travel_79 ml_X4_178 (by decide) rfl rfl rfl (Nat.le_of_ble_eq_true rfl) hw2 (by omega) rfl ?_
      refine K_iadd dX4_travel_82 rfl ?_
      refine K_iast dX4_travel_83 (by first | rfl | exact sk_rk (by omega) | exact sk_hh (by omega)) (by first | omega | fail) (by decide) rfl ?_
      first | refine K_incN (lv' := [(0, _), (1, _), (2, _)]) dX4_travel_84 rfl (by decide) rfl rfl ?_ | refine K_iinc (lv' := [(0, _), (1, _), (2, _)]) dX4_travel_84 rfl rfl (by decide) rfl rfl ?_
      refine K_goto (tgt := 23) dX4_travel_87 (by decide) ?_
      refine ih _ ?_ ((F.set (by decide)).set (by decide))
      show RY (payG (trv S j) (s_td S j) (s_td S (j + 1)) (nI 1)) _
      unfold payG
      rw [one_nI]
      exact R2
set_option maxRecDepth 100000 in
theorem c_X4_travel {d : Nat} (hd : 2 ≤ d) {S : GS} {N : Mem} {K : Mej} (R : RY S N) (w : WF S) (hc : s_ch S = true → 1 ≤ s_tc S) : CK d mX4_travel [.ref 40] N K (PRY (o_travel S).1 (o_travel S).2 N K) := by
  have ht := w.1.2.2.1
  have R0 := R.c0
  have h19 : sM N 40 0 (nI 0) 40 19 = nI (if s_ch S = true then s_tc S else 0) := (R.thr (nI 0)).1.2.2.2.2.1
  cases hs : s_ch S with
  | false =>
    rw [hs] at h19
    have h19b : sM N 40 0 (nI 0) 40 19 = nI 0 := h19
    clear h19
    refine CK.start [(0, _)] (plainFor_of_name (by decide)) (Nat.le_of_ble_eq_true rfl) rfl ?_
    refine K_aload_n dX4_travel_0 rfl rfl ?_
    refine K_iconst (v := nI 0) dX4_travel_1 (by decide) rfl ?_
    refine K_putI dX4_travel_2 fl_X4_84 (by first | rfl | exact sk_rk (by omega) | exact sk_hh (by omega)) rfl rfl rfl rfl ?_
    refine K_aload_n dX4_travel_5 rfl rfl ?_
    refine K_getI dX4_travel_6 fl_X4_98 (by first | rfl | exact sk_rk (by omega) | exact sk_hh (by omega)) rfl (by first | assumption | rfl) rfl ?_
    refine K_istore_n (lv' := [(0, _), (1, _)]) dX4_travel_9 (by decide) rfl rfl ?_
    refine K_aload_n dX4_travel_10 rfl rfl ?_
    refine K_iconst (v := nI 0) dX4_travel_11 (by decide) rfl ?_
    refine K_putI dX4_travel_12 fl_X4_98 (by first | rfl | exact sk_rk (by omega) | exact sk_hh (by omega)) rfl rfl rfl rfl ?_
    refine K_iload_n dX4_travel_15 rfl rfl ?_
    refine K_if_neN (tgt := 21) dX4_travel_16 (by decide) rfl (by first | omega | fail) (fun c16 => ?_) (fun c16 => ?_)
    · exact absurd rfl c16
    · refine K_iconst (v := (-1)) dX4_travel_19 (by decide) rfl ?_
      refine K_iret dX4_travel_20 rfl ?_
      rw [o_travel, hs]
      exact ⟨rfl, RY.off hs R0, FY.c0 N, rfl⟩
  | true =>
    rw [hs, if_pos rfl] at h19
    have h1 := hc hs
    refine CK.start [(0, _)] (plainFor_of_name (by decide)) (Nat.le_of_ble_eq_true rfl) rfl ?_
    refine K_aload_n dX4_travel_0 rfl rfl ?_
    refine K_iconst (v := nI 0) dX4_travel_1 (by decide) rfl ?_
    refine K_putI dX4_travel_2 fl_X4_84 (by first | rfl | exact sk_rk (by omega) | exact sk_hh (by omega)) rfl rfl rfl rfl ?_
    refine K_aload_n dX4_travel_5 rfl rfl ?_
    refine K_getI dX4_travel_6 fl_X4_98 (by first | rfl | exact sk_rk (by omega) | exact sk_hh (by omega)) rfl (by first | assumption | rfl) rfl ?_
    refine K_istore_n (lv' := [(0, _), (1, _)]) dX4_travel_9 (by decide) rfl rfl ?_
    refine K_aload_n dX4_travel_10 rfl rfl ?_
    refine K_iconst (v := nI 0) dX4_travel_11 (by decide) rfl ?_
    refine K_putI dX4_travel_12 fl_X4_98 (by first | rfl | exact sk_rk (by omega) | exact sk_hh (by omega)) rfl rfl rfl rfl ?_
    refine K_iload_n dX4_travel_15 rfl rfl ?_
    refine K_if_neN (tgt := 21) dX4_travel_16 (by decide) rfl (by first | omega | fail) (fun c16 => ?_) (fun c16 => ?_)
    · refine K_iconst (v := nI 0) dX4_travel_21 (by decide) rfl ?_
      refine K_istore_n (lv' := [(0, _), (1, _), (2, _)]) dX4_travel_22 (by decide) rfl rfl ?_
      rw [o_travel, hs]
      exact l_X4_travel hd (S := gC S) w.c0 (s_tc S - 1) 0 _ (by show 0 + 1 + (s_tc S - 1) = s_tc S; omega) R0 (FY.c0 N)
    · omega
