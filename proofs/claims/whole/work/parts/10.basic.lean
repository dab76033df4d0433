set_option maxRecDepth 100000 in
theorem c_X3_isOneToNine {d : Nat} {N : Mem} {K : Mej} {x : Int32} : CK d mX3_isOneToNine [.int x] N K (PX (some (.int (bI (decide (¬ x < nI 1 ∧ ¬ nI 9 < x))))) N K) := by
  refine CK.start [(0, _)] (plainFor_of_name (by decide)) (Nat.le_of_ble_eq_true rfl) rfl ?_
  refine K_iload_n dX3_isOneToNine_0 rfl rfl ?_
  refine K_iconst (v := nI 1) dX3_isOneToNine_1 (by decide) rfl ?_
  refine K_icmp_lt (tgt := 15) dX3_isOneToNine_2 (by decide) rfl (fun c2 => ?_) (fun c2 => ?_)
  · refine K_iconst (v := nI 0) dX3_isOneToNine_15 (by decide) rfl ?_
    refine K_zret dX3_isOneToNine_16 rfl (by first | rfl | exact bI_nar _) ?_
    refine ⟨?_, rfl, rfl⟩
    simp_all
    rfl
  · refine K_iload_n dX3_isOneToNine_5 rfl rfl ?_
    refine K_bipush (v := nI 9) dX3_isOneToNine_6 (by decide) rfl ?_
    refine K_icmp_gt (tgt := 15) dX3_isOneToNine_8 (by decide) rfl (fun c8 => ?_) (fun c8 => ?_)
    · refine K_iconst (v := nI 0) dX3_isOneToNine_15 (by decide) rfl ?_
      refine K_zret dX3_isOneToNine_16 rfl (by first | rfl | exact bI_nar _) ?_
      refine ⟨?_, rfl, rfl⟩
      simp_all
      rfl
    · refine K_iconst (v := nI 1) dX3_isOneToNine_11 (by decide) rfl ?_
      refine K_goto (tgt := 16) dX3_isOneToNine_12 (by decide) ?_
      refine K_zret dX3_isOneToNine_16 rfl (by first | rfl | exact bI_nar _) ?_
      refine ⟨?_, rfl, rfl⟩
      simp_all
      rfl
set_option maxRecDepth 100000 in
theorem c_X3_isFamily {d : Nat} {N : Mem} {K : Mej} {n : Nat} {x : Int32} (hN : N 0 7 = nI n) : CK d mX3_isFamily [.ref 0, .int x] N K (PX (some (.int (bI (isF n x)))) N K) := by
  refine CK.start [(0, _), (1, _)] (plainFor_of_name (by decide)) (Nat.le_of_ble_eq_true rfl) rfl ?_
  refine K_iload_n dX3_isFamily_0 rfl rfl ?_
  refine K_if_lt (tgt := 16) dX3_isFamily_1 (by decide) rfl (fun c1 => ?_) (fun c1 => ?_)
  · refine K_iconst (v := nI 0) dX3_isFamily_16 (by decide) rfl ?_
    refine K_zret dX3_isFamily_17 rfl (by first | rfl | exact bI_nar _) ?_
    refine ⟨?_, rfl, rfl⟩
    simp_all [isF]
    rfl
  · refine K_iload_n dX3_isFamily_4 rfl rfl ?_
    refine K_aload_n dX3_isFamily_5 rfl rfl ?_
    refine K_getI dX3_isFamily_6 fl_X3_42 (by first | rfl | exact sk_rk (by omega) | exact sk_hh (by omega)) rfl (by first | assumption | rfl) rfl ?_
    refine K_icmp_ge (tgt := 16) dX3_isFamily_9 (by decide) rfl (fun c9 => ?_) (fun c9 => ?_)
    · refine K_iconst (v := nI 0) dX3_isFamily_16 (by decide) rfl ?_
      refine K_zret dX3_isFamily_17 rfl (by first | rfl | exact bI_nar _) ?_
      refine ⟨?_, rfl, rfl⟩
      simp_all [isF]
      rfl
    · refine K_iconst (v := nI 1) dX3_isFamily_12 (by decide) rfl ?_
      refine K_goto (tgt := 17) dX3_isFamily_13 (by decide) ?_
      refine K_zret dX3_isFamily_17 rfl (by first | rfl | exact bI_nar _) ?_
      refine ⟨?_, rfl, rfl⟩
      simp_all [isF]
      rfl
set_option maxRecDepth 100000 in
theorem c_X3_areTwo {d : Nat} (hd : 1 ≤ d) {N : Mem} {K : Mej} {n : Nat} {x y : Int32} (hN : N 0 7 = nI n) : CK d mX3_areTwo [.ref 0, .int x, .int y] N K (PX (some (.int (bI (two n x y)))) N K) := by
  refine CK.start [(0, _), (1, _), (2, _)] (plainFor_of_name (by decide)) (Nat.le_of_ble_eq_true rfl) rfl ?_
  refine K_aload_n dX3_areTwo_0 rfl rfl ?_
  refine K_iload_n dX3_areTwo_1 rfl rfl ?_
  refine K_cv (ci := 3) (d1 := d - 1) [_] dX3_areTwo_2 ml_X3_74 (by decide) rfl rfl rfl (Nat.le_of_ble_eq_true rfl) (c_X3_isFamily hN) (by omega) rfl ?_
  refine K_if_eqB (tgt := 25) dX3_areTwo_5 (by decide) rfl (fun c5 => ?_) (fun c5 => ?_)
  · refine K_iconst (v := nI 0) dX3_areTwo_25 (by decide) rfl ?_
    refine K_zret dX3_areTwo_26 rfl (by first | rfl | exact bI_nar _) ?_
    refine ⟨?_, rfl, rfl⟩
    simp_all [two]
    rfl
  · refine K_aload_n dX3_areTwo_8 rfl rfl ?_
    refine K_iload_n dX3_areTwo_9 rfl rfl ?_
    refine K_cv (ci := 3) (d1 := d - 1) [_] dX3_areTwo_10 ml_X3_74 (by decide) rfl rfl rfl (Nat.le_of_ble_eq_true rfl) (c_X3_isFamily hN) (by omega) rfl ?_
    refine K_if_eqB (tgt := 25) dX3_areTwo_13 (by decide) rfl (fun c13 => ?_) (fun c13 => ?_)
    · refine K_iconst (v := nI 0) dX3_areTwo_25 (by decide) rfl ?_
      refine K_zret dX3_areTwo_26 rfl (by first | rfl | exact bI_nar _) ?_
      refine ⟨?_, rfl, rfl⟩
      simp_all [two]
      rfl
    · refine K_iload_n dX3_areTwo_16 rfl rfl ?_
      refine K_iload_n dX3_areTwo_17 rfl rfl ?_
      refine K_icmp_eq (tgt := 25) dX3_areTwo_18 (by decide) rfl (fun c18 => ?_) (fun c18 => ?_)
      · refine K_iconst (v := nI 0) dX3_areTwo_25 (by decide) rfl ?_
        refine K_zret dX3_areTwo_26 rfl (by first | rfl | exact bI_nar _) ?_
        refine ⟨?_, rfl, rfl⟩
        simp_all [two]
        rfl
      · refine K_iconst (v := nI 1) dX3_areTwo_21 (by decide) rfl ?_
        refine K_goto (tgt := 26) dX3_areTwo_22 (by decide) ?_
        refine K_zret dX3_areTwo_26 rfl (by first | rfl | exact bI_nar _) ?_
        refine ⟨?_, rfl, rfl⟩
        simp_all [two]
        rfl
set_option maxRecDepth 100000 in
theorem c_X3_hindrance {d : Nat} (hd : 2 ≤ d) {S : GS} {N : Mem} {K : Mej} (R : RX S N K) (w : WF S) {f g : Nat} (hf : f < s_n S) (hg : g < s_n S) : CK d mX3_hindrance [.ref 0, .int (nI f), .int (nI g)] N K (PX (some (.int (nI (s_hin S f g)))) N K) := by
  have hn := w.1.1
  obtain ⟨f1, f2, f3, f4, f5, f6, f7, f8, f9, f10, ⟨mf, hmf, f11, hbf⟩, -⟩ := R.2.1 f (by omega)
  obtain ⟨g1, g2, g3, g4, g5, g6, g7, g8, g9, g10, -, -⟩ := R.2.1 g (by omega)
  obtain ⟨wf1, wf2, wf3, wf4, wf5, wf6, wf7⟩ := w.2.1 f hf
  obtain ⟨wg1, wg2, wg3, wg4, wg5, wg6, wg7⟩ := w.2.1 g hg
  have hst := R.1.2.2.2.1
  have hst2 := w.1.2.2.2.1
  have hbr := hbf g (by omega)
  have hsl : vSl (s_kd S g) (s_bd S g) ≤ 9 := Nat.le_trans vSl_le (by omega)
  refine CK.start [(0, _), (1, _), (2, _)] (plainFor_of_name (by decide)) (Nat.le_of_ble_eq_true rfl) rfl ?_
  refine K_aload_n dX3_hindrance_0 rfl rfl ?_
  refine K_getR (r := 1) dX3_hindrance_1 fl_X3_11 rfl rfl rfl rfl ?_
  refine K_iload_n dX3_hindrance_4 rfl rfl ?_
  refine K_hh dX3_hindrance_5 (by first | omega | fail) rfl ?_
  refine K_astore_n (lv' := [(0, _), (1, _), (2, _), (3, _)]) dX3_hindrance_6 (by decide) rfl rfl ?_
  refine K_aload_n dX3_hindrance_7 rfl rfl ?_
  refine K_getR (r := 1) dX3_hindrance_8 fl_X3_11 rfl rfl rfl rfl ?_
  refine K_iload_n dX3_hindrance_11 rfl rfl ?_
  refine K_hh dX3_hindrance_12 (by first | omega | fail) rfl ?_
  refine K_astore (lv' := [(0, _), (1, _), (2, _), (3, _), (4, _)]) dX3_hindrance_13 (by decide) rfl rfl ?_
  refine K_aload_n dX3_hindrance_15 rfl rfl ?_
  refine K_getI dX3_hindrance_16 fl_X3_114 (by first | rfl | exact sk_rk (by omega) | exact sk_hh (by omega)) rfl (by first | assumption | rfl) rfl ?_
  refine K_if_eqB (tgt := 30) dX3_hindrance_19 (by decide) rfl (fun c19 => ?_) (fun c19 => ?_)
  · refine K_iconst (v := nI 1) dX3_hindrance_30 (by decide) rfl ?_
    refine K_iret dX3_hindrance_31 rfl ?_
    refine ⟨?_, rfl, rfl⟩
    rw [s_hin, if_pos (by simp_all)]
  · refine K_aload dX3_hindrance_22 rfl rfl ?_
    refine K_getI dX3_hindrance_24 fl_X3_114 (by first | rfl | exact sk_rk (by omega) | exact sk_hh (by omega)) rfl (by first | assumption | rfl) rfl ?_
    refine K_if_neB (tgt := 32) dX3_hindrance_27 (by decide) rfl (fun c27 => ?_) (fun c27 => ?_)
    · refine K_aload_n dX3_hindrance_32 rfl rfl ?_
      refine K_iload_n dX3_hindrance_33 rfl rfl ?_
      refine K_cv (ci := 0) (d1 := d - 1) [_] dX3_hindrance_34 ml_X3_224 (by decide) (sk_hh (by omega)) rfl rfl (Nat.le_of_ble_eq_true rfl) (c_X0_isBarredFrom (by omega) (by omega) f11 hmf) (by omega) rfl ?_
      refine K_if_eqB (tgt := 42) dX3_hindrance_37 (by decide) rfl (fun c37 => ?_) (fun c37 => ?_)
      · refine K_aload_n dX3_hindrance_42 rfl rfl ?_
        refine K_getI dX3_hindrance_43 fl_X3_227 (by first | rfl | exact sk_rk (by omega) | exact sk_hh (by omega)) rfl (by first | assumption | rfl) rfl ?_
        refine K_aload dX3_hindrance_46 rfl rfl ?_
        refine K_cv (ci := 0) (d1 := d - 1) [] dX3_hindrance_48 ml_X3_137 (by decide) (sk_hh (by omega)) rfl rfl (Nat.le_of_ble_eq_true rfl) (c_X0_sleeps (by omega) g2 g3 wg1 (by omega)) (by omega) rfl ?_
        refine K_icmp_leN (tgt := 56) dX3_hindrance_51 (by decide) rfl (by first | omega | fail) (by first | omega | fail) (fun c51 => ?_) (fun c51 => ?_)
        · refine K_aload_n dX3_hindrance_56 rfl rfl ?_
          refine K_getI dX3_hindrance_57 fl_X3_230 (by first | rfl | exact sk_rk (by omega) | exact sk_hh (by omega)) rfl (by first | assumption | rfl) rfl ?_
          refine K_if_eqB (tgt := 73) dX3_hindrance_60 (by decide) rfl (fun c60 => ?_) (fun c60 => ?_)
          · refine K_aload_n dX3_hindrance_73 rfl rfl ?_
            refine K_aload dX3_hindrance_74 rfl rfl ?_
            refine K_cv (ci := 0) (d1 := d - 1) [_] dX3_hindrance_76 ml_X3_237 (by decide) (sk_hh (by omega)) rfl rfl (Nat.le_of_ble_eq_true rfl) (c_X0_weeksAt (by omega) (by omega) (by omega) f9 f10 g7 g8 (by omega) (by omega) (by omega) (by omega)) (by omega) rfl ?_
            refine K_aload_n dX3_hindrance_79 rfl rfl ?_
            refine K_getI dX3_hindrance_80 fl_X3_52 (by first | rfl | exact sk_rk (by omega) | exact sk_hh (by omega)) rfl (by first | assumption | rfl) rfl ?_
            refine K_icmp_ge (tgt := 90) dX3_hindrance_83 (by decide) rfl (fun c83 => ?_) (fun c83 => ?_)
            · refine K_iconst (v := nI 0) dX3_hindrance_90 (by decide) rfl ?_
              refine K_iret dX3_hindrance_91 rfl ?_
              refine ⟨?_, rfl, rfl⟩
              rw [wk_le (by omega) (by omega) (by omega)] at c83
              rw [s_hin, if_neg (by simp_all), if_neg (by rw [← hbr, c37]; decide), if_neg (by simp only [s_sl]; omega), if_neg (by simp_all)]
              first | rw [if_neg (by omega)] | rw [if_pos (by omega)]
            · refine K_iconst (v := nI 5) dX3_hindrance_86 (by decide) rfl ?_
              refine K_goto (tgt := 91) dX3_hindrance_87 (by decide) ?_
              refine K_iret dX3_hindrance_91 rfl ?_
              refine ⟨?_, rfl, rfl⟩
              rw [wk_le (by omega) (by omega) (by omega)] at c83
              rw [s_hin, if_neg (by simp_all), if_neg (by rw [← hbr, c37]; decide), if_neg (by simp only [s_sl]; omega), if_neg (by simp_all)]
              first | rw [if_neg (by omega)] | rw [if_pos (by omega)]
          · refine K_aload dX3_hindrance_63 rfl rfl ?_
            refine K_cv (ci := 0) (d1 := d - 1) [] dX3_hindrance_65 ml_X3_233 (by decide) (sk_hh (by omega)) rfl rfl (Nat.le_of_ble_eq_true rfl) (c_X0_welcomesPets (by omega) g2 wg1) (by omega) rfl ?_
            refine K_if_neB (tgt := 73) dX3_hindrance_68 (by decide) rfl (fun c68 => ?_) (fun c68 => ?_)
            · refine K_aload_n dX3_hindrance_73 rfl rfl ?_
              refine K_aload dX3_hindrance_74 rfl rfl ?_
              refine K_cv (ci := 0) (d1 := d - 1) [_] dX3_hindrance_76 ml_X3_237 (by decide) (sk_hh (by omega)) rfl rfl (Nat.le_of_ble_eq_true rfl) (c_X0_weeksAt (by omega) (by omega) (by omega) f9 f10 g7 g8 (by omega) (by omega) (by omega) (by omega)) (by omega) rfl ?_
              refine K_aload_n dX3_hindrance_79 rfl rfl ?_
              refine K_getI dX3_hindrance_80 fl_X3_52 (by first | rfl | exact sk_rk (by omega) | exact sk_hh (by omega)) rfl (by first | assumption | rfl) rfl ?_
              refine K_icmp_ge (tgt := 90) dX3_hindrance_83 (by decide) rfl (fun c83 => ?_) (fun c83 => ?_)
              · refine K_iconst (v := nI 0) dX3_hindrance_90 (by decide) rfl ?_
                refine K_iret dX3_hindrance_91 rfl ?_
                refine ⟨?_, rfl, rfl⟩
                rw [wk_le (by omega) (by omega) (by omega)] at c83
                rw [s_hin, if_neg (by simp_all), if_neg (by rw [← hbr, c37]; decide), if_neg (by simp only [s_sl]; omega), if_neg (by simp_all)]
                first | rw [if_neg (by omega)] | rw [if_pos (by omega)]
              · refine K_iconst (v := nI 5) dX3_hindrance_86 (by decide) rfl ?_
                refine K_goto (tgt := 91) dX3_hindrance_87 (by decide) ?_
                refine K_iret dX3_hindrance_91 rfl ?_
                refine ⟨?_, rfl, rfl⟩
                rw [wk_le (by omega) (by omega) (by omega)] at c83
                rw [s_hin, if_neg (by simp_all), if_neg (by rw [← hbr, c37]; decide), if_neg (by simp only [s_sl]; omega), if_neg (by simp_all)]
                first | rw [if_neg (by omega)] | rw [if_pos (by omega)]
            · refine K_iconst (v := nI 4) dX3_hindrance_71 (by decide) rfl ?_
              refine K_iret dX3_hindrance_72 rfl ?_
              refine ⟨?_, rfl, rfl⟩
              rw [s_hin, if_neg (by simp_all), if_neg (by rw [← hbr, c37]; decide), if_neg (by simp only [s_sl]; omega), if_pos ⟨c60, c68⟩]
        · refine K_iconst (v := nI 3) dX3_hindrance_54 (by decide) rfl ?_
          refine K_iret dX3_hindrance_55 rfl ?_
          refine ⟨?_, rfl, rfl⟩
          rw [s_hin, if_neg (by simp_all), if_neg (by rw [← hbr, c37]; decide), if_pos (by simp only [s_sl]; omega)]
      · refine K_iconst (v := nI 2) dX3_hindrance_40 (by decide) rfl ?_
        refine K_iret dX3_hindrance_41 rfl ?_
        refine ⟨?_, rfl, rfl⟩
        rw [s_hin, if_neg (by simp_all), if_pos (by rw [← hbr]; exact c37)]
    · refine K_iconst (v := nI 1) dX3_hindrance_30 (by decide) rfl ?_
      refine K_iret dX3_hindrance_31 rfl ?_
      refine ⟨?_, rfl, rfl⟩
      rw [s_hin, if_pos (by simp_all)]
set_option maxRecDepth 100000 in
theorem c_X3_takes {d : Nat} (hd : 3 ≤ d) {S : GS} {N : Mem} {K : Mej} (R : RX S N K) (w : WF S) {f g : Nat} (hf : f < s_n S) (hg : g < s_n S) : CK d mX3_takes [.ref 0, .int (nI f), .int (nI g)] N K (PX (some (.int (bI (s_tk S f g)))) N K) := by
  have hn := w.1.1
  have hr := R.2.2.1 f g (by omega) (by omega)
  have hr9 := w.rk9 (f := f) (by omega) g
  have hh : s_hin S f g < 6 := by unfold s_hin; (repeat' split) <;> omega
  refine CK.start [(0, _), (1, _), (2, _)] (plainFor_of_name (by decide)) (Nat.le_of_ble_eq_true rfl) rfl ?_
  refine K_aload_n dX3_takes_0 rfl rfl ?_
  refine K_getR (r := 1) dX3_takes_1 fl_X3_11 rfl rfl rfl rfl ?_
  refine K_iload_n dX3_takes_4 rfl rfl ?_
  refine K_hh dX3_takes_5 (by first | omega | fail) rfl ?_
  refine K_rk dX3_takes_6 fl_X3_155 (by first | omega | fail) rfl ?_
  refine K_iload_n dX3_takes_9 rfl rfl ?_
  refine K_iald dX3_takes_10 (by first | rfl | exact sk_rk (by omega) | exact sk_hh (by omega)) (by first | omega | fail) (by decide) (by first | assumption | rfl) rfl ?_
  refine K_if_leN (tgt := 27) dX3_takes_11 (by decide) rfl (by first | omega | fail) (fun c11 => ?_) (fun c11 => ?_)
  · refine K_iconst (v := nI 0) dX3_takes_27 (by decide) rfl ?_
    refine K_zret dX3_takes_28 rfl (by first | rfl | exact bI_nar _) ?_
    refine ⟨?_, rfl, rfl⟩
    simp only [s_tk]
    first | rw [decide_eq_true ⟨c11, c20⟩]; rfl | rw [decide_eq_false (fun h => c20 h.2)]; rfl | rw [decide_eq_false (fun h => absurd h.1 (by omega))]; rfl
  · refine K_aload_n dX3_takes_14 rfl rfl ?_
    refine K_iload_n dX3_takes_15 rfl rfl ?_
    refine K_iload_n dX3_takes_16 rfl rfl ?_
    refine K_cv (ci := 3) (d1 := d - 1) [_, _] dX3_takes_17 ml_X3_158 (by decide) rfl rfl rfl (Nat.le_of_ble_eq_true rfl) (c_X3_hindrance (by omega) R w hf hg) (by omega) rfl ?_
    refine K_if_neN (tgt := 27) dX3_takes_20 (by decide) rfl (by first | omega | fail) (fun c20 => ?_) (fun c20 => ?_)
    · refine K_iconst (v := nI 0) dX3_takes_27 (by decide) rfl ?_
      refine K_zret dX3_takes_28 rfl (by first | rfl | exact bI_nar _) ?_
      refine ⟨?_, rfl, rfl⟩
      simp only [s_tk]
      first | rw [decide_eq_true ⟨c11, c20⟩]; rfl | rw [decide_eq_false (fun h => c20 h.2)]; rfl | rw [decide_eq_false (fun h => absurd h.1 (by omega))]; rfl
    · refine K_iconst (v := nI 1) dX3_takes_23 (by decide) rfl ?_
      refine K_goto (tgt := 28) dX3_takes_24 (by decide) ?_
      refine K_zret dX3_takes_28 rfl (by first | rfl | exact bI_nar _) ?_
      refine ⟨?_, rfl, rfl⟩
      simp only [s_tk]
      first | rw [decide_eq_true ⟨c11, c20⟩]; rfl | rw [decide_eq_false (fun h => c20 h.2)]; rfl | rw [decide_eq_false (fun h => absurd h.1 (by omega))]; rfl
set_option maxRecDepth 100000 in
theorem c_X3_planRank {d : Nat} {S : GS} {N : Mem} {K : Mej} (R : RX S N K) (w : WF S) {f : Nat} (hf : f < 10) : CK d mX3_planRank [.ref 0, .int (nI f)] N K (PX (some (.int (nI (match s_pl S f with | none => 0 | some g => s_rk S f g)))) N K) := by
  have hn := w.1.1
  have hp := R.2.2.2.1 f hf
  have hob := w.plb hf
  cases hq : s_pl S f with
  | none =>
    rw [hq] at hp
    refine CK.start [(0, _), (1, _)] (plainFor_of_name (by decide)) (Nat.le_of_ble_eq_true rfl) rfl ?_
    refine K_aload_n dX3_planRank_0 rfl rfl ?_
    refine K_getR (r := 2) dX3_planRank_1 fl_X3_15 rfl rfl rfl rfl ?_
    refine K_iload_n dX3_planRank_4 rfl rfl ?_
    refine K_iald dX3_planRank_5 (by first | rfl | exact sk_rk (by omega) | exact sk_hh (by omega)) (by first | omega | fail) (by decide) (by first | assumption | rfl) rfl ?_
    refine K_iconst (v := (-1)) dX3_planRank_6 (by decide) rfl ?_
    refine K_icmp_ne (tgt := 14) dX3_planRank_7 (by decide) rfl (fun c7 => ?_) (fun c7 => ?_)
    · exact absurd rfl c7
    · refine K_iconst (v := nI 0) dX3_planRank_10 (by decide) rfl ?_
      refine K_goto (tgt := 30) dX3_planRank_11 (by decide) ?_
      refine K_iret dX3_planRank_30 rfl ?_
      exact ⟨rfl, rfl, rfl⟩
  | some g =>
    rw [hq] at hp
    obtain ⟨h1, h2, h3⟩ := w.2.2.2.2.1 f g hf hq
    have hr := R.2.2.1 f g hf (by omega)
    have hp2 : N 2 f = nI g := hp
    refine CK.start [(0, _), (1, _)] (plainFor_of_name (by decide)) (Nat.le_of_ble_eq_true rfl) rfl ?_
    refine K_aload_n dX3_planRank_0 rfl rfl ?_
    refine K_getR (r := 2) dX3_planRank_1 fl_X3_15 rfl rfl rfl rfl ?_
    refine K_iload_n dX3_planRank_4 rfl rfl ?_
    refine K_iald dX3_planRank_5 (by first | rfl | exact sk_rk (by omega) | exact sk_hh (by omega)) (by first | omega | fail) (by decide) (by first | assumption | rfl) rfl ?_
    refine K_iconst (v := (-1)) dX3_planRank_6 (by decide) rfl ?_
    refine K_icmp_ne (tgt := 14) dX3_planRank_7 (by decide) rfl (fun c7 => ?_) (fun c7 => ?_)
    · refine K_aload_n dX3_planRank_14 rfl rfl ?_
      refine K_getR (r := 1) dX3_planRank_15 fl_X3_11 rfl rfl rfl rfl ?_
      refine K_iload_n dX3_planRank_18 rfl rfl ?_
      refine K_hh dX3_planRank_19 (by first | omega | fail) rfl ?_
      refine K_rk dX3_planRank_20 fl_X3_155 (by first | omega | fail) rfl ?_
      refine K_aload_n dX3_planRank_23 rfl rfl ?_
      refine K_getR (r := 2) dX3_planRank_24 fl_X3_15 rfl rfl rfl rfl ?_
      refine K_iload_n dX3_planRank_27 rfl rfl ?_
      refine K_iald dX3_planRank_28 (by first | rfl | exact sk_rk (by omega) | exact sk_hh (by omega)) (by first | omega | fail) (by decide) (by first | assumption | rfl) rfl ?_
      refine K_iald dX3_planRank_29 (by first | rfl | exact sk_rk (by omega) | exact sk_hh (by omega)) (by first | omega | fail) (by decide) (by first | assumption | rfl) rfl ?_
      refine K_iret dX3_planRank_30 rfl ?_
      exact ⟨rfl, rfl, rfl⟩
    · exact absurd c7 (nI_neg1 (by omega))
