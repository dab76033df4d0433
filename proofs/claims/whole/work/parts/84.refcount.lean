set_option maxRecDepth 100000 in
theorem sw_X4_count {d : Nat} (hd : 6 ≤ d) {S : GS} {N : Mem} {K : Mej} {Post : PK} (R : RY S N) (w : WF S) {x : Int32} (hP : Post (some (.int (o_count S x))) N K) : EK d mX4_count Post 74 [(0, .ref 40), (1, .int x), (2, .int (nI (cnt (s_pr S) (s_n S)))), (3, .int (nI (sumF (s_pk S) (s_n S)))), (4, .int (nI (s_n S)))] [] N K := by
  obtain ⟨h1, -, -, -, -, h29, h34⟩ := R.1
  refine K_iload_n dX4_count_74 rfl rfl ?_
  by_cases e0 : x = nI 0
  · subst e0
    refine K_tswI (off := 41) (tgt := 116) dX4_count_75 (by decide) (by decide) (by decide) (by decide) ?_
    refine K_aload_n dX4_count_116 rfl rfl ?_
    refine K_getI dX4_count_117 fl_X4_87 (by first | rfl | exact sk_rk (by omega) | exact sk_hh (by omega)) rfl (by first | assumption | rfl) rfl ?_
    refine K_iret dX4_count_120 rfl ?_
    exact hP
  by_cases e1 : x = nI 1
  · subst e1
    refine K_tswI (off := 46) (tgt := 121) dX4_count_75 (by decide) (by decide) (by decide) (by decide) ?_
    refine K_iload_n dX4_count_121 rfl rfl ?_
    refine K_iret dX4_count_122 rfl ?_
    exact hP
  by_cases e2 : x = nI 2
  · subst e2
    refine K_tswI (off := 48) (tgt := 123) dX4_count_75 (by decide) (by decide) (by decide) (by decide) ?_
    refine K_aload_n dX4_count_123 rfl rfl ?_
    refine K_getI dX4_count_124 fl_X4_161 (by first | rfl | exact sk_rk (by omega) | exact sk_hh (by omega)) rfl (by first | assumption | rfl) rfl ?_
    refine K_iret dX4_count_127 rfl ?_
    exact hP
  by_cases e3 : x = nI 3
  · subst e3
    refine K_tswI (off := 53) (tgt := 128) dX4_count_75 (by decide) (by decide) (by decide) (by decide) ?_
    refine K_aload_n dX4_count_128 rfl rfl ?_
    refine K_getI dX4_count_129 fl_X4_164 (by first | rfl | exact sk_rk (by omega) | exact sk_hh (by omega)) rfl (by first | assumption | rfl) rfl ?_
    refine K_iret dX4_count_132 rfl ?_
    exact hP
  by_cases e4 : x = nI 4
  · subst e4
    refine K_tswI (off := 58) (tgt := 133) dX4_count_75 (by decide) (by decide) (by decide) (by decide) ?_
    refine K_aload_n dX4_count_133 rfl rfl ?_
    refine K_cv (ci := 4) (d1 := d - 1) [] dX4_count_134 ml_X4_167 (by decide) rfl rfl rfl (Nat.le_of_ble_eq_true rfl) (c_X4_goers (by omega) R w) (by omega) rfl ?_
    refine K_iret dX4_count_137 rfl ?_
    exact hP
  by_cases e5 : x = nI 5
  · subst e5
    refine K_tswI (off := 63) (tgt := 138) dX4_count_75 (by decide) (by decide) (by decide) (by decide) ?_
    refine K_aload_n dX4_count_138 rfl rfl ?_
    refine K_cv (ci := 4) (d1 := d - 1) [] dX4_count_139 ml_X4_170 (by decide) rfl rfl rfl (Nat.le_of_ble_eq_true rfl) (c_X4_rings (by omega) R w) (by omega) rfl ?_
    refine K_iret dX4_count_142 rfl ?_
    exact hP
  by_cases e6 : x = nI 6
  · subst e6
    refine K_tswI (off := 68) (tgt := 143) dX4_count_75 (by decide) (by decide) (by decide) (by decide) ?_
    refine K_iload_n dX4_count_143 rfl rfl ?_
    refine K_iret dX4_count_144 rfl ?_
    exact hP
  have ho := sw_out (x := x) 6 (by decide) (fun j hj => by
    rcases (show j = 0 ∨ j = 1 ∨ j = 2 ∨ j = 3 ∨ j = 4 ∨ j = 5 ∨ j = 6 by omega) with rfl | rfl | rfl | rfl | rfl | rfl | rfl <;> assumption)
  rw [o_count, if_neg e0, if_neg e1, if_neg e2, if_neg e3, if_neg e4, if_neg e5, if_neg e6] at hP
  refine K_tswO (tgt := 145) dX4_count_75 ho (by decide) ?_
  refine K_iconst (v := (-1)) dX4_count_145 (by decide) rfl ?_
  refine K_iret dX4_count_146 rfl ?_
  exact hP
theorem l_X4_count {d : Nat} (hd : 6 ≤ d) {S : GS} {N : Mem} {K : Mej} {Post : PK} (R : RY S N) (w : WF S) {x : Int32} (hP : Post (some (.int (o_count S x))) N K) : ∀ (k f : Nat), f + k = s_n S → EK d mX4_count Post 12 [(0, .ref 40), (1, .int x), (2, .int (nI (cnt (s_pr S) f))), (3, .int (nI (sumF (s_pk S) f))), (4, .int (nI f))] [] N K
  | 0, f, e => by
    have hn := w.1.1
    have h7 := R.1.1
    have hf : f = s_n S := by omega
    subst hf
    refine K_iload dX4_count_12 rfl rfl ?_
    refine K_aload_n dX4_count_14 rfl rfl ?_
    refine K_getI dX4_count_15 fl_X4_87 (by first | rfl | exact sk_rk (by omega) | exact sk_hh (by omega)) rfl (by first | assumption | rfl) rfl ?_
    refine K_icmp_geN (tgt := 74) dX4_count_18 (by decide) rfl (by first | omega | fail) (by first | omega | fail) (fun c18 => ?_) (fun c18 => ?_)
    · exact sw_X4_count hd R w hP
    · omega
  | k + 1, f, e => by
    have hn := w.1.1
    have h7 := R.1.1
    have hf : f < s_n S := by omega
    have h51 := (R.2.1 f hf).2.2.2.2.2.2.2.2.1
    have ih := l_X4_count (d := d) (K := K) hd R w hP k (f + 1) (by omega)
    rw [sumF_s] at ih
    cases hp : s_pl S f with
    | none =>
      have hg := go_f hp
      rw [pk_none hp] at ih
      refine K_iload dX4_count_12 rfl rfl ?_
      refine K_aload_n dX4_count_14 rfl rfl ?_
      refine K_getI dX4_count_15 fl_X4_87 (by first | rfl | exact sk_rk (by omega) | exact sk_hh (by omega)) rfl (by first | assumption | rfl) rfl ?_
      refine K_icmp_geN (tgt := 74) dX4_count_18 (by decide) rfl (by first | omega | fail) (by first | omega | fail) (fun c18 => ?_) (fun c18 => ?_)
      · omega
      · refine K_iload_n dX4_count_21 rfl rfl ?_
        refine K_aload_n dX4_count_22 rfl rfl ?_
        refine K_getR (r := 51) dX4_count_23 fl_X4_38 rfl rfl rfl rfl ?_
        refine K_iload dX4_count_26 rfl rfl ?_
        refine K_zald dX4_count_28 (by first | rfl | exact sk_rk (by omega) | exact sk_hh (by omega)) (by first | omega | fail) (by decide) (by first | assumption | rfl) rfl ?_
        refine K_if_eqB (tgt := 36) dX4_count_29 (by decide) rfl (fun c29 => ?_) (fun c29 => ?_)
        · refine K_iconst (v := nI 0) dX4_count_36 (by decide) rfl ?_
          refine K_addN dX4_count_37 rfl ?_
          refine K_istore_n (lv' := [(0, _), (1, _), (2, _), (3, _), (4, _)]) dX4_count_38 (by decide) rfl rfl ?_
          refine K_iload_n dX4_count_39 rfl rfl ?_
          refine K_aload_n dX4_count_40 rfl rfl ?_
          refine K_iload dX4_count_41 rfl rfl ?_
          refine K_cv (ci := 4) (d1 := d - 1) [_] dX4_count_43 ml_X4_145 (by decide) rfl rfl rfl (Nat.le_of_ble_eq_true rfl) (c_X4_goesAtAll R w hf) (by omega) rfl ?_
          refine K_if_eqB (tgt := 65) dX4_count_46 (by decide) rfl (fun c46 => ?_) (fun c46 => ?_)
          · refine K_iconst (v := nI 0) dX4_count_65 (by decide) rfl ?_
            refine K_addN dX4_count_66 rfl ?_
            refine K_istore_n (lv' := [(0, _), (1, _), (2, _), (3, _), (4, _)]) dX4_count_67 (by decide) rfl rfl ?_
            first | refine K_incN (lv' := [(0, _), (1, _), (2, _), (3, _), (4, _)]) dX4_count_68 rfl (by decide) rfl rfl ?_ | refine K_iinc (lv' := [(0, _), (1, _), (2, _), (3, _), (4, _)]) dX4_count_68 rfl rfl (by decide) rfl rfl ?_
            refine K_goto (tgt := 12) dX4_count_71 (by decide) ?_
            first | (rw [cnt_f c29] at ih; exact ih) | (rw [cnt_t c29] at ih; exact ih)
          · rw [hg] at c46; cases c46
        · refine K_iconst (v := nI 1) dX4_count_32 (by decide) rfl ?_
          refine K_goto (tgt := 37) dX4_count_33 (by decide) ?_
          refine K_addN dX4_count_37 rfl ?_
          refine K_istore_n (lv' := [(0, _), (1, _), (2, _), (3, _), (4, _)]) dX4_count_38 (by decide) rfl rfl ?_
          refine K_iload_n dX4_count_39 rfl rfl ?_
          refine K_aload_n dX4_count_40 rfl rfl ?_
          refine K_iload dX4_count_41 rfl rfl ?_
          refine K_cv (ci := 4) (d1 := d - 1) [_] dX4_count_43 ml_X4_145 (by decide) rfl rfl rfl (Nat.le_of_ble_eq_true rfl) (c_X4_goesAtAll R w hf) (by omega) rfl ?_
          refine K_if_eqB (tgt := 65) dX4_count_46 (by decide) rfl (fun c46 => ?_) (fun c46 => ?_)
          · refine K_iconst (v := nI 0) dX4_count_65 (by decide) rfl ?_
            refine K_addN dX4_count_66 rfl ?_
            refine K_istore_n (lv' := [(0, _), (1, _), (2, _), (3, _), (4, _)]) dX4_count_67 (by decide) rfl rfl ?_
            first | refine K_incN (lv' := [(0, _), (1, _), (2, _), (3, _), (4, _)]) dX4_count_68 rfl (by decide) rfl rfl ?_ | refine K_iinc (lv' := [(0, _), (1, _), (2, _), (3, _), (4, _)]) dX4_count_68 rfl rfl (by decide) rfl rfl ?_
            refine K_goto (tgt := 12) dX4_count_71 (by decide) ?_
            first | (rw [cnt_f c29] at ih; exact ih) | (rw [cnt_t c29] at ih; exact ih)
          · rw [hg] at c46; cases c46
    | some a =>
      have hg : s_go S f = true := go_t (by rw [hp]; exact fun h => by cases h)
      have ha := w.2.2.2.2.1 f a (by omega) hp
      rw [pk_some hp] at ih
      have h55 : N 55 f = nI a := by have := (R.2.1 f hf).2.2.2.2.2.2.2.2.2; rw [hp] at this; exact this
      refine K_iload dX4_count_12 rfl rfl ?_
      refine K_aload_n dX4_count_14 rfl rfl ?_
      refine K_getI dX4_count_15 fl_X4_87 (by first | rfl | exact sk_rk (by omega) | exact sk_hh (by omega)) rfl (by first | assumption | rfl) rfl ?_
      refine K_icmp_geN (tgt := 74) dX4_count_18 (by decide) rfl (by first | omega | fail) (by first | omega | fail) (fun c18 => ?_) (fun c18 => ?_)
      · omega
      · refine K_iload_n dX4_count_21 rfl rfl ?_
        refine K_aload_n dX4_count_22 rfl rfl ?_
        refine K_getR (r := 51) dX4_count_23 fl_X4_38 rfl rfl rfl rfl ?_
        refine K_iload dX4_count_26 rfl rfl ?_
        refine K_zald dX4_count_28 (by first | rfl | exact sk_rk (by omega) | exact sk_hh (by omega)) (by first | omega | fail) (by decide) (by first | assumption | rfl) rfl ?_
        refine K_if_eqB (tgt := 36) dX4_count_29 (by decide) rfl (fun c29 => ?_) (fun c29 => ?_)
        · refine K_iconst (v := nI 0) dX4_count_36 (by decide) rfl ?_
          refine K_addN dX4_count_37 rfl ?_
          refine K_istore_n (lv' := [(0, _), (1, _), (2, _), (3, _), (4, _)]) dX4_count_38 (by decide) rfl rfl ?_
          refine K_iload_n dX4_count_39 rfl rfl ?_
          refine K_aload_n dX4_count_40 rfl rfl ?_
          refine K_iload dX4_count_41 rfl rfl ?_
          refine K_cv (ci := 4) (d1 := d - 1) [_] dX4_count_43 ml_X4_145 (by decide) rfl rfl rfl (Nat.le_of_ble_eq_true rfl) (c_X4_goesAtAll R w hf) (by omega) rfl ?_
          refine K_if_eqB (tgt := 65) dX4_count_46 (by decide) rfl (fun c46 => ?_) (fun c46 => ?_)
          · rw [hg] at c46; cases c46
          · refine K_aload_n dX4_count_49 rfl rfl ?_
            refine K_iload dX4_count_50 rfl rfl ?_
            refine K_aload_n dX4_count_52 rfl rfl ?_
            refine K_getR (r := 55) dX4_count_53 fl_X4_50 rfl rfl rfl rfl ?_
            refine K_iload dX4_count_56 rfl rfl ?_
            refine K_iald dX4_count_58 (by first | rfl | exact sk_rk (by omega) | exact sk_hh (by omega)) (by first | omega | fail) (by decide) (by first | assumption | rfl) rfl ?_
            refine K_cv (ci := 4) (d1 := d - 1) [_, _] dX4_count_59 ml_X4_111 (by decide) rfl rfl rfl (Nat.le_of_ble_eq_true rfl) (c_X4_rankOf R w (by omega) (by omega)) (by omega) rfl ?_
            refine K_goto (tgt := 66) dX4_count_62 (by decide) ?_
            refine K_addN dX4_count_66 rfl ?_
            refine K_istore_n (lv' := [(0, _), (1, _), (2, _), (3, _), (4, _)]) dX4_count_67 (by decide) rfl rfl ?_
            first | refine K_incN (lv' := [(0, _), (1, _), (2, _), (3, _), (4, _)]) dX4_count_68 rfl (by decide) rfl rfl ?_ | refine K_iinc (lv' := [(0, _), (1, _), (2, _), (3, _), (4, _)]) dX4_count_68 rfl rfl (by decide) rfl rfl ?_
            refine K_goto (tgt := 12) dX4_count_71 (by decide) ?_
            first | (rw [cnt_f c29] at ih; exact ih) | (rw [cnt_t c29] at ih; exact ih)
        · refine K_iconst (v := nI 1) dX4_count_32 (by decide) rfl ?_
          refine K_goto (tgt := 37) dX4_count_33 (by decide) ?_
          refine K_addN dX4_count_37 rfl ?_
          refine K_istore_n (lv' := [(0, _), (1, _), (2, _), (3, _), (4, _)]) dX4_count_38 (by decide) rfl rfl ?_
          refine K_iload_n dX4_count_39 rfl rfl ?_
          refine K_aload_n dX4_count_40 rfl rfl ?_
          refine K_iload dX4_count_41 rfl rfl ?_
          refine K_cv (ci := 4) (d1 := d - 1) [_] dX4_count_43 ml_X4_145 (by decide) rfl rfl rfl (Nat.le_of_ble_eq_true rfl) (c_X4_goesAtAll R w hf) (by omega) rfl ?_
          refine K_if_eqB (tgt := 65) dX4_count_46 (by decide) rfl (fun c46 => ?_) (fun c46 => ?_)
          · rw [hg] at c46; cases c46
          · refine K_aload_n dX4_count_49 rfl rfl ?_
            refine K_iload dX4_count_50 rfl rfl ?_
            refine K_aload_n dX4_count_52 rfl rfl ?_
            refine K_getR (r := 55) dX4_count_53 fl_X4_50 rfl rfl rfl rfl ?_
            refine K_iload dX4_count_56 rfl rfl ?_
            refine K_iald dX4_count_58 (by first | rfl | exact sk_rk (by omega) | exact sk_hh (by omega)) (by first | omega | fail) (by decide) (by first | assumption | rfl) rfl ?_
            refine K_cv (ci := 4) (d1 := d - 1) [_, _] dX4_count_59 ml_X4_111 (by decide) rfl rfl rfl (Nat.le_of_ble_eq_true rfl) (c_X4_rankOf R w (by omega) (by omega)) (by omega) rfl ?_
            refine K_goto (tgt := 66) dX4_count_62 (by decide) ?_
            refine K_addN dX4_count_66 rfl ?_
            refine K_istore_n (lv' := [(0, _), (1, _), (2, _), (3, _), (4, _)]) dX4_count_67 (by decide) rfl rfl ?_
            first | refine K_incN (lv' := [(0, _), (1, _), (2, _), (3, _), (4, _)]) dX4_count_68 rfl (by decide) rfl rfl ?_ | refine K_iinc (lv' := [(0, _), (1, _), (2, _), (3, _), (4, _)]) dX4_count_68 rfl rfl (by decide) rfl rfl ?_
            refine K_goto (tgt := 12) dX4_count_71 (by decide) ?_
            first | (rw [cnt_f c29] at ih; exact ih) | (rw [cnt_t c29] at ih; exact ih)
set_option maxRecDepth 100000 in
theorem c_X4_count {d : Nat} (hd : 6 ≤ d) {S : GS} {N : Mem} {K : Mej} (R : RY S N) (w : WF S) {x : Int32} : CK d mX4_count [.ref 40, .int x] N K (PRY (o_count S x) S N K) := by
  have R0 := R.thr (nI 0)
  refine CK.start [(0, _), (1, _)] (plainFor_of_name (by decide)) (Nat.le_of_ble_eq_true rfl) rfl ?_
  refine K_aload_n dX4_count_0 rfl rfl ?_
  refine K_iconst (v := nI 0) dX4_count_1 (by decide) rfl ?_
  refine K_putI dX4_count_2 fl_X4_84 (by first | rfl | exact sk_rk (by omega) | exact sk_hh (by omega)) rfl rfl rfl rfl ?_
  refine K_iconst (v := nI 0) dX4_count_5 (by decide) rfl ?_
  refine K_istore_n (lv' := [(0, _), (1, _), (2, _)]) dX4_count_6 (by decide) rfl rfl ?_
  refine K_iconst (v := nI 0) dX4_count_7 (by decide) rfl ?_
  refine K_istore_n (lv' := [(0, _), (1, _), (2, _), (3, _)]) dX4_count_8 (by decide) rfl rfl ?_
  refine K_iconst (v := nI 0) dX4_count_9 (by decide) rfl ?_
  refine K_istore (lv' := [(0, _), (1, _), (2, _), (3, _), (4, _)]) dX4_count_10 (by decide) rfl rfl ?_
  exact l_X4_count hd R0 w ⟨rfl, R0, FY.t0 N, rfl⟩ (s_n S) 0 (by omega)
