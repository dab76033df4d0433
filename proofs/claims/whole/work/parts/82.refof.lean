/-! the reference's of -/
def ofV (S : GS) (f : Nat) (y : Int32) : Int32 := if y = nI 0 then nI (s_sl S f) else if y = nI 1 then nI (s_wo S f) else if y = nI 2 then nI (s_wc S f) else if y = nI 3 then s_po S f else if y = nI 4 then oI (s_pl S f) else if y = nI 5 then oI (s_gu S f) else if y = nI 6 then bI (s_pr S f) else nI (cnt (s_tk S f) (s_n S))
def o_of (S : GS) (x y : Int32) : Int32 × Bool := if isF (s_n S) x = true ∧ isF 8 y = true then (ofV S x.toNatClampNeg y, false) else (0, true)
theorem o8 {y : Int32} (h : isF 8 y = true) (h0 : y ≠ nI 0) (h1 : y ≠ nI 1) (h2 : y ≠ nI 2) (h3 : y ≠ nI 3) (h4 : y ≠ nI 4) (h5 : y ≠ nI 5) (h6 : y ≠ nI 6) : y.toInt < 0 ∨ (6 : Int) < y.toInt := sw_out (x := y) 6 (by decide) (fun j hj => by
  rcases (show j = 0 ∨ j = 1 ∨ j = 2 ∨ j = 3 ∨ j = 4 ∨ j = 5 ∨ j = 6 by omega) with rfl | rfl | rfl | rfl | rfl | rfl | rfl <;> assumption)
set_option maxRecDepth 100000 in
theorem sw_X4_of {d : Nat} (hd : 4 ≤ d) {S : GS} {N : Mem} {K : Mej} {Post : PK} (R : RY S N) (w : WF S) {f : Nat} (hf : f < s_n S) {y : Int32} (hy : isF 8 y = true) (hP : Post (some (.int (ofV S f y))) N K) : EK d mX4_of Post 74 [(0, .ref 40), (1, .int (nI f)), (2, .int y), (3, .int (nI (cnt (s_tk S f) (s_n S)))), (4, .int (nI (s_n S)))] [] N K := by
  have hn := w.1.1
  obtain ⟨-, -, -, -, -, -, -, -, b51, b55⟩ := R.2.1 f hf
  obtain ⟨b50, b52, -, -⟩ := R.2.2.1 f (by omega)
  refine K_iload_n dX4_of_74 rfl rfl ?_
  by_cases e0 : y = nI 0
  · subst e0
    refine K_tswI (off := 41) (tgt := 116) dX4_of_75 (by decide) (by decide) (by decide) (by decide) ?_
    refine K_aload_n dX4_of_116 rfl rfl ?_
    refine K_iload_n dX4_of_117 rfl rfl ?_
    refine K_cv (ci := 4) (d1 := d - 1) [_] dX4_of_118 ml_X4_130 (by decide) rfl rfl rfl (Nat.le_of_ble_eq_true rfl) (c_X4_sleeps R w hf) (by omega) rfl ?_
    refine K_iret dX4_of_121 rfl ?_
    exact hP
  by_cases e1 : y = nI 1
  · subst e1
    refine K_tswI (off := 47) (tgt := 122) dX4_of_75 (by decide) (by decide) (by decide) (by decide) ?_
    refine K_aload_n dX4_of_122 rfl rfl ?_
    refine K_iload_n dX4_of_123 rfl rfl ?_
    refine K_cv (ci := 4) (d1 := d - 1) [_] dX4_of_124 ml_X4_178 (by decide) rfl rfl rfl (Nat.le_of_ble_eq_true rfl) (c_X4_worth (by omega) R w hf) (by omega) rfl ?_
    refine K_iret dX4_of_127 rfl ?_
    exact hP
  by_cases e2 : y = nI 2
  · subst e2
    refine K_tswI (off := 53) (tgt := 128) dX4_of_75 (by decide) (by decide) (by decide) (by decide) ?_
    refine K_aload_n dX4_of_128 rfl rfl ?_
    refine K_getR (r := 52) dX4_of_129 fl_X4_41 rfl rfl rfl rfl ?_
    refine K_iload_n dX4_of_132 rfl rfl ?_
    refine K_iald dX4_of_133 (by first | rfl | exact sk_rk (by omega) | exact sk_hh (by omega)) (by first | omega | fail) (by decide) (by first | assumption | rfl) rfl ?_
    refine K_iret dX4_of_134 rfl ?_
    exact hP
  by_cases e3 : y = nI 3
  · subst e3
    refine K_tswI (off := 60) (tgt := 135) dX4_of_75 (by decide) (by decide) (by decide) (by decide) ?_
    refine K_aload_n dX4_of_135 rfl rfl ?_
    refine K_getR (r := 50) dX4_of_136 fl_X4_35 rfl rfl rfl rfl ?_
    refine K_iload_n dX4_of_139 rfl rfl ?_
    refine K_iald dX4_of_140 (by first | rfl | exact sk_rk (by omega) | exact sk_hh (by omega)) (by first | omega | fail) (by decide) (by first | assumption | rfl) rfl ?_
    refine K_iret dX4_of_141 rfl ?_
    exact hP
  by_cases e4 : y = nI 4
  · subst e4
    refine K_tswI (off := 67) (tgt := 142) dX4_of_75 (by decide) (by decide) (by decide) (by decide) ?_
    refine K_aload_n dX4_of_142 rfl rfl ?_
    refine K_getR (r := 55) dX4_of_143 fl_X4_50 rfl rfl rfl rfl ?_
    refine K_iload_n dX4_of_146 rfl rfl ?_
    refine K_iald dX4_of_147 (by first | rfl | exact sk_rk (by omega) | exact sk_hh (by omega)) (by first | omega | fail) (by decide) (by first | assumption | rfl) rfl ?_
    refine K_iret dX4_of_148 rfl ?_
    exact hP
  by_cases e5 : y = nI 5
  · subst e5
    refine K_tswI (off := 74) (tgt := 149) dX4_of_75 (by decide) (by decide) (by decide) (by decide) ?_
    refine K_aload_n dX4_of_149 rfl rfl ?_
    refine K_iload_n dX4_of_150 rfl rfl ?_
    refine K_cv (ci := 4) (d1 := d - 1) [_] dX4_of_151 ml_X4_151 (by decide) rfl rfl rfl (Nat.le_of_ble_eq_true rfl) (c_X4_guest R w (by omega)) (by omega) rfl ?_
    refine K_iret dX4_of_154 rfl ?_
    exact hP
  by_cases e6 : y = nI 6
  · subst e6
    have hv : ofV S f (nI 6) = bI (s_pr S f) := rfl
    rw [hv] at hP
    refine K_tswI (off := 80) (tgt := 155) dX4_of_75 (by decide) (by decide) (by decide) (by decide) ?_
    cases hb : s_pr S f with
    | true =>
      rw [hb] at hP b51
      refine K_aload_n dX4_of_155 rfl rfl ?_
      refine K_getR (r := 51) dX4_of_156 fl_X4_38 rfl rfl rfl rfl ?_
      refine K_iload_n dX4_of_159 rfl rfl ?_
      refine K_zald dX4_of_160 (by first | rfl | exact sk_rk (by omega) | exact sk_hh (by omega)) (by first | omega | fail) (by decide) (by first | assumption | rfl) rfl ?_
      refine K_if_eqB (tgt := 168) dX4_of_161 (by decide) rfl (fun c161 => ?_) (fun c161 => ?_)
      · cases c161
      · refine K_iconst (v := nI 1) dX4_of_164 (by decide) rfl ?_
        refine K_goto (tgt := 169) dX4_of_165 (by decide) ?_
        refine K_iret dX4_of_169 rfl ?_
        exact hP
    | false =>
      rw [hb] at hP b51
      refine K_aload_n dX4_of_155 rfl rfl ?_
      refine K_getR (r := 51) dX4_of_156 fl_X4_38 rfl rfl rfl rfl ?_
      refine K_iload_n dX4_of_159 rfl rfl ?_
      refine K_zald dX4_of_160 (by first | rfl | exact sk_rk (by omega) | exact sk_hh (by omega)) (by first | omega | fail) (by decide) (by first | assumption | rfl) rfl ?_
      refine K_if_eqB (tgt := 168) dX4_of_161 (by decide) rfl (fun c161 => ?_) (fun c161 => ?_)
      · refine K_iconst (v := nI 0) dX4_of_168 (by decide) rfl ?_
        refine K_iret dX4_of_169 rfl ?_
        exact hP
      · cases c161
  have ho := o8 hy e0 e1 e2 e3 e4 e5 e6
  have hv : ofV S f y = nI (cnt (s_tk S f) (s_n S)) := by
    unfold ofV
    rw [if_neg e0, if_neg e1, if_neg e2, if_neg e3, if_neg e4, if_neg e5, if_neg e6]
  rw [hv] at hP
  refine K_tswO (tgt := 170) dX4_of_75 ho (by decide) ?_
  refine K_iload_n dX4_of_170 rfl rfl ?_
  refine K_iret dX4_of_171 rfl ?_
  exact hP
theorem l_X4_of {d : Nat} (hd : 4 ≤ d) {S : GS} {N : Mem} {K : Mej} {Post : PK} (R : RY S N) (w : WF S) {f : Nat} (hf : f < s_n S) {y : Int32} (hy : isF 8 y = true) (hP : Post (some (.int (ofV S f y))) N K) :
    ∀ (k g : Nat), g + k = s_n S → EK d mX4_of Post 35 [(0, .ref 40), (1, .int (nI f)), (2, .int y), (3, .int (nI (cnt (s_tk S f) g))), (4, .int (nI g))] [] N K
  | 0, g, e => by
    have hn := w.1.1
    have h7 := R.1.1
    have hg : g = s_n S := by omega
    subst hg
    refine K_iload dX4_of_35 rfl rfl ?_
    refine K_aload_n dX4_of_37 rfl rfl ?_
    refine K_getI dX4_of_38 fl_X4_87 (by first | rfl | exact sk_rk (by omega) | exact sk_hh (by omega)) rfl (by first | assumption | rfl) rfl ?_
    refine K_icmp_geN (tgt := 74) dX4_of_41 (by decide) rfl (by first | omega | fail) (by first | omega | fail) (fun c41 => ?_) (fun c41 => ?_)
    · exact sw_X4_of hd R w hf hy hP
    · omega
  | k + 1, g, e => by
    have hn := w.1.1
    have h7 := R.1.1
    have ih := l_X4_of (d := d) hd R w hf hy hP k (g + 1) (by omega)
    by_cases hgf : g = f
    · rw [cnt_f (by rw [hgf]; exact tk_self w (by omega))] at ih
      refine K_iload dX4_of_35 rfl rfl ?_
      refine K_aload_n dX4_of_37 rfl rfl ?_
      refine K_getI dX4_of_38 fl_X4_87 (by first | rfl | exact sk_rk (by omega) | exact sk_hh (by omega)) rfl (by first | assumption | rfl) rfl ?_
      refine K_icmp_geN (tgt := 74) dX4_of_41 (by decide) rfl (by first | omega | fail) (by first | omega | fail) (fun c41 => ?_) (fun c41 => ?_)
      · omega
      · refine K_iload_n dX4_of_44 rfl rfl ?_
        refine K_iload dX4_of_45 rfl rfl ?_
        refine K_iload_n dX4_of_47 rfl rfl ?_
        refine K_icmp_eqN (tgt := 65) dX4_of_48 (by decide) rfl (by first | omega | fail) (by first | omega | fail) (fun c48 => ?_) (fun c48 => ?_)
        · refine K_iconst (v := nI 0) dX4_of_65 (by decide) rfl ?_
          refine K_addN dX4_of_66 rfl ?_
          refine K_istore_n (lv' := [(0, _), (1, _), (2, _), (3, _), (4, _)]) dX4_of_67 (by decide) rfl rfl ?_
          first | refine K_incN (lv' := [(0, _), (1, _), (2, _), (3, _), (4, _)]) dX4_of_68 rfl (by decide) rfl rfl ?_ | refine K_iinc (lv' := [(0, _), (1, _), (2, _), (3, _), (4, _)]) dX4_of_68 rfl rfl (by decide) rfl rfl ?_
          refine K_goto (tgt := 35) dX4_of_71 (by decide) ?_
          exact ih
        · exact absurd hgf c48
    · cases ht : s_tk S f g with
      | true =>
        rw [cnt_t ht] at ih
        refine K_iload dX4_of_35 rfl rfl ?_
        refine K_aload_n dX4_of_37 rfl rfl ?_
        refine K_getI dX4_of_38 fl_X4_87 (by first | rfl | exact sk_rk (by omega) | exact sk_hh (by omega)) rfl (by first | assumption | rfl) rfl ?_
        refine K_icmp_geN (tgt := 74) dX4_of_41 (by decide) rfl (by first | omega | fail) (by first | omega | fail) (fun c41 => ?_) (fun c41 => ?_)
        · omega
        · refine K_iload_n dX4_of_44 rfl rfl ?_
          refine K_iload dX4_of_45 rfl rfl ?_
          refine K_iload_n dX4_of_47 rfl rfl ?_
          refine K_icmp_eqN (tgt := 65) dX4_of_48 (by decide) rfl (by first | omega | fail) (by first | omega | fail) (fun c48 => ?_) (fun c48 => ?_)
          · exact absurd c48 hgf
          · refine K_aload_n dX4_of_51 rfl rfl ?_
            refine K_iload_n dX4_of_52 rfl rfl ?_
            refine K_iload dX4_of_53 rfl rfl ?_
            refine K_cv (ci := 4) (d1 := d - 1) [_, _] dX4_of_55 ml_X4_148 (by decide) rfl rfl rfl (Nat.le_of_ble_eq_true rfl) (c_X4_takes (by omega) R w hf (by omega)) (by omega) rfl ?_
            refine K_if_eqB (tgt := 65) dX4_of_58 (by decide) rfl (fun c58 => ?_) (fun c58 => ?_)
            · rw [ht] at c58; cases c58
            · refine K_iconst (v := nI 1) dX4_of_61 (by decide) rfl ?_
              refine K_goto (tgt := 66) dX4_of_62 (by decide) ?_
              refine K_addN dX4_of_66 rfl ?_
              refine K_istore_n (lv' := [(0, _), (1, _), (2, _), (3, _), (4, _)]) dX4_of_67 (by decide) rfl rfl ?_
              first | refine K_incN (lv' := [(0, _), (1, _), (2, _), (3, _), (4, _)]) dX4_of_68 rfl (by decide) rfl rfl ?_ | refine K_iinc (lv' := [(0, _), (1, _), (2, _), (3, _), (4, _)]) dX4_of_68 rfl rfl (by decide) rfl rfl ?_
              refine K_goto (tgt := 35) dX4_of_71 (by decide) ?_
              exact ih
      | false =>
        rw [cnt_f ht] at ih
        refine K_iload dX4_of_35 rfl rfl ?_
        refine K_aload_n dX4_of_37 rfl rfl ?_
        refine K_getI dX4_of_38 fl_X4_87 (by first | rfl | exact sk_rk (by omega) | exact sk_hh (by omega)) rfl (by first | assumption | rfl) rfl ?_
        refine K_icmp_geN (tgt := 74) dX4_of_41 (by decide) rfl (by first | omega | fail) (by first | omega | fail) (fun c41 => ?_) (fun c41 => ?_)
        · omega
        · refine K_iload_n dX4_of_44 rfl rfl ?_
          refine K_iload dX4_of_45 rfl rfl ?_
          refine K_iload_n dX4_of_47 rfl rfl ?_
          refine K_icmp_eqN (tgt := 65) dX4_of_48 (by decide) rfl (by first | omega | fail) (by first | omega | fail) (fun c48 => ?_) (fun c48 => ?_)
          · exact absurd c48 hgf
          · refine K_aload_n dX4_of_51 rfl rfl ?_
            refine K_iload_n dX4_of_52 rfl rfl ?_
            refine K_iload dX4_of_53 rfl rfl ?_
            refine K_cv (ci := 4) (d1 := d - 1) [_, _] dX4_of_55 ml_X4_148 (by decide) rfl rfl rfl (Nat.le_of_ble_eq_true rfl) (c_X4_takes (by omega) R w hf (by omega)) (by omega) rfl ?_
            refine K_if_eqB (tgt := 65) dX4_of_58 (by decide) rfl (fun c58 => ?_) (fun c58 => ?_)
            · refine K_iconst (v := nI 0) dX4_of_65 (by decide) rfl ?_
              refine K_addN dX4_of_66 rfl ?_
              refine K_istore_n (lv' := [(0, _), (1, _), (2, _), (3, _), (4, _)]) dX4_of_67 (by decide) rfl rfl ?_
              first | refine K_incN (lv' := [(0, _), (1, _), (2, _), (3, _), (4, _)]) dX4_of_68 rfl (by decide) rfl rfl ?_ | refine K_iinc (lv' := [(0, _), (1, _), (2, _), (3, _), (4, _)]) dX4_of_68 rfl rfl (by decide) rfl rfl ?_
              refine K_goto (tgt := 35) dX4_of_71 (by decide) ?_
              exact ih
            · rw [ht] at c58; cases c58
set_option maxRecDepth 100000 in
theorem c_X4_of {d : Nat} (hd : 4 ≤ d) {S : GS} {N : Mem} {K : Mej} (R : RY S N) (w : WF S) {x y : Int32} : CK d mX4_of [.ref 40, .int x, .int y] N K (fun r1 N1 K1 => r1 = some (.int (o_of S x y).1) ∧ N1 40 0 = bI (o_of S x y).2 ∧ RY S N1 ∧ FY N N1 ∧ K1 = K) := by
  have hn := w.1.1
  have R0 := R.thr (nI 0)
  have h7 : sM N 40 0 (nI 0) 40 1 = nI (s_n S) := R0.1.1
  have hli : CK (d - 1) mX4_lies [.long y.toInt64, .long 0, .long 7] (sM N 40 0 (nI 0)) K (PX (some (.int (bI (isF 8 y)))) (sM N 40 0 (nI 0)) K) := by
    have h := isF_long (n := 8) (by decide) y
    rw [show (nI 8 - nI 1).toInt64 = 7 from by decide] at h
    rw [← h]
    exact c_X4_lies
  cases hx : isF (s_n S) x with
  | false =>
    have ho : o_of S x y = (0, true) := by unfold o_of; rw [if_neg (fun z => by rw [hx] at z; cases z.1)]
    rw [ho]
    refine CK.start [(0, _), (1, _), (2, _)] (plainFor_of_name (by decide)) (Nat.le_of_ble_eq_true rfl) rfl ?_
    refine K_aload_n dX4_of_0 rfl rfl ?_
    refine K_iconst (v := nI 0) dX4_of_1 (by decide) rfl ?_
    refine K_putI dX4_of_2 fl_X4_84 (by first | rfl | exact sk_rk (by omega) | exact sk_hh (by omega)) rfl rfl rfl rfl ?_
    refine K_aload_n dX4_of_5 rfl rfl ?_
    refine K_iload_n dX4_of_6 rfl rfl ?_
    refine K_cv (ci := 4) (d1 := d - 1) [_] dX4_of_7 ml_X4_94 (by decide) rfl rfl rfl (Nat.le_of_ble_eq_true rfl) (c_X4_isFamily (by omega) hn h7) (by omega) rfl ?_
    refine K_if_eqB (tgt := 25) dX4_of_10 (by decide) rfl (fun c10 => ?_) (fun c10 => ?_)
    · refine K_aload_n dX4_of_25 rfl rfl ?_
      refine K_cv (ci := 4) (d1 := d - 1) [] dX4_of_26 ml_X4_175 (by decide) rfl rfl rfl (Nat.le_of_ble_eq_true rfl) c_X4_refuse (by omega) rfl ?_
      refine K_iret dX4_of_29 rfl ?_
      exact ⟨rfl, sM_eq _ _ _ _, R0.thr (nI 1), (FY.t0 N).set (by decide), rfl⟩
    · rw [hx] at c10; cases c10
  | true =>
    cases hy : isF 8 y with
    | false =>
      have ho : o_of S x y = (0, true) := by unfold o_of; rw [if_neg (fun z => by rw [hy] at z; cases z.2)]
      rw [ho]
      rw [hy] at hli
      refine CK.start [(0, _), (1, _), (2, _)] (plainFor_of_name (by decide)) (Nat.le_of_ble_eq_true rfl) rfl ?_
      refine K_aload_n dX4_of_0 rfl rfl ?_
      refine K_iconst (v := nI 0) dX4_of_1 (by decide) rfl ?_
      refine K_putI dX4_of_2 fl_X4_84 (by first | rfl | exact sk_rk (by omega) | exact sk_hh (by omega)) rfl rfl rfl rfl ?_
      refine K_aload_n dX4_of_5 rfl rfl ?_
      refine K_iload_n dX4_of_6 rfl rfl ?_
      refine K_cv (ci := 4) (d1 := d - 1) [_] dX4_of_7 ml_X4_94 (by decide) rfl rfl rfl (Nat.le_of_ble_eq_true rfl) (c_X4_isFamily (by omega) hn h7) (by omega) rfl ?_
      refine K_if_eqB (tgt := 25) dX4_of_10 (by decide) rfl (fun c10 => ?_) (fun c10 => ?_)
      · rw [hx] at c10; cases c10
      · refine K_iload_n dX4_of_13 rfl rfl ?_
        refine K_i2l dX4_of_14 rfl ?_
        refine K_lconst (v := 0) dX4_of_15 (by decide) rfl ?_
        refine K_ldc2 dX4_of_16 kl_X4_173 rfl ?_
        refine K_sv (d1 := d - 1) [_, _, _] dX4_of_19 ml_X4_90 rfl rfl (Nat.le_of_ble_eq_true rfl) hli (by omega) rfl ?_
        refine K_if_neB (tgt := 30) dX4_of_22 (by decide) rfl (fun c22 => ?_) (fun c22 => ?_)
        · cases c22
        · refine K_aload_n dX4_of_25 rfl rfl ?_
          refine K_cv (ci := 4) (d1 := d - 1) [] dX4_of_26 ml_X4_175 (by decide) rfl rfl rfl (Nat.le_of_ble_eq_true rfl) c_X4_refuse (by omega) rfl ?_
          refine K_iret dX4_of_29 rfl ?_
          exact ⟨rfl, sM_eq _ _ _ _, R0.thr (nI 1), (FY.t0 N).set (by decide), rfl⟩
    | true =>
      obtain ⟨f, hf, rfl⟩ := (isF_iff hn).mp hx
      have ho : o_of S (nI f) y = (ofV S f y, false) := by unfold o_of; rw [if_pos ⟨hx, hy⟩, nI_clamp (by omega)]
      rw [ho]
      rw [hy] at hli
      refine CK.start [(0, _), (1, _), (2, _)] (plainFor_of_name (by decide)) (Nat.le_of_ble_eq_true rfl) rfl ?_
      refine K_aload_n dX4_of_0 rfl rfl ?_
      refine K_iconst (v := nI 0) dX4_of_1 (by decide) rfl ?_
      refine K_putI dX4_of_2 fl_X4_84 (by first | rfl | exact sk_rk (by omega) | exact sk_hh (by omega)) rfl rfl rfl rfl ?_
      refine K_aload_n dX4_of_5 rfl rfl ?_
      refine K_iload_n dX4_of_6 rfl rfl ?_
      refine K_cv (ci := 4) (d1 := d - 1) [_] dX4_of_7 ml_X4_94 (by decide) rfl rfl rfl (Nat.le_of_ble_eq_true rfl) (c_X4_isFamily (by omega) hn h7) (by omega) rfl ?_
      refine K_if_eqB (tgt := 25) dX4_of_10 (by decide) rfl (fun c10 => ?_) (fun c10 => ?_)
      · rw [hx] at c10; cases c10
      · refine K_iload_n dX4_of_13 rfl rfl ?_
        refine K_i2l dX4_of_14 rfl ?_
        refine K_lconst (v := 0) dX4_of_15 (by decide) rfl ?_
        refine K_ldc2 dX4_of_16 kl_X4_173 rfl ?_
        refine K_sv (d1 := d - 1) [_, _, _] dX4_of_19 ml_X4_90 rfl rfl (Nat.le_of_ble_eq_true rfl) hli (by omega) rfl ?_
        refine K_if_neB (tgt := 30) dX4_of_22 (by decide) rfl (fun c22 => ?_) (fun c22 => ?_)
        · refine K_iconst (v := nI 0) dX4_of_30 (by decide) rfl ?_
          refine K_istore_n (lv' := [(0, _), (1, _), (2, _), (3, _)]) dX4_of_31 (by decide) rfl rfl ?_
          refine K_iconst (v := nI 0) dX4_of_32 (by decide) rfl ?_
          refine K_istore (lv' := [(0, _), (1, _), (2, _), (3, _), (4, _)]) dX4_of_33 (by decide) rfl rfl ?_
          exact l_X4_of hd R0 w hf hy ⟨rfl, sM_eq _ _ _ _, R0, FY.t0 N, rfl⟩ (s_n S) 0 (by omega)
        · cases c22
