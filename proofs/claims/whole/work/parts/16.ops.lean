def o_weeks (S : GS) (x k a b : Int32) : Int32 × GS :=
  if isF (s_n S) x = true ∧ ¬ a < 0 ∧ ¬ nI 51 < b ∧ a ≤ b then
    (if k = 0 then (1, gN (gN (gC S) 4 x.toNatClampNeg a.toNatClampNeg) 5 x.toNatClampNeg b.toNatClampNeg)
     else if k = nI 1 then (1, gN (gN (gC S) 6 x.toNatClampNeg a.toNatClampNeg) 7 x.toNatClampNeg b.toNatClampNeg)
     else (0, gC S))
  else (0, gC S)
set_option maxRecDepth 100000 in
theorem c_X3_weeks {d : Nat} (hd : 1 ≤ d) {S : GS} {N : Mem} {K : Mej} (R : RX S N K) (w : WF S) {x k a b : Int32} : CK d mX3_weeks [.ref 0, .int x, .int k, .int a, .int b] N K (PRX (o_weeks S x k a b).1 (o_weeks S x k a b).2 N) := by
  have hn := w.1.1
  have R0 := R.c0
  have h7 : sM N 0 13 (nI 0) 0 7 = nI (s_n S) := R0.1.1
  by_cases hok : isF (s_n S) x = true ∧ ¬ a < 0 ∧ ¬ nI 51 < b ∧ a ≤ b
  · obtain ⟨hx, ha, hb, hab⟩ := hok
    have hok : isF (s_n S) x = true ∧ ¬ a < 0 ∧ ¬ nI 51 < b ∧ a ≤ b := ⟨hx, ha, hb, hab⟩
    obtain ⟨f, hf, rfl⟩ := (isF_iff hn).mp hx
    have hc : (nI f).toNatClampNeg = f := nI_clamp (by omega)
    have hb0 : ¬ b < 0 := fun e => by
      rw [Int32.lt_iff_toInt_lt] at e ha
      rw [Int32.le_iff_toInt_le] at hab
      omega
    have ea := nI_back ha
    have eb := nI_back hb0
    have R1 := (R0.h7 (f := f) (by omega) a.toNatClampNeg).h8 (f := f) (by omega) b.toNatClampNeg
    have R2 := (R0.h9 (f := f) (by omega) a.toNatClampNeg).h10 (f := f) (by omega) b.toNatClampNeg
    rw [ea, eb] at R1 R2
    refine CK.start [(0, _), (1, _), (2, _), (3, _), (4, _)] (plainFor_of_name (by decide)) (Nat.le_of_ble_eq_true rfl) rfl ?_
    refine K_aload_n dX3_weeks_0 rfl rfl ?_
    refine K_iconst (v := nI 0) dX3_weeks_1 (by decide) rfl ?_
    refine K_putZ dX3_weeks_2 fl_X3_61 (by first | rfl | exact sk_rk (by omega) | exact sk_hh (by omega)) rfl rfl rfl (by first | exact bI_01 _ | exact Or.inl rfl | exact Or.inr rfl | assumption) rfl ?_
    refine K_aload_n dX3_weeks_5 rfl rfl ?_
    refine K_iload_n dX3_weeks_6 rfl rfl ?_
    refine K_cv (ci := 3) (d1 := d - 1) [_] dX3_weeks_7 ml_X3_74 (by decide) rfl rfl rfl (Nat.le_of_ble_eq_true rfl) (c_X3_isFamily h7) (by omega) rfl ?_
    refine K_if_eqB (tgt := 30) dX3_weeks_10 (by decide) rfl (fun c10 => ?_) (fun c10 => ?_)
    · rw [hx] at c10; cases c10
    · refine K_iload_n dX3_weeks_13 rfl rfl ?_
      refine K_if_lt (tgt := 30) dX3_weeks_14 (by decide) rfl (fun c14 => ?_) (fun c14 => ?_)
      · exact absurd c14 ha
      · refine K_iload dX3_weeks_17 rfl rfl ?_
        refine K_bipush (v := nI 51) dX3_weeks_19 (by decide) rfl ?_
        refine K_icmp_gt (tgt := 30) dX3_weeks_21 (by decide) rfl (fun c21 => ?_) (fun c21 => ?_)
        · exact absurd c21 hb
        · refine K_iload_n dX3_weeks_24 rfl rfl ?_
          refine K_iload dX3_weeks_25 rfl rfl ?_
          refine K_icmp_le (tgt := 32) dX3_weeks_27 (by decide) rfl (fun c27 => ?_) (fun c27 => ?_)
          · refine K_iload_n dX3_weeks_32 rfl rfl ?_
            refine K_if_ne (tgt := 59) dX3_weeks_33 (by decide) rfl (fun c33 => ?_) (fun c33 => ?_)
            · refine K_iload_n dX3_weeks_59 rfl rfl ?_
              refine K_iconst (v := nI 1) dX3_weeks_60 (by decide) rfl ?_
              refine K_icmp_ne (tgt := 87) dX3_weeks_61 (by decide) rfl (fun c61 => ?_) (fun c61 => ?_)
              · refine K_iconst (v := nI 0) dX3_weeks_87 (by decide) rfl ?_
                refine K_zret dX3_weeks_88 rfl (by first | rfl | exact bI_nar _) ?_
                rw [o_weeks, if_pos hok, if_neg c33, if_neg c61]
                exact ⟨rfl, R0, FX.c0 N⟩
              · refine K_aload_n dX3_weeks_64 rfl rfl ?_
                refine K_getR (r := 1) dX3_weeks_65 fl_X3_11 rfl rfl rfl rfl ?_
                refine K_iload_n dX3_weeks_68 rfl rfl ?_
                refine K_hh dX3_weeks_69 (by first | omega | fail) rfl ?_
                refine K_iload_n dX3_weeks_70 rfl rfl ?_
                refine K_putI dX3_weeks_71 fl_X3_83 (by first | rfl | exact sk_rk (by omega) | exact sk_hh (by omega)) rfl rfl rfl rfl ?_
                refine K_aload_n dX3_weeks_74 rfl rfl ?_
                refine K_getR (r := 1) dX3_weeks_75 fl_X3_11 rfl rfl rfl rfl ?_
                refine K_iload_n dX3_weeks_78 rfl rfl ?_
                refine K_hh dX3_weeks_79 (by first | omega | fail) rfl ?_
                refine K_iload dX3_weeks_80 rfl rfl ?_
                refine K_putI dX3_weeks_82 fl_X3_86 (by first | rfl | exact sk_rk (by omega) | exact sk_hh (by omega)) rfl rfl rfl rfl ?_
                refine K_iconst (v := nI 1) dX3_weeks_85 (by decide) rfl ?_
                refine K_zret dX3_weeks_86 rfl (by first | rfl | exact bI_nar _) ?_
                rw [o_weeks, if_pos hok, if_neg c33, if_pos c61, hc]
                exact ⟨rfl, R2, ((FX.c0 N).set (by omega)).set (by omega)⟩
            · refine K_aload_n dX3_weeks_36 rfl rfl ?_
              refine K_getR (r := 1) dX3_weeks_37 fl_X3_11 rfl rfl rfl rfl ?_
              refine K_iload_n dX3_weeks_40 rfl rfl ?_
              refine K_hh dX3_weeks_41 (by first | omega | fail) rfl ?_
              refine K_iload_n dX3_weeks_42 rfl rfl ?_
              refine K_putI dX3_weeks_43 fl_X3_77 (by first | rfl | exact sk_rk (by omega) | exact sk_hh (by omega)) rfl rfl rfl rfl ?_
              refine K_aload_n dX3_weeks_46 rfl rfl ?_
              refine K_getR (r := 1) dX3_weeks_47 fl_X3_11 rfl rfl rfl rfl ?_
              refine K_iload_n dX3_weeks_50 rfl rfl ?_
              refine K_hh dX3_weeks_51 (by first | omega | fail) rfl ?_
              refine K_iload dX3_weeks_52 rfl rfl ?_
              refine K_putI dX3_weeks_54 fl_X3_80 (by first | rfl | exact sk_rk (by omega) | exact sk_hh (by omega)) rfl rfl rfl rfl ?_
              refine K_iconst (v := nI 1) dX3_weeks_57 (by decide) rfl ?_
              refine K_zret dX3_weeks_58 rfl (by first | rfl | exact bI_nar _) ?_
              rw [o_weeks, if_pos hok, if_pos c33, hc]
              exact ⟨rfl, R1, ((FX.c0 N).set (by omega)).set (by omega)⟩
          · exact absurd hab c27
  · have hdummy := hn
    refine CK.start [(0, _), (1, _), (2, _), (3, _), (4, _)] (plainFor_of_name (by decide)) (Nat.le_of_ble_eq_true rfl) rfl ?_
    refine K_aload_n dX3_weeks_0 rfl rfl ?_
    refine K_iconst (v := nI 0) dX3_weeks_1 (by decide) rfl ?_
    refine K_putZ dX3_weeks_2 fl_X3_61 (by first | rfl | exact sk_rk (by omega) | exact sk_hh (by omega)) rfl rfl rfl (by first | exact bI_01 _ | exact Or.inl rfl | exact Or.inr rfl | assumption) rfl ?_
    refine K_aload_n dX3_weeks_5 rfl rfl ?_
    refine K_iload_n dX3_weeks_6 rfl rfl ?_
    refine K_cv (ci := 3) (d1 := d - 1) [_] dX3_weeks_7 ml_X3_74 (by decide) rfl rfl rfl (Nat.le_of_ble_eq_true rfl) (c_X3_isFamily h7) (by omega) rfl ?_
    refine K_if_eqB (tgt := 30) dX3_weeks_10 (by decide) rfl (fun c10 => ?_) (fun c10 => ?_)
    · refine K_iconst (v := nI 0) dX3_weeks_30 (by decide) rfl ?_
      refine K_zret dX3_weeks_31 rfl (by first | rfl | exact bI_nar _) ?_
      rw [o_weeks, if_neg hok]
      exact ⟨rfl, R0, FX.c0 N⟩
    · refine K_iload_n dX3_weeks_13 rfl rfl ?_
      refine K_if_lt (tgt := 30) dX3_weeks_14 (by decide) rfl (fun c14 => ?_) (fun c14 => ?_)
      · refine K_iconst (v := nI 0) dX3_weeks_30 (by decide) rfl ?_
        refine K_zret dX3_weeks_31 rfl (by first | rfl | exact bI_nar _) ?_
        rw [o_weeks, if_neg hok]
        exact ⟨rfl, R0, FX.c0 N⟩
      · refine K_iload dX3_weeks_17 rfl rfl ?_
        refine K_bipush (v := nI 51) dX3_weeks_19 (by decide) rfl ?_
        refine K_icmp_gt (tgt := 30) dX3_weeks_21 (by decide) rfl (fun c21 => ?_) (fun c21 => ?_)
        · refine K_iconst (v := nI 0) dX3_weeks_30 (by decide) rfl ?_
          refine K_zret dX3_weeks_31 rfl (by first | rfl | exact bI_nar _) ?_
          rw [o_weeks, if_neg hok]
          exact ⟨rfl, R0, FX.c0 N⟩
        · refine K_iload_n dX3_weeks_24 rfl rfl ?_
          refine K_iload dX3_weeks_25 rfl rfl ?_
          refine K_icmp_le (tgt := 32) dX3_weeks_27 (by decide) rfl (fun c27 => ?_) (fun c27 => ?_)
          · exact absurd ⟨c10, c14, c21, c27⟩ hok
          · refine K_iconst (v := nI 0) dX3_weeks_30 (by decide) rfl ?_
            refine K_zret dX3_weeks_31 rfl (by first | rfl | exact bI_nar _) ?_
            rw [o_weeks, if_neg hok]
            exact ⟨rfl, R0, FX.c0 N⟩
def o_rank (S : GS) (x y : Int32) : Int32 := if two (s_n S) x y = true then nI (s_rk S x.toNatClampNeg y.toNatClampNeg) else -1
set_option maxRecDepth 100000 in
theorem c_X3_rank {d : Nat} (hd : 2 ≤ d) {S : GS} {N : Mem} {K : Mej} (R : RX S N K) (w : WF S) {x y : Int32} : CK d mX3_rank [.ref 0, .int x, .int y] N K (PX (some (.int (o_rank S x y))) N K) := by
  have hn := w.1.1
  have h7 := R.1.1
  cases ht : two (s_n S) x y with
  | false =>
    refine CK.start [(0, _), (1, _), (2, _)] (plainFor_of_name (by decide)) (Nat.le_of_ble_eq_true rfl) rfl ?_
    refine K_aload_n dX3_rank_0 rfl rfl ?_
    refine K_iload_n dX3_rank_1 rfl rfl ?_
    refine K_iload_n dX3_rank_2 rfl rfl ?_
    refine K_cv (ci := 3) (d1 := d - 1) [_, _] dX3_rank_3 ml_X3_107 (by decide) rfl rfl rfl (Nat.le_of_ble_eq_true rfl) (c_X3_areTwo (by omega) h7) (by omega) rfl ?_
    refine K_if_eqB (tgt := 23) dX3_rank_6 (by decide) rfl (fun c6 => ?_) (fun c6 => ?_)
    · refine K_iconst (v := (-1)) dX3_rank_23 (by decide) rfl ?_
      refine K_iret dX3_rank_24 rfl ?_
      rw [o_rank, ht]
      exact ⟨rfl, rfl, rfl⟩
    · rw [ht] at c6; cases c6
  | true =>
    obtain ⟨f, g, hf, hg, hfg, rfl, rfl⟩ := (two_iff hn).mp ht
    have hr := R.2.2.1 f g (by omega) (by omega)
    refine CK.start [(0, _), (1, _), (2, _)] (plainFor_of_name (by decide)) (Nat.le_of_ble_eq_true rfl) rfl ?_
    refine K_aload_n dX3_rank_0 rfl rfl ?_
    refine K_iload_n dX3_rank_1 rfl rfl ?_
    refine K_iload_n dX3_rank_2 rfl rfl ?_
    refine K_cv (ci := 3) (d1 := d - 1) [_, _] dX3_rank_3 ml_X3_107 (by decide) rfl rfl rfl (Nat.le_of_ble_eq_true rfl) (c_X3_areTwo (by omega) h7) (by omega) rfl ?_
    refine K_if_eqB (tgt := 23) dX3_rank_6 (by decide) rfl (fun c6 => ?_) (fun c6 => ?_)
    · rw [ht] at c6; cases c6
    · refine K_aload_n dX3_rank_9 rfl rfl ?_
      refine K_getR (r := 1) dX3_rank_10 fl_X3_11 rfl rfl rfl rfl ?_
      refine K_iload_n dX3_rank_13 rfl rfl ?_
      refine K_hh dX3_rank_14 (by first | omega | fail) rfl ?_
      refine K_rk dX3_rank_15 fl_X3_155 (by first | omega | fail) rfl ?_
      refine K_iload_n dX3_rank_18 rfl rfl ?_
      refine K_iald dX3_rank_19 (by first | rfl | exact sk_rk (by omega) | exact sk_hh (by omega)) (by first | omega | fail) (by decide) (by first | assumption | rfl) rfl ?_
      refine K_goto (tgt := 24) dX3_rank_20 (by decide) ?_
      refine K_iret dX3_rank_24 rfl ?_
      rw [o_rank, ht, if_pos rfl, nI_clamp (by omega), nI_clamp (by omega)]
      exact ⟨rfl, rfl, rfl⟩
def o_can (S : GS) (x y : Int32) : Int32 := if two (s_n S) x y = true then nI (s_hin S x.toNatClampNeg y.toNatClampNeg) else -1
set_option maxRecDepth 100000 in
theorem c_X3_can {d : Nat} (hd : 3 ≤ d) {S : GS} {N : Mem} {K : Mej} (R : RX S N K) (w : WF S) {x y : Int32} : CK d mX3_can [.ref 0, .int x, .int y] N K (PX (some (.int (o_can S x y))) N K) := by
  have hn := w.1.1
  have h7 := R.1.1
  cases ht : two (s_n S) x y with
  | false =>
    refine CK.start [(0, _), (1, _), (2, _)] (plainFor_of_name (by decide)) (Nat.le_of_ble_eq_true rfl) rfl ?_
    refine K_aload_n dX3_can_0 rfl rfl ?_
    refine K_iload_n dX3_can_1 rfl rfl ?_
    refine K_iload_n dX3_can_2 rfl rfl ?_
    refine K_cv (ci := 3) (d1 := d - 1) [_, _] dX3_can_3 ml_X3_107 (by decide) rfl rfl rfl (Nat.le_of_ble_eq_true rfl) (c_X3_areTwo (by omega) h7) (by omega) rfl ?_
    refine K_if_eqB (tgt := 18) dX3_can_6 (by decide) rfl (fun c6 => ?_) (fun c6 => ?_)
    · refine K_iconst (v := (-1)) dX3_can_18 (by decide) rfl ?_
      refine K_iret dX3_can_19 rfl ?_
      rw [o_can, ht]
      exact ⟨rfl, rfl, rfl⟩
    · rw [ht] at c6; cases c6
  | true =>
    obtain ⟨f, g, hf, hg, hfg, rfl, rfl⟩ := (two_iff hn).mp ht
    refine CK.start [(0, _), (1, _), (2, _)] (plainFor_of_name (by decide)) (Nat.le_of_ble_eq_true rfl) rfl ?_
    refine K_aload_n dX3_can_0 rfl rfl ?_
    refine K_iload_n dX3_can_1 rfl rfl ?_
    refine K_iload_n dX3_can_2 rfl rfl ?_
    refine K_cv (ci := 3) (d1 := d - 1) [_, _] dX3_can_3 ml_X3_107 (by decide) rfl rfl rfl (Nat.le_of_ble_eq_true rfl) (c_X3_areTwo (by omega) h7) (by omega) rfl ?_
    refine K_if_eqB (tgt := 18) dX3_can_6 (by decide) rfl (fun c6 => ?_) (fun c6 => ?_)
    · rw [ht] at c6; cases c6
    · refine K_aload_n dX3_can_9 rfl rfl ?_
      refine K_iload_n dX3_can_10 rfl rfl ?_
      refine K_iload_n dX3_can_11 rfl rfl ?_
      refine K_cv (ci := 3) (d1 := d - 1) [_, _] dX3_can_12 ml_X3_158 (by decide) rfl rfl rfl (Nat.le_of_ble_eq_true rfl) (c_X3_hindrance (by omega) R w hf hg) (by omega) rfl ?_
      refine K_goto (tgt := 19) dX3_can_15 (by decide) ?_
      refine K_iret dX3_can_19 rfl ?_
      rw [o_can, ht, if_pos rfl, nI_clamp (by omega), nI_clamp (by omega)]
      exact ⟨rfl, rfl, rfl⟩
def o_week (S : GS) (x y : Int32) : Int32 := if two (s_n S) x y = true ∧ s_hin S x.toNatClampNeg y.toNatClampNeg = 0 then nI (max (s_tf S x.toNatClampNeg) (s_ff S y.toNatClampNeg)) else -1
theorem s_hin_lt (S : GS) (f g : Nat) : s_hin S f g < 6 := by
  unfold s_hin
  (repeat' split) <;> omega
set_option maxRecDepth 100000 in
theorem c_X3_week {d : Nat} (hd : 3 ≤ d) {S : GS} {N : Mem} {K : Mej} (R : RX S N K) (w : WF S) {x y : Int32} : CK d mX3_week [.ref 0, .int x, .int y] N K (PX (some (.int (o_week S x y))) N K) := by
  have hn := w.1.1
  have h7 := R.1.1
  cases ht : two (s_n S) x y with
  | false =>
    refine CK.start [(0, _), (1, _), (2, _)] (plainFor_of_name (by decide)) (Nat.le_of_ble_eq_true rfl) rfl ?_
    refine K_aload_n dX3_week_0 rfl rfl ?_
    refine K_iload_n dX3_week_1 rfl rfl ?_
    refine K_iload_n dX3_week_2 rfl rfl ?_
    refine K_cv (ci := 3) (d1 := d - 1) [_, _] dX3_week_3 ml_X3_107 (by decide) rfl rfl rfl (Nat.le_of_ble_eq_true rfl) (c_X3_areTwo (by omega) h7) (by omega) rfl ?_
    refine K_if_eqB (tgt := 18) dX3_week_6 (by decide) rfl (fun c6 => ?_) (fun c6 => ?_)
    · refine K_iconst (v := (-1)) dX3_week_18 (by decide) rfl ?_
      refine K_iret dX3_week_19 rfl ?_
      rw [o_week, if_neg (fun h => by rw [ht] at h; cases h.1)]
      exact ⟨rfl, rfl, rfl⟩
    · rw [ht] at c6; cases c6
  | true =>
    obtain ⟨f, g, hf, hg, hfg, rfl, rfl⟩ := (two_iff hn).mp ht
    have f9 := (R.2.1 f (by omega)).2.2.2.2.2.2.2.2.1
    have g7 := (R.2.1 g (by omega)).2.2.2.2.2.2.1
    have wf := (w.2.1 f hf).2.2.2.2.2.1
    have wg := (w.2.1 g hg).2.2.2.1
    have hh := s_hin_lt S f g
    refine CK.start [(0, _), (1, _), (2, _)] (plainFor_of_name (by decide)) (Nat.le_of_ble_eq_true rfl) rfl ?_
    refine K_aload_n dX3_week_0 rfl rfl ?_
    refine K_iload_n dX3_week_1 rfl rfl ?_
    refine K_iload_n dX3_week_2 rfl rfl ?_
    refine K_cv (ci := 3) (d1 := d - 1) [_, _] dX3_week_3 ml_X3_107 (by decide) rfl rfl rfl (Nat.le_of_ble_eq_true rfl) (c_X3_areTwo (by omega) h7) (by omega) rfl ?_
    refine K_if_eqB (tgt := 18) dX3_week_6 (by decide) rfl (fun c6 => ?_) (fun c6 => ?_)
    · rw [ht] at c6; cases c6
    · refine K_aload_n dX3_week_9 rfl rfl ?_
      refine K_iload_n dX3_week_10 rfl rfl ?_
      refine K_iload_n dX3_week_11 rfl rfl ?_
      refine K_cv (ci := 3) (d1 := d - 1) [_, _] dX3_week_12 ml_X3_158 (by decide) rfl rfl rfl (Nat.le_of_ble_eq_true rfl) (c_X3_hindrance (by omega) R w hf hg) (by omega) rfl ?_
      refine K_if_eqN (tgt := 20) dX3_week_15 (by decide) rfl (by first | omega | fail) (fun c15 => ?_) (fun c15 => ?_)
      · refine K_aload_n dX3_week_20 rfl rfl ?_
        refine K_getR (r := 1) dX3_week_21 fl_X3_11 rfl rfl rfl rfl ?_
        refine K_iload_n dX3_week_24 rfl rfl ?_
        refine K_hh dX3_week_25 (by first | omega | fail) rfl ?_
        refine K_getI dX3_week_26 fl_X3_83 (by first | rfl | exact sk_rk (by omega) | exact sk_hh (by omega)) rfl (by first | assumption | rfl) rfl ?_
        refine K_aload_n dX3_week_29 rfl rfl ?_
        refine K_getR (r := 1) dX3_week_30 fl_X3_11 rfl rfl rfl rfl ?_
        refine K_iload_n dX3_week_33 rfl rfl ?_
        refine K_hh dX3_week_34 (by first | omega | fail) rfl ?_
        refine K_getI dX3_week_35 fl_X3_77 (by first | rfl | exact sk_rk (by omega) | exact sk_hh (by omega)) rfl (by first | assumption | rfl) rfl ?_
        refine K_sv (d1 := d - 1) [_, _] dX3_week_38 ml_X3_162 rfl rfl (Nat.le_of_ble_eq_true rfl) (c_J9_max_7cf53 (by omega) (by omega)) (by omega) rfl ?_
        refine K_iret dX3_week_41 rfl ?_
        rw [o_week, nI_clamp (by omega), nI_clamp (by omega)]
        first | (rw [if_pos ⟨ht, c15⟩]; exact ⟨rfl, rfl, rfl⟩) | (rw [if_neg (fun h => c15 h.2)]; exact ⟨rfl, rfl, rfl⟩)
      · refine K_iconst (v := (-1)) dX3_week_18 (by decide) rfl ?_
        refine K_iret dX3_week_19 rfl ?_
        rw [o_week, nI_clamp (by omega), nI_clamp (by omega)]
        first | (rw [if_pos ⟨ht, c15⟩]; exact ⟨rfl, rfl, rfl⟩) | (rw [if_neg (fun h => c15 h.2)]; exact ⟨rfl, rfl, rfl⟩)
def o_went (S : GS) (y x : Int32) : Int32 := if ¬ y < 0 ∧ ¬ nI (s_yr S) ≤ y ∧ isF (s_n S) x = true then oI (s_bk S y.toNatClampNeg x.toNatClampNeg) else -1
set_option maxRecDepth 100000 in
theorem c_X3_went {d : Nat} (hd : 1 ≤ d) {S : GS} {N : Mem} {K : Mej} (R : RX S N K) (w : WF S) {y x : Int32} : CK d mX3_went [.ref 0, .int y, .int x] N K (PX (some (.int (o_went S y x))) N K) := by
  have hn := w.1.1
  have hyr := w.1.2.1
  have h7 := R.1.1
  have h8 := R.1.2.1
  by_cases hok : ¬ y < 0 ∧ ¬ nI (s_yr S) ≤ y ∧ isF (s_n S) x = true
  · obtain ⟨hy0, hy1, hx⟩ := id hok
    obtain ⟨f, hf, rfl⟩ := (isF_iff hn).mp hx
    obtain ⟨j, hj, rfl⟩ := nI_of hy0
    have hj2 : j < s_yr S := by
      rw [nI_leI (by omega) hj] at hy1
      omega
    have hb := R.2.2.2.2.1 j f hj2 (by omega)
    refine CK.start [(0, _), (1, _), (2, _)] (plainFor_of_name (by decide)) (Nat.le_of_ble_eq_true rfl) rfl ?_
    refine K_iload_n dX3_went_0 rfl rfl ?_
    refine K_if_ltN (tgt := 20) dX3_went_1 (by decide) rfl (by first | omega | fail) (fun c1 => ?_) (fun c1 => ?_)
    · exact c1.elim
    · refine K_iload_n dX3_went_4 rfl rfl ?_
      refine K_aload_n dX3_went_5 rfl rfl ?_
      refine K_getI dX3_went_6 fl_X3_46 (by first | rfl | exact sk_rk (by omega) | exact sk_hh (by omega)) rfl (by first | assumption | rfl) rfl ?_
      refine K_icmp_geN (tgt := 20) dX3_went_9 (by decide) rfl (by first | omega | fail) (by first | omega | fail) (fun c9 => ?_) (fun c9 => ?_)
      · omega
      · refine K_aload_n dX3_went_12 rfl rfl ?_
        refine K_iload_n dX3_went_13 rfl rfl ?_
        refine K_cv (ci := 3) (d1 := d - 1) [_] dX3_went_14 ml_X3_74 (by decide) rfl rfl rfl (Nat.le_of_ble_eq_true rfl) (c_X3_isFamily h7) (by omega) rfl ?_
        refine K_if_neB (tgt := 22) dX3_went_17 (by decide) rfl (fun c17 => ?_) (fun c17 => ?_)
        · refine K_aload_n dX3_went_22 rfl rfl ?_
          refine K_getR (r := 3) dX3_went_23 fl_X3_19 rfl rfl rfl rfl ?_
          refine K_iload_n dX3_went_26 rfl rfl ?_
          refine K_bipush (v := nI 10) dX3_went_27 (by decide) rfl ?_
          refine K_mulN dX3_went_29 rfl ?_
          refine K_iload_n dX3_went_30 rfl rfl ?_
          refine K_addN dX3_went_31 rfl ?_
          refine K_iald dX3_went_32 (by first | rfl | exact sk_rk (by omega) | exact sk_hh (by omega)) (by first | omega | fail) (by decide) (by first | assumption | rfl) rfl ?_
          refine K_iret dX3_went_33 rfl ?_
          rw [o_went, if_pos hok, nI_clamp (by omega), nI_clamp (by omega)]
          exact ⟨rfl, rfl, rfl⟩
        · rw [hx] at c17; cases c17
  · have hdummy := hn
    refine CK.start [(0, _), (1, _), (2, _)] (plainFor_of_name (by decide)) (Nat.le_of_ble_eq_true rfl) rfl ?_
    refine K_iload_n dX3_went_0 rfl rfl ?_
    refine K_if_lt (tgt := 20) dX3_went_1 (by decide) rfl (fun c1 => ?_) (fun c1 => ?_)
    · refine K_iconst (v := (-1)) dX3_went_20 (by decide) rfl ?_
      refine K_iret dX3_went_21 rfl ?_
      rw [o_went, if_neg hok]
      exact ⟨rfl, rfl, rfl⟩
    · refine K_iload_n dX3_went_4 rfl rfl ?_
      refine K_aload_n dX3_went_5 rfl rfl ?_
      refine K_getI dX3_went_6 fl_X3_46 (by first | rfl | exact sk_rk (by omega) | exact sk_hh (by omega)) rfl (by first | assumption | rfl) rfl ?_
      refine K_icmp_ge (tgt := 20) dX3_went_9 (by decide) rfl (fun c9 => ?_) (fun c9 => ?_)
      · refine K_iconst (v := (-1)) dX3_went_20 (by decide) rfl ?_
        refine K_iret dX3_went_21 rfl ?_
        rw [o_went, if_neg hok]
        exact ⟨rfl, rfl, rfl⟩
      · refine K_aload_n dX3_went_12 rfl rfl ?_
        refine K_iload_n dX3_went_13 rfl rfl ?_
        refine K_cv (ci := 3) (d1 := d - 1) [_] dX3_went_14 ml_X3_74 (by decide) rfl rfl rfl (Nat.le_of_ble_eq_true rfl) (c_X3_isFamily h7) (by omega) rfl ?_
        refine K_if_neB (tgt := 22) dX3_went_17 (by decide) rfl (fun c17 => ?_) (fun c17 => ?_)
        · exact absurd ⟨c1, c9, c17⟩ hok
        · refine K_iconst (v := (-1)) dX3_went_20 (by decide) rfl ?_
          refine K_iret dX3_went_21 rfl ?_
          rw [o_went, if_neg hok]
          exact ⟨rfl, rfl, rfl⟩
theorem RX.h11 {S : GS} {N : Mem} {K : Mej} (R : RX S N K) {f g m : Nat} (hf : f < 10) (hg : g < 10) (hm : m < 1024) (hb : ∀ z, z < 10 → m.testBit z = s_br S f z) (b : Bool) : RX (gB S 2 f g b) (sM N (20 + f) 11 (nI (bmS m g b))) K := by
  refine ⟨?_, fun f2 hf2 => ?_, fun f2 g2 hf2 hg2 => ?_, fun f2 hf2 => ?_, fun y f2 hy hf2 => ?_, fun i hi => ?_, R.2.2.2.2.2.2⟩
  · rw [sM_row (by omega)]
    obtain ⟨a7, a8, a9, a10, a11, a12, a13⟩ := R.1
    exact ⟨a7, a8, a9, a10, a11, a12, a13.trans (by simp [s_ch, gB])⟩
  · obtain ⟨b1, b2, b3, b4, b5, b6, b7, b8, b9, b10, ⟨m2, hm2, b11, hb2⟩, b12⟩ := R.2.1 f2 hf2
    have ne : ∀ j, j ≠ 11 → sM N (20 + f) 11 (nI (bmS m g b)) (20 + f2) j = N (20 + f2) j := fun j hj => sM_ne (Or.inr hj)
    refine ⟨(ne 1 (by decide)).trans b1, (ne 2 (by decide)).trans b2, (ne 3 (by decide)).trans b3, (ne 4 (by decide)).trans b4, ((ne 5 (by decide)).trans b5).trans (by simp [s_pt, gB]), ((ne 6 (by decide)).trans b6).trans (by simp [s_pr, gB]), (ne 7 (by decide)).trans b7, (ne 8 (by decide)).trans b8, (ne 9 (by decide)).trans b9, (ne 10 (by decide)).trans b10, ?_, (ne 12 (by decide)).trans b12⟩
    by_cases e : f2 = f
    · subst e
      refine ⟨bmS m g b, bmS_lt hg hm, sM_eq _ _ _ _, fun z hz => ?_⟩
      rw [bmS_bit hg hz]
      by_cases e2 : z = g
      · simp [s_br, gB, e2]
      · rw [if_neg e2, hb z hz]
        simp [s_br, gB, e2]
    · refine ⟨m2, hm2, (sM_ne (Or.inl (by omega))).trans b11, fun z hz => (hb2 z hz).trans ?_⟩
      simp [s_br, gB, e]
  · rw [sM_row (by omega)]; exact R.2.2.1 f2 g2 hf2 hg2
  · rw [sM_row (by omega)]; exact R.2.2.2.1 f2 hf2
  · rw [sM_row (by omega)]; exact R.2.2.2.2.1 y f2 hy hf2
  · rw [sM_row (by omega)]; exact R.2.2.2.2.2.1 i hi
def o_bar (S : GS) (x y : Int32) (b : Bool) : Int32 × GS := if two (s_n S) x y = true then (1, gB (gB (gC S) 2 x.toNatClampNeg y.toNatClampNeg b) 2 y.toNatClampNeg x.toNatClampNeg b) else (0, gC S)
set_option maxRecDepth 100000 in
theorem c_X3_bar {d : Nat} (hd : 2 ≤ d) {S : GS} {N : Mem} {K : Mej} (R : RX S N K) (w : WF S) {x y : Int32} {b : Bool} : CK d mX3_bar [.ref 0, .int x, .int y, .int (bI b)] N K (PRX (o_bar S x y b).1 (o_bar S x y b).2 N) := by
  have hn := w.1.1
  have R0 := R.c0
  have h7 : sM N 0 13 (nI 0) 0 7 = nI (s_n S) := R0.1.1
  cases ht : two (s_n S) x y with
  | false =>
    refine CK.start [(0, _), (1, _), (2, _), (3, _)] (plainFor_of_name (by decide)) (Nat.le_of_ble_eq_true rfl) rfl ?_
    refine K_aload_n dX3_bar_0 rfl rfl ?_
    refine K_iconst (v := nI 0) dX3_bar_1 (by decide) rfl ?_
    refine K_putZ dX3_bar_2 fl_X3_61 (by first | rfl | exact sk_rk (by omega) | exact sk_hh (by omega)) rfl rfl rfl (by first | exact bI_01 _ | exact Or.inl rfl | exact Or.inr rfl | assumption) rfl ?_
    refine K_aload_n dX3_bar_5 rfl rfl ?_
    refine K_iload_n dX3_bar_6 rfl rfl ?_
    refine K_iload_n dX3_bar_7 rfl rfl ?_
    refine K_cv (ci := 3) (d1 := d - 1) [_, _] dX3_bar_8 ml_X3_107 (by decide) rfl rfl rfl (Nat.le_of_ble_eq_true rfl) (c_X3_areTwo (by omega) h7) (by omega) rfl ?_
    refine K_if_neB (tgt := 16) dX3_bar_11 (by decide) rfl (fun c11 => ?_) (fun c11 => ?_)
    · rw [ht] at c11; cases c11
    · refine K_iconst (v := nI 0) dX3_bar_14 (by decide) rfl ?_
      refine K_zret dX3_bar_15 rfl (by first | rfl | exact bI_nar _) ?_
      simp only [o_bar, ht]
      exact ⟨rfl, R0, FX.c0 N⟩
  | true =>
    obtain ⟨f, g, hf, hg, hfg, rfl, rfl⟩ := (two_iff hn).mp ht
    obtain ⟨m1, hm1, e1, hb1⟩ := (R0.2.1 f (by omega)).2.2.2.2.2.2.2.2.2.2.1
    have R1 := R0.h11 (f := f) (g := g) (by omega) (by omega) hm1 hb1 b
    obtain ⟨m2, hm2, e2, hb2⟩ := (R1.2.1 g (by omega)).2.2.2.2.2.2.2.2.2.2.1
    have R2 := R1.h11 (f := g) (g := f) (by omega) (by omega) hm2 hb2 b
    refine CK.start [(0, _), (1, _), (2, _), (3, _)] (plainFor_of_name (by decide)) (Nat.le_of_ble_eq_true rfl) rfl ?_
    refine K_aload_n dX3_bar_0 rfl rfl ?_
    refine K_iconst (v := nI 0) dX3_bar_1 (by decide) rfl ?_
    refine K_putZ dX3_bar_2 fl_X3_61 (by first | rfl | exact sk_rk (by omega) | exact sk_hh (by omega)) rfl rfl rfl (by first | exact bI_01 _ | exact Or.inl rfl | exact Or.inr rfl | assumption) rfl ?_
    refine K_aload_n dX3_bar_5 rfl rfl ?_
    refine K_iload_n dX3_bar_6 rfl rfl ?_
    refine K_iload_n dX3_bar_7 rfl rfl ?_
    refine K_cv (ci := 3) (d1 := d - 1) [_, _] dX3_bar_8 ml_X3_107 (by decide) rfl rfl rfl (Nat.le_of_ble_eq_true rfl) (c_X3_areTwo (by omega) h7) (by omega) rfl ?_
    refine K_if_neB (tgt := 16) dX3_bar_11 (by decide) rfl (fun c11 => ?_) (fun c11 => ?_)
    · refine K_aload_n dX3_bar_16 rfl rfl ?_
      refine K_getR (r := 1) dX3_bar_17 fl_X3_11 rfl rfl rfl rfl ?_
      refine K_iload_n dX3_bar_20 rfl rfl ?_
      refine K_hh dX3_bar_21 (by first | omega | fail) rfl ?_
      refine K_iload_n dX3_bar_22 rfl rfl ?_
      refine K_iload_n dX3_bar_23 rfl rfl ?_
      refine K_c0 (ci := 0) (d1 := d - 1) [_, _] dX3_bar_24 ml_X3_110 (by decide) (sk_hh (by omega)) rfl rfl (Nat.le_of_ble_eq_true rfl) (c_X0_barFrom (by omega) (by omega) (by first | exact e1 | exact e2)) (by omega) rfl ?_
      refine K_aload_n dX3_bar_27 rfl rfl ?_
      refine K_getR (r := 1) dX3_bar_28 fl_X3_11 rfl rfl rfl rfl ?_
      refine K_iload_n dX3_bar_31 rfl rfl ?_
      refine K_hh dX3_bar_32 (by first | omega | fail) rfl ?_
      refine K_iload_n dX3_bar_33 rfl rfl ?_
      refine K_iload_n dX3_bar_34 rfl rfl ?_
      refine K_c0 (ci := 0) (d1 := d - 1) [_, _] dX3_bar_35 ml_X3_110 (by decide) (sk_hh (by omega)) rfl rfl (Nat.le_of_ble_eq_true rfl) (c_X0_barFrom (by omega) (by omega) (by first | exact e1 | exact e2)) (by omega) rfl ?_
      refine K_iconst (v := nI 1) dX3_bar_38 (by decide) rfl ?_
      refine K_zret dX3_bar_39 rfl (by first | rfl | exact bI_nar _) ?_
      simp only [o_bar, ht, if_true, nI_clamp (show f < 2 ^ 31 by omega), nI_clamp (show g < 2 ^ 31 by omega)]
      exact ⟨rfl, R2, ((FX.c0 N).set (by omega)).set (by omega)⟩
    · rw [ht] at c11; cases c11
