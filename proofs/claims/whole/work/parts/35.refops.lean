theorem li_eq (x a b : Int32) (A B : Int64) (hA : A.toInt = a.toInt) (hB : B.toInt = b.toInt) : decide (¬ x.toInt64 < A ∧ ¬ B < x.toInt64) = decide (¬ x < a ∧ ¬ b < x) := by
  apply decide_eq_decide.mpr
  rw [Int64.lt_iff_toInt_lt, Int64.lt_iff_toInt_lt, Int32.toInt_toInt64, hA, hB, Int32.lt_iff_toInt_lt, Int32.lt_iff_toInt_lt]
theorem c_li {d : Nat} {N : Mem} {K : Mej} {x : Int32} (a b : Int32) {A B : Int64} (hA : A.toInt = a.toInt) (hB : B.toInt = b.toInt) : CK d mX4_lies [.long x.toInt64, .long A, .long B] N K (PX (some (.int (bI (decide (¬ x < a ∧ ¬ b < x))))) N K) := by
  rw [← li_eq x a b A B hA hB]
  exact c_X4_lies
theorem RY.br {S : GS} {N : Mem} (R : RY S N) {f g : Nat} (hf : f < 10) (hg : g < 10) (b : Bool) : RY (gB S 2 f g b) (sM N 54 (10 * f + g) (bI b)) := by
  refine ⟨?_, fun f2 hf2 => ?_, fun f2 hf2 => ?_, fun y f2 hy hf2 => ?_, fun i hi => ?_⟩
  · exact R.1
  · exact R.2.1 f2 hf2
  · obtain ⟨c1, c2, c3, c4⟩ := R.2.2.1 f2 hf2
    refine ⟨c1, c2, c3, fun g2 hg2 => ?_⟩
    rw [sM_at]
    by_cases e : f2 = f ∧ g2 = g
    · obtain ⟨rfl, rfl⟩ := e
      simp [s_br, gB]
    · rw [if_neg (by omega), c4 g2 hg2]
      show bI (S.2.1 2 f2 g2) = bI (if 2 = 2 ∧ f2 = f ∧ g2 = g then b else S.2.1 2 f2 g2)
      rw [if_neg (fun z => e z.2)]
  · exact R.2.2.2.1 y f2 hy hf2
  · exact R.2.2.2.2 i hi
set_option maxRecDepth 100000 in
theorem c_X4_bar {d : Nat} (hd : 3 ≤ d) {S : GS} {N : Mem} {K : Mej} (R : RY S N) (w : WF S) {x y : Int32} {b : Bool} : CK d mX4_bar [.ref 40, .int x, .int y, .int (bI b)] N K (PRY (o_bar S x y b).1 (o_bar S x y b).2 N K) := by
  have hn := w.1.1
  have R0 := R.c0
  have h7 : sM (sM N 40 0 (nI 0)) 40 19 (nI 0) 40 1 = nI (s_n S) := R0.1.1
  cases ht : two (s_n S) x y with
  | false =>
    refine CK.start [(0, _), (1, _), (2, _), (3, _)] (plainFor_of_name (by decide)) (Nat.le_of_ble_eq_true rfl) rfl ?_
    refine K_aload_n dX4_bar_0 rfl rfl ?_
    refine K_iconst (v := nI 0) dX4_bar_1 (by decide) rfl ?_
    refine K_putI dX4_bar_2 fl_X4_84 (by first | rfl | exact sk_rk (by omega) | exact sk_hh (by omega)) rfl rfl rfl rfl ?_
    refine K_aload_n dX4_bar_5 rfl rfl ?_
    refine K_iconst (v := nI 0) dX4_bar_6 (by decide) rfl ?_
    refine K_putI dX4_bar_7 fl_X4_98 (by first | rfl | exact sk_rk (by omega) | exact sk_hh (by omega)) rfl rfl rfl rfl ?_
    refine K_aload_n dX4_bar_10 rfl rfl ?_
    refine K_iload_n dX4_bar_11 rfl rfl ?_
    refine K_iload_n dX4_bar_12 rfl rfl ?_
    refine K_cv (ci := 4) (d1 := d - 1) [_, _] dX4_bar_13 ml_X4_107 (by decide) rfl rfl rfl (Nat.le_of_ble_eq_true rfl) (c_X4_areTwo (by omega) hn h7) (by omega) rfl ?_
    refine K_if_neB (tgt := 21) dX4_bar_16 (by decide) rfl (fun c16 => ?_) (fun c16 => ?_)
    · rw [ht] at c16; cases c16
    · refine K_iconst (v := nI 0) dX4_bar_19 (by decide) rfl ?_
      refine K_zret dX4_bar_20 rfl (by first | rfl | exact bI_nar _) ?_
      simp only [o_bar, ht]
      exact ⟨rfl, R0, FY.c0 N, rfl⟩
  | true =>
    obtain ⟨f, g, hf, hg, hfg, rfl, rfl⟩ := (two_iff hn).mp ht
    have R2 := (R0.br (f := f) (g := g) (by omega) (by omega) b).br (f := g) (g := f) (by omega) (by omega) b
    refine CK.start [(0, _), (1, _), (2, _), (3, _)] (plainFor_of_name (by decide)) (Nat.le_of_ble_eq_true rfl) rfl ?_
    refine K_aload_n dX4_bar_0 rfl rfl ?_
    refine K_iconst (v := nI 0) dX4_bar_1 (by decide) rfl ?_
    refine K_putI dX4_bar_2 fl_X4_84 (by first | rfl | exact sk_rk (by omega) | exact sk_hh (by omega)) rfl rfl rfl rfl ?_
    refine K_aload_n dX4_bar_5 rfl rfl ?_
    refine K_iconst (v := nI 0) dX4_bar_6 (by decide) rfl ?_
    refine K_putI dX4_bar_7 fl_X4_98 (by first | rfl | exact sk_rk (by omega) | exact sk_hh (by omega)) rfl rfl rfl rfl ?_
    refine K_aload_n dX4_bar_10 rfl rfl ?_
    refine K_iload_n dX4_bar_11 rfl rfl ?_
    refine K_iload_n dX4_bar_12 rfl rfl ?_
    refine K_cv (ci := 4) (d1 := d - 1) [_, _] dX4_bar_13 ml_X4_107 (by decide) rfl rfl rfl (Nat.le_of_ble_eq_true rfl) (c_X4_areTwo (by omega) hn h7) (by omega) rfl ?_
    refine K_if_neB (tgt := 21) dX4_bar_16 (by decide) rfl (fun c16 => ?_) (fun c16 => ?_)
    · refine K_aload_n dX4_bar_21 rfl rfl ?_
      refine K_getR (r := 54) dX4_bar_22 fl_X4_47 rfl rfl rfl rfl ?_
      refine K_bipush (v := nI 10) dX4_bar_25 (by decide) rfl ?_
      refine K_iload_n dX4_bar_27 rfl rfl ?_
      refine K_mulN dX4_bar_28 rfl ?_
      refine K_iload_n dX4_bar_29 rfl rfl ?_
      refine K_addN dX4_bar_30 rfl ?_
      refine K_iload_n dX4_bar_31 rfl rfl ?_
      refine K_zast dX4_bar_32 (by first | rfl | exact sk_rk (by omega) | exact sk_hh (by omega)) (by first | omega | fail) (by decide) (by first | exact bI_01 _ | exact Or.inl rfl | exact Or.inr rfl | assumption) rfl ?_
      refine K_aload_n dX4_bar_33 rfl rfl ?_
      refine K_getR (r := 54) dX4_bar_34 fl_X4_47 rfl rfl rfl rfl ?_
      refine K_bipush (v := nI 10) dX4_bar_37 (by decide) rfl ?_
      refine K_iload_n dX4_bar_39 rfl rfl ?_
      refine K_mulN dX4_bar_40 rfl ?_
      refine K_iload_n dX4_bar_41 rfl rfl ?_
      refine K_addN dX4_bar_42 rfl ?_
      refine K_iload_n dX4_bar_43 rfl rfl ?_
      refine K_zast dX4_bar_44 (by first | rfl | exact sk_rk (by omega) | exact sk_hh (by omega)) (by first | omega | fail) (by decide) (by first | exact bI_01 _ | exact Or.inl rfl | exact Or.inr rfl | assumption) rfl ?_
      refine K_iconst (v := nI 1) dX4_bar_45 (by decide) rfl ?_
      refine K_zret dX4_bar_46 rfl (by first | rfl | exact bI_nar _) ?_
      simp only [o_bar, ht, if_true, nI_clamp (show f < 2 ^ 31 by omega), nI_clamp (show g < 2 ^ 31 by omega)]
      exact ⟨rfl, R2, ((FY.c0 N).set (by decide)).set (by decide), rfl⟩
    · rw [ht] at c16; cases c16
set_option maxRecDepth 100000 in
theorem c_X4_weeks {d : Nat} (hd : 2 ≤ d) {S : GS} {N : Mem} {K : Mej} (R : RY S N) (w : WF S) {x k a b : Int32} : CK d mX4_weeks [.ref 40, .int x, .int k, .int a, .int b] N K (PRY (o_weeks S x k a b).1 (o_weeks S x k a b).2 N K) := by
  have hn := w.1.1
  have R0 := R.c0
  have h7 : sM (sM N 40 0 (nI 0)) 40 19 (nI 0) 40 1 = nI (s_n S) := R0.1.1
  have l1 : CK (d - 1) mX4_lies [.long k.toInt64, .long 0, .long 1] (sM (sM N 40 0 (nI 0)) 40 19 (nI 0)) K (PX (some (.int (bI (decide (¬ k < 0 ∧ ¬ nI 1 < k))))) (sM (sM N 40 0 (nI 0)) 40 19 (nI 0)) K) := c_li 0 (nI 1) (by decide) (by decide)
  have l2 : CK (d - 1) mX4_lies [.long a.toInt64, .long 0, .long 51] (sM (sM N 40 0 (nI 0)) 40 19 (nI 0)) K (PX (some (.int (bI (decide (¬ a < 0 ∧ ¬ nI 51 < a))))) (sM (sM N 40 0 (nI 0)) 40 19 (nI 0)) K) := c_li 0 (nI 51) (by decide) (by decide)
  have l3 : CK (d - 1) mX4_lies [.long b.toInt64, .long a.toInt64, .long 51] (sM (sM N 40 0 (nI 0)) 40 19 (nI 0)) K (PX (some (.int (bI (decide (¬ b < a ∧ ¬ nI 51 < b))))) (sM (sM N 40 0 (nI 0)) 40 19 (nI 0)) K) := c_li a (nI 51) (Int32.toInt_toInt64 a) (by decide)
  have kk : (¬ k < 0 ∧ ¬ nI 1 < k) ↔ (k = 0 ∨ k = nI 1) := by
    constructor
    · rintro ⟨h1, h2⟩
      obtain ⟨j, hj, rfl⟩ := nI_of h1
      rw [nI_ltI (by decide) hj] at h2
      rcases (show j = 0 ∨ j = 1 by omega) with rfl | rfl
      · exact Or.inl rfl
      · exact Or.inr rfl
    · rintro (rfl | rfl) <;> decide
  by_cases hok : (isF (s_n S) x = true ∧ ¬ a < 0 ∧ ¬ nI 51 < b ∧ a ≤ b) ∧ (k = 0 ∨ k = nI 1)
  · obtain ⟨hok, hk⟩ := hok
    obtain ⟨hx, ha, hb, hab⟩ := id hok
    obtain ⟨f, hf, rfl⟩ := (isF_iff hn).mp hx
    have hc : (nI f).toNatClampNeg = f := nI_clamp (by omega)
    have hb0 : ¬ b < 0 := fun e => by
      rw [Int32.lt_iff_toInt_lt] at e ha
      rw [Int32.le_iff_toInt_le] at hab
      omega
    have h51 : (nI 51).toInt = 51 := by decide
    have ha51 : ¬ nI 51 < a := fun e => by
      rw [Int32.lt_iff_toInt_lt] at e hb
      rw [Int32.le_iff_toInt_le] at hab
      omega
    have hba : ¬ b < a := fun e => by
      rw [Int32.lt_iff_toInt_lt] at e
      rw [Int32.le_iff_toInt_le] at hab
      omega
    have ea := nI_back ha
    have eb := nI_back hb0
    have R1 := (R0.a46 (f := f) a.toNatClampNeg).a47 (f := f) b.toNatClampNeg
    have R2 := (R0.a48 (f := f) a.toNatClampNeg).a49 (f := f) b.toNatClampNeg
    rw [ea, eb] at R1 R2
    rw [decide_eq_true (kk.mpr hk)] at l1
    rw [decide_eq_true ⟨ha, ha51⟩] at l2
    rw [decide_eq_true ⟨hba, hb⟩] at l3
    refine CK.start [(0, _), (1, _), (2, _), (3, _), (4, _)] (plainFor_of_name (by decide)) (Nat.le_of_ble_eq_true rfl) rfl ?_
    refine K_aload_n dX4_weeks_0 rfl rfl ?_
    refine K_iconst (v := nI 0) dX4_weeks_1 (by decide) rfl ?_
    refine K_putI dX4_weeks_2 fl_X4_84 (by first | rfl | exact sk_rk (by omega) | exact sk_hh (by omega)) rfl rfl rfl rfl ?_
    refine K_aload_n dX4_weeks_5 rfl rfl ?_
    refine K_iconst (v := nI 0) dX4_weeks_6 (by decide) rfl ?_
    refine K_putI dX4_weeks_7 fl_X4_98 (by first | rfl | exact sk_rk (by omega) | exact sk_hh (by omega)) rfl rfl rfl rfl ?_
    refine K_aload_n dX4_weeks_10 rfl rfl ?_
    refine K_iload_n dX4_weeks_11 rfl rfl ?_
    refine K_cv (ci := 4) (d1 := d - 1) [_] dX4_weeks_12 ml_X4_94 (by decide) rfl rfl rfl (Nat.le_of_ble_eq_true rfl) (c_X4_isFamily (by omega) hn h7) (by omega) rfl ?_
    refine K_if_eqB (tgt := 54) dX4_weeks_15 (by decide) rfl (fun c15 => ?_) (fun c15 => ?_)
    · rw [hx] at c15; cases c15
    · refine K_iload_n dX4_weeks_18 rfl rfl ?_
      refine K_i2l dX4_weeks_19 rfl ?_
      refine K_lconst (v := 0) dX4_weeks_20 (by decide) rfl ?_
      refine K_lconst (v := 1) dX4_weeks_21 (by decide) rfl ?_
      refine K_sv (d1 := d - 1) [_, _, _] dX4_weeks_22 ml_X4_90 rfl rfl (Nat.le_of_ble_eq_true rfl) l1 (by omega) rfl ?_
      refine K_if_eqB (tgt := 54) dX4_weeks_25 (by decide) rfl (fun c25 => ?_) (fun c25 => ?_)
      · cases c25
      · refine K_iload_n dX4_weeks_28 rfl rfl ?_
        refine K_i2l dX4_weeks_29 rfl ?_
        refine K_lconst (v := 0) dX4_weeks_30 (by decide) rfl ?_
        refine K_ldc2 dX4_weeks_31 kl_X4_105 rfl ?_
        refine K_sv (d1 := d - 1) [_, _, _] dX4_weeks_34 ml_X4_90 rfl rfl (Nat.le_of_ble_eq_true rfl) l2 (by omega) rfl ?_
        refine K_if_eqB (tgt := 54) dX4_weeks_37 (by decide) rfl (fun c37 => ?_) (fun c37 => ?_)
        · cases c37
        · refine K_iload dX4_weeks_40 rfl rfl ?_
          refine K_i2l dX4_weeks_42 rfl ?_
          refine K_iload_n dX4_weeks_43 rfl rfl ?_
          refine K_i2l dX4_weeks_44 rfl ?_
          refine K_ldc2 dX4_weeks_45 kl_X4_105 rfl ?_
          refine K_sv (d1 := d - 1) [_, _, _] dX4_weeks_48 ml_X4_90 rfl rfl (Nat.le_of_ble_eq_true rfl) l3 (by omega) rfl ?_
          refine K_if_neB (tgt := 56) dX4_weeks_51 (by decide) rfl (fun c51 => ?_) (fun c51 => ?_)
          · refine K_iload_n dX4_weeks_56 rfl rfl ?_
            refine K_if_ne (tgt := 78) dX4_weeks_57 (by decide) rfl (fun c57 => ?_) (fun c57 => ?_)
            · refine K_aload_n dX4_weeks_78 rfl rfl ?_
              refine K_getR (r := 48) dX4_weeks_79 fl_X4_29 rfl rfl rfl rfl ?_
              refine K_iload_n dX4_weeks_82 rfl rfl ?_
              refine K_iload_n dX4_weeks_83 rfl rfl ?_
              refine K_iast dX4_weeks_84 (by first | rfl | exact sk_rk (by omega) | exact sk_hh (by omega)) (by first | omega | fail) (by decide) rfl ?_
              refine K_aload_n dX4_weeks_85 rfl rfl ?_
              refine K_getR (r := 49) dX4_weeks_86 fl_X4_32 rfl rfl rfl rfl ?_
              refine K_iload_n dX4_weeks_89 rfl rfl ?_
              refine K_iload dX4_weeks_90 rfl rfl ?_
              refine K_iast dX4_weeks_92 (by first | rfl | exact sk_rk (by omega) | exact sk_hh (by omega)) (by first | omega | fail) (by decide) rfl ?_
              refine K_iconst (v := nI 1) dX4_weeks_93 (by decide) rfl ?_
              refine K_zret dX4_weeks_94 rfl (by first | rfl | exact bI_nar _) ?_
              rw [o_weeks, if_pos hok, hc]
              first | (rw [if_pos c57]; exact ⟨rfl, R1, ((FY.c0 N).set (by decide)).set (by decide), rfl⟩) | (rw [if_neg c57, if_pos (hk.resolve_left c57)]; exact ⟨rfl, R2, ((FY.c0 N).set (by decide)).set (by decide), rfl⟩)
            · refine K_aload_n dX4_weeks_60 rfl rfl ?_
              refine K_getR (r := 46) dX4_weeks_61 fl_X4_23 rfl rfl rfl rfl ?_
              refine K_iload_n dX4_weeks_64 rfl rfl ?_
              refine K_iload_n dX4_weeks_65 rfl rfl ?_
              refine K_iast dX4_weeks_66 (by first | rfl | exact sk_rk (by omega) | exact sk_hh (by omega)) (by first | omega | fail) (by decide) rfl ?_
              refine K_aload_n dX4_weeks_67 rfl rfl ?_
              refine K_getR (r := 47) dX4_weeks_68 fl_X4_26 rfl rfl rfl rfl ?_
              refine K_iload_n dX4_weeks_71 rfl rfl ?_
              refine K_iload dX4_weeks_72 rfl rfl ?_
              refine K_iast dX4_weeks_74 (by first | rfl | exact sk_rk (by omega) | exact sk_hh (by omega)) (by first | omega | fail) (by decide) rfl ?_
              refine K_goto (tgt := 93) dX4_weeks_75 (by decide) ?_
              refine K_iconst (v := nI 1) dX4_weeks_93 (by decide) rfl ?_
              refine K_zret dX4_weeks_94 rfl (by first | rfl | exact bI_nar _) ?_
              rw [o_weeks, if_pos hok, hc]
              first | (rw [if_pos c57]; exact ⟨rfl, R1, ((FY.c0 N).set (by decide)).set (by decide), rfl⟩) | (rw [if_neg c57, if_pos (hk.resolve_left c57)]; exact ⟨rfl, R2, ((FY.c0 N).set (by decide)).set (by decide), rfl⟩)
          · cases c51
  · have hno : o_weeks S x k a b = (0, gC S) := by
      unfold o_weeks
      by_cases h1 : isF (s_n S) x = true ∧ ¬ a < 0 ∧ ¬ nI 51 < b ∧ a ≤ b
      · rw [if_pos h1, if_neg (fun e => hok ⟨h1, Or.inl e⟩), if_neg (fun e => hok ⟨h1, Or.inr e⟩)]
      · rw [if_neg h1]
    rw [hno]
    have nl : ∀ {u v : Int32}, ¬ u < v → v ≤ u := fun {u v} h => by
      rw [Int32.lt_iff_toInt_lt] at h
      rw [Int32.le_iff_toInt_le]
      omega
    refine CK.start [(0, _), (1, _), (2, _), (3, _), (4, _)] (plainFor_of_name (by decide)) (Nat.le_of_ble_eq_true rfl) rfl ?_
    refine K_aload_n dX4_weeks_0 rfl rfl ?_
    refine K_iconst (v := nI 0) dX4_weeks_1 (by decide) rfl ?_
    refine K_putI dX4_weeks_2 fl_X4_84 (by first | rfl | exact sk_rk (by omega) | exact sk_hh (by omega)) rfl rfl rfl rfl ?_
    refine K_aload_n dX4_weeks_5 rfl rfl ?_
    refine K_iconst (v := nI 0) dX4_weeks_6 (by decide) rfl ?_
    refine K_putI dX4_weeks_7 fl_X4_98 (by first | rfl | exact sk_rk (by omega) | exact sk_hh (by omega)) rfl rfl rfl rfl ?_
    refine K_aload_n dX4_weeks_10 rfl rfl ?_
    refine K_iload_n dX4_weeks_11 rfl rfl ?_
    refine K_cv (ci := 4) (d1 := d - 1) [_] dX4_weeks_12 ml_X4_94 (by decide) rfl rfl rfl (Nat.le_of_ble_eq_true rfl) (c_X4_isFamily (by omega) hn h7) (by omega) rfl ?_
    refine K_if_eqB (tgt := 54) dX4_weeks_15 (by decide) rfl (fun c15 => ?_) (fun c15 => ?_)
    · refine K_iconst (v := nI 0) dX4_weeks_54 (by decide) rfl ?_
      refine K_zret dX4_weeks_55 rfl (by first | rfl | exact bI_nar _) ?_
      exact ⟨rfl, R0, FY.c0 N, rfl⟩
    · refine K_iload_n dX4_weeks_18 rfl rfl ?_
      refine K_i2l dX4_weeks_19 rfl ?_
      refine K_lconst (v := 0) dX4_weeks_20 (by decide) rfl ?_
      refine K_lconst (v := 1) dX4_weeks_21 (by decide) rfl ?_
      refine K_sv (d1 := d - 1) [_, _, _] dX4_weeks_22 ml_X4_90 rfl rfl (Nat.le_of_ble_eq_true rfl) l1 (by omega) rfl ?_
      refine K_if_eqB (tgt := 54) dX4_weeks_25 (by decide) rfl (fun c25 => ?_) (fun c25 => ?_)
      · refine K_iconst (v := nI 0) dX4_weeks_54 (by decide) rfl ?_
        refine K_zret dX4_weeks_55 rfl (by first | rfl | exact bI_nar _) ?_
        exact ⟨rfl, R0, FY.c0 N, rfl⟩
      · refine K_iload_n dX4_weeks_28 rfl rfl ?_
        refine K_i2l dX4_weeks_29 rfl ?_
        refine K_lconst (v := 0) dX4_weeks_30 (by decide) rfl ?_
        refine K_ldc2 dX4_weeks_31 kl_X4_105 rfl ?_
        refine K_sv (d1 := d - 1) [_, _, _] dX4_weeks_34 ml_X4_90 rfl rfl (Nat.le_of_ble_eq_true rfl) l2 (by omega) rfl ?_
        refine K_if_eqB (tgt := 54) dX4_weeks_37 (by decide) rfl (fun c37 => ?_) (fun c37 => ?_)
        · refine K_iconst (v := nI 0) dX4_weeks_54 (by decide) rfl ?_
          refine K_zret dX4_weeks_55 rfl (by first | rfl | exact bI_nar _) ?_
          exact ⟨rfl, R0, FY.c0 N, rfl⟩
        · refine K_iload dX4_weeks_40 rfl rfl ?_
          refine K_i2l dX4_weeks_42 rfl ?_
          refine K_iload_n dX4_weeks_43 rfl rfl ?_
          refine K_i2l dX4_weeks_44 rfl ?_
          refine K_ldc2 dX4_weeks_45 kl_X4_105 rfl ?_
          refine K_sv (d1 := d - 1) [_, _, _] dX4_weeks_48 ml_X4_90 rfl rfl (Nat.le_of_ble_eq_true rfl) l3 (by omega) rfl ?_
          refine K_if_neB (tgt := 56) dX4_weeks_51 (by decide) rfl (fun c51 => ?_) (fun c51 => ?_)
          · exact absurd ⟨⟨c15, (of_decide_eq_true c37).1, (of_decide_eq_true c51).2, nl (of_decide_eq_true c51).1⟩, kk.mp (of_decide_eq_true c25)⟩ hok
          · refine K_iconst (v := nI 0) dX4_weeks_54 (by decide) rfl ?_
            refine K_zret dX4_weeks_55 rfl (by first | rfl | exact bI_nar _) ?_
            exact ⟨rfl, R0, FY.c0 N, rfl⟩
