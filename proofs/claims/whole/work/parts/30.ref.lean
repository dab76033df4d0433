/-! The reference (keys 40 and on): RY: it holds the ghost state S -/
def RY (S : GS) (N : Mem) : Prop :=
  (N 40 1 = nI (s_n S) ∧ N 40 16 = nI (s_st S) ∧ N 40 17 = nI (s_mo S) ∧ N 40 18 = nI (s_li S) ∧ N 40 19 = nI (if s_ch S = true then s_tc S else 0) ∧ N 40 29 = nI (s_tc S) ∧ N 40 34 = nI (s_yr S)) ∧
  (∀ f, f < s_n S → N 42 f = nI (s_kd S f) ∧ N 43 f = nI (s_bd S f) ∧ N 44 f = nI (s_ps S f) ∧ N 45 f = bI (s_pt S f) ∧ N 46 f = nI (s_ff S f) ∧ N 47 f = nI (s_ft S f) ∧ N 48 f = nI (s_tf S f) ∧ N 49 f = nI (s_tt S f) ∧ N 51 f = bI (s_pr S f) ∧ N 55 f = oI (s_pl S f)) ∧
  (∀ f, f < 10 → N 50 f = s_po S f ∧ N 52 f = nI (s_wc S f) ∧ (∀ k, k < s_wc S f → N 53 (10 * f + k) = nI (s_wl S f k)) ∧ ∀ g, g < 10 → N 54 (10 * f + g) = bI (s_br S f g)) ∧
  (∀ y f, y < s_yr S → f < 10 → N 75 (10 * y + f) = oI (s_bk S y f)) ∧
  (∀ i, i < s_tc S → N 70 i = nI (s_td S i))
set_option maxRecDepth 100000 in
theorem c_X4_lies {d : Nat} {N : Mem} {K : Mej} {x y z : Int64} : CK d mX4_lies [.long x, .long y, .long z] N K (PX (some (.int (bI (decide (¬ x < y ∧ ¬ z < x))))) N K) := by
  refine CK.start [(0, _), (2, _), (4, _)] (plainFor_of_name (by decide)) (Nat.le_of_ble_eq_true rfl) rfl ?_
  refine K_lload_n dX4_lies_0 rfl rfl ?_
  refine K_lload_n dX4_lies_1 rfl rfl ?_
  refine K_lcmp dX4_lies_2 rfl ?_
  refine K_if_lt (tgt := 17) dX4_lies_3 (by decide) rfl (fun c3 => ?_) (fun c3 => ?_)
  · refine K_iconst (v := nI 0) dX4_lies_17 (by decide) rfl ?_
    refine K_zret dX4_lies_18 rfl (by first | rfl | exact bI_nar _) ?_
    refine ⟨?_, rfl, rfl⟩
    rw [lg_cmp_lt] at c3
    try rw [lg_cmp_gt] at c10
    first | (have e : decide (¬ x < y ∧ ¬ z < x) = false := decide_eq_false (fun h => h.1 c3); rw [e]; rfl) | (have e : decide (¬ x < y ∧ ¬ z < x) = false := decide_eq_false (fun h => h.2 c10); rw [e]; rfl) | (have e : decide (¬ x < y ∧ ¬ z < x) = true := decide_eq_true ⟨c3, c10⟩; rw [e]; rfl)
  · refine K_lload_n dX4_lies_6 rfl rfl ?_
    refine K_lload dX4_lies_7 rfl rfl ?_
    refine K_lcmp dX4_lies_9 rfl ?_
    refine K_if_gt (tgt := 17) dX4_lies_10 (by decide) rfl (fun c10 => ?_) (fun c10 => ?_)
    · refine K_iconst (v := nI 0) dX4_lies_17 (by decide) rfl ?_
      refine K_zret dX4_lies_18 rfl (by first | rfl | exact bI_nar _) ?_
      refine ⟨?_, rfl, rfl⟩
      rw [lg_cmp_lt] at c3
      try rw [lg_cmp_gt] at c10
      first | (have e : decide (¬ x < y ∧ ¬ z < x) = false := decide_eq_false (fun h => h.1 c3); rw [e]; rfl) | (have e : decide (¬ x < y ∧ ¬ z < x) = false := decide_eq_false (fun h => h.2 c10); rw [e]; rfl) | (have e : decide (¬ x < y ∧ ¬ z < x) = true := decide_eq_true ⟨c3, c10⟩; rw [e]; rfl)
    · refine K_iconst (v := nI 1) dX4_lies_13 (by decide) rfl ?_
      refine K_goto (tgt := 18) dX4_lies_14 (by decide) ?_
      refine K_zret dX4_lies_18 rfl (by first | rfl | exact bI_nar _) ?_
      refine ⟨?_, rfl, rfl⟩
      rw [lg_cmp_lt] at c3
      try rw [lg_cmp_gt] at c10
      first | (have e : decide (¬ x < y ∧ ¬ z < x) = false := decide_eq_false (fun h => h.1 c3); rw [e]; rfl) | (have e : decide (¬ x < y ∧ ¬ z < x) = false := decide_eq_false (fun h => h.2 c10); rw [e]; rfl) | (have e : decide (¬ x < y ∧ ¬ z < x) = true := decide_eq_true ⟨c3, c10⟩; rw [e]; rfl)
theorem isF_long {n : Nat} (hn : n ≤ 10) (x : Int32) : decide (¬ x.toInt64 < 0 ∧ ¬ (nI n - nI 1).toInt64 < x.toInt64) = isF n x := by
  unfold isF
  apply decide_eq_decide.mpr
  have h1 : (nI n - nI 1).toInt = (n : Int) - 1 := pk_sub_toInt (by omega) (by decide)
  have h0 : ((0 : Int64)).toInt = 0 := by decide
  have h00 : ((0 : Int32)).toInt = 0 := by decide
  rw [Int64.lt_iff_toInt_lt, Int64.lt_iff_toInt_lt, Int32.toInt_toInt64, Int32.toInt_toInt64, h1, h0, Int32.lt_iff_toInt_lt, Int32.le_iff_toInt_le, nI_toInt (by omega), h00]
  omega
set_option maxRecDepth 100000 in
theorem c_X4_isFamily {d : Nat} (hd : 1 ≤ d) {N : Mem} {K : Mej} {n : Nat} {x : Int32} (hn : n ≤ 10) (hN : N 40 1 = nI n) : CK d mX4_isFamily [.ref 40, .int x] N K (PX (some (.int (bI (isF n x)))) N K) := by
  rw [← isF_long hn x]
  refine CK.start [(0, _), (1, _)] (plainFor_of_name (by decide)) (Nat.le_of_ble_eq_true rfl) rfl ?_
  refine K_iload_n dX4_isFamily_0 rfl rfl ?_
  refine K_i2l dX4_isFamily_1 rfl ?_
  refine K_lconst (v := 0) dX4_isFamily_2 (by decide) rfl ?_
  refine K_aload_n dX4_isFamily_3 rfl rfl ?_
  refine K_getI dX4_isFamily_4 fl_X4_87 (by first | rfl | exact sk_rk (by omega) | exact sk_hh (by omega)) rfl (by first | assumption | rfl) rfl ?_
  refine K_iconst (v := nI 1) dX4_isFamily_7 (by decide) rfl ?_
  first | refine K_subN dX4_isFamily_8 (by first | omega | fail) rfl ?_ | refine K_isub dX4_isFamily_8 rfl ?_
  refine K_i2l dX4_isFamily_9 rfl ?_
  refine K_sv (d1 := d - 1) [_, _, _] dX4_isFamily_10 ml_X4_90 rfl rfl (Nat.le_of_ble_eq_true rfl) c_X4_lies (by omega) rfl ?_
  refine K_zret dX4_isFamily_13 rfl (by first | rfl | exact bI_nar _) ?_
  exact ⟨rfl, rfl, rfl⟩
set_option maxRecDepth 100000 in
theorem c_X4_areTwo {d : Nat} (hd : 2 ≤ d) {N : Mem} {K : Mej} {n : Nat} {x y : Int32} (hn : n ≤ 10) (hN : N 40 1 = nI n) : CK d mX4_areTwo [.ref 40, .int x, .int y] N K (PX (some (.int (bI (two n x y)))) N K) := by
  refine CK.start [(0, _), (1, _), (2, _)] (plainFor_of_name (by decide)) (Nat.le_of_ble_eq_true rfl) rfl ?_
  refine K_aload_n dX4_areTwo_0 rfl rfl ?_
  refine K_iload_n dX4_areTwo_1 rfl rfl ?_
  refine K_cv (ci := 4) (d1 := d - 1) [_] dX4_areTwo_2 ml_X4_94 (by decide) rfl rfl rfl (Nat.le_of_ble_eq_true rfl) (c_X4_isFamily (by omega) hn hN) (by omega) rfl ?_
  refine K_if_eqB (tgt := 25) dX4_areTwo_5 (by decide) rfl (fun c5 => ?_) (fun c5 => ?_)
  · refine K_iconst (v := nI 0) dX4_areTwo_25 (by decide) rfl ?_
    refine K_zret dX4_areTwo_26 rfl (by first | rfl | exact bI_nar _) ?_
    refine ⟨?_, rfl, rfl⟩
    simp_all [two]
    rfl
  · refine K_aload_n dX4_areTwo_8 rfl rfl ?_
    refine K_iload_n dX4_areTwo_9 rfl rfl ?_
    refine K_cv (ci := 4) (d1 := d - 1) [_] dX4_areTwo_10 ml_X4_94 (by decide) rfl rfl rfl (Nat.le_of_ble_eq_true rfl) (c_X4_isFamily (by omega) hn hN) (by omega) rfl ?_
    refine K_if_eqB (tgt := 25) dX4_areTwo_13 (by decide) rfl (fun c13 => ?_) (fun c13 => ?_)
    · refine K_iconst (v := nI 0) dX4_areTwo_25 (by decide) rfl ?_
      refine K_zret dX4_areTwo_26 rfl (by first | rfl | exact bI_nar _) ?_
      refine ⟨?_, rfl, rfl⟩
      simp_all [two]
      rfl
    · refine K_iload_n dX4_areTwo_16 rfl rfl ?_
      refine K_iload_n dX4_areTwo_17 rfl rfl ?_
      refine K_icmp_eq (tgt := 25) dX4_areTwo_18 (by decide) rfl (fun c18 => ?_) (fun c18 => ?_)
      · refine K_iconst (v := nI 0) dX4_areTwo_25 (by decide) rfl ?_
        refine K_zret dX4_areTwo_26 rfl (by first | rfl | exact bI_nar _) ?_
        refine ⟨?_, rfl, rfl⟩
        simp_all [two]
        rfl
      · refine K_iconst (v := nI 1) dX4_areTwo_21 (by decide) rfl ?_
        refine K_goto (tgt := 26) dX4_areTwo_22 (by decide) ?_
        refine K_zret dX4_areTwo_26 rfl (by first | rfl | exact bI_nar _) ?_
        refine ⟨?_, rfl, rfl⟩
        simp_all [two]
        rfl
theorem rkF_first {w : Nat → Nat} {g i : Nat} (h : w i = g) (h0 : ∀ j, j < i → w j ≠ g) : ∀ {c : Nat}, i < c → rkF w c g = i + 1
  | 0, hi => absurd hi (Nat.not_lt_zero i)
  | c + 1, hi => by
    have hz : ∀ {b : Nat}, (∀ j, j < b → w j ≠ g) → rkF w b g = 0 := fun {b} hb => by
      rcases Nat.eq_zero_or_pos (rkF w b g) with e | e
      · exact e
      · exact absurd (rkF_some e) (hb _ (by have := rkF_le w g b; omega))
    unfold rkF
    rcases Nat.lt_succ_iff_lt_or_eq.mp hi with hi | rfl
    · rw [rkF_first h h0 hi, if_neg (by omega)]
    · rw [hz h0, if_pos rfl, if_pos h]
theorem rkF_zero {w : Nat → Nat} {g b : Nat} (hb : ∀ j, j < b → w j ≠ g) : rkF w b g = 0 := by
  rcases Nat.eq_zero_or_pos (rkF w b g) with e | e
  · exact e
  · exact absurd (rkF_some e) (hb _ (by have := rkF_le w g b; omega))
theorem l_X4_rankOf {d : Nat} {S : GS} {N : Mem} {K : Mej} (R : RY S N) (w : WF S) {f g : Nat} (hf : f < 10) (hg : g < 10) : ∀ k i : Nat, i + k = s_wc S f → (∀ j, j < i → s_wl S f j ≠ g) → EK d mX4_rankOf (PX (some (.int (nI (s_rk S f g)))) N K) 2 [(0, .ref 40), (1, .int (nI f)), (2, .int (nI g)), (3, .int (nI i))] [] N K
  | 0, i, e, hq => by
    obtain rfl : i = s_wc S f := by omega
    have h9 := w.wc hf
    have hw := (R.2.2.1 f hf).2.1
    refine K_iload_n dX4_rankOf_2 rfl rfl ?_
    refine K_aload_n dX4_rankOf_3 rfl rfl ?_
    refine K_getR (r := 52) dX4_rankOf_4 fl_X4_41 rfl rfl rfl rfl ?_
    refine K_iload_n dX4_rankOf_7 rfl rfl ?_
    refine K_iald dX4_rankOf_8 (by first | rfl | exact sk_rk (by omega) | exact sk_hh (by omega)) (by first | omega | fail) (by decide) (by first | assumption | rfl) rfl ?_
    refine K_icmp_geN (tgt := 37) dX4_rankOf_9 (by decide) rfl (by first | omega | fail) (by first | omega | fail) (fun c9 => ?_) (fun c9 => ?_)
    · refine K_iconst (v := nI 0) dX4_rankOf_37 (by decide) rfl ?_
      refine K_iret dX4_rankOf_38 rfl ?_
      refine ⟨?_, rfl, rfl⟩
      rw [s_rk, rkF_zero hq]
    · omega
  | k + 1, i, e, hq => by
    have ih := l_X4_rankOf (d := d) (K := K) R w hf hg k (i + 1) (by omega)
    have h9 := w.wc hf
    have hw := (R.2.2.1 f hf).2.1
    have hl := (R.2.2.1 f hf).2.2.1 i (by omega)
    have hb := (w.2.2.2.1 f i hf (by omega)).1
    have hn := w.1.1
    refine K_iload_n dX4_rankOf_2 rfl rfl ?_
    refine K_aload_n dX4_rankOf_3 rfl rfl ?_
    refine K_getR (r := 52) dX4_rankOf_4 fl_X4_41 rfl rfl rfl rfl ?_
    refine K_iload_n dX4_rankOf_7 rfl rfl ?_
    refine K_iald dX4_rankOf_8 (by first | rfl | exact sk_rk (by omega) | exact sk_hh (by omega)) (by first | omega | fail) (by decide) (by first | assumption | rfl) rfl ?_
    refine K_icmp_geN (tgt := 37) dX4_rankOf_9 (by decide) rfl (by first | omega | fail) (by first | omega | fail) (fun c9 => ?_) (fun c9 => ?_)
    · omega
    · refine K_aload_n dX4_rankOf_12 rfl rfl ?_
      refine K_getR (r := 53) dX4_rankOf_13 fl_X4_44 rfl rfl rfl rfl ?_
      refine K_bipush (v := nI 10) dX4_rankOf_16 (by decide) rfl ?_
      refine K_iload_n dX4_rankOf_18 rfl rfl ?_
      refine K_mulN dX4_rankOf_19 rfl ?_
      refine K_iload_n dX4_rankOf_20 rfl rfl ?_
      refine K_addN dX4_rankOf_21 rfl ?_
      refine K_iald dX4_rankOf_22 (by first | rfl | exact sk_rk (by omega) | exact sk_hh (by omega)) (by first | omega | fail) (by decide) (by first | assumption | rfl) rfl ?_
      refine K_iload_n dX4_rankOf_23 rfl rfl ?_
      refine K_icmp_neN (tgt := 31) dX4_rankOf_24 (by decide) rfl (by first | omega | fail) (by first | omega | fail) (fun c24 => ?_) (fun c24 => ?_)
      · first | refine K_incN (lv' := [(0, _), (1, _), (2, _), (3, _)]) dX4_rankOf_31 rfl (by decide) rfl rfl ?_ | refine K_iinc (lv' := [(0, _), (1, _), (2, _), (3, _)]) dX4_rankOf_31 rfl rfl (by decide) rfl rfl ?_
        refine K_goto (tgt := 2) dX4_rankOf_34 (by decide) ?_
        exact ih (fun j hj => by rcases Nat.lt_succ_iff_lt_or_eq.mp hj with hj | rfl; exact hq j hj; exact c24)
      · refine K_iload_n dX4_rankOf_27 rfl rfl ?_
        refine K_iconst (v := nI 1) dX4_rankOf_28 (by decide) rfl ?_
        refine K_addN dX4_rankOf_29 rfl ?_
        refine K_iret dX4_rankOf_30 rfl ?_
        refine ⟨?_, rfl, rfl⟩
        rw [s_rk, rkF_first c24 hq (by omega)]
set_option maxRecDepth 100000 in
theorem c_X4_rankOf {d : Nat} {S : GS} {N : Mem} {K : Mej} (R : RY S N) (w : WF S) {f g : Nat} (hf : f < 10) (hg : g < 10) : CK d mX4_rankOf [.ref 40, .int (nI f), .int (nI g)] N K (PX (some (.int (nI (s_rk S f g)))) N K) := by
  refine CK.start [(0, _), (1, _), (2, _)] (plainFor_of_name (by decide)) (Nat.le_of_ble_eq_true rfl) rfl ?_
  refine K_iconst (v := nI 0) dX4_rankOf_0 (by decide) rfl ?_
  refine K_istore_n (lv' := [(0, _), (1, _), (2, _), (3, _)]) dX4_rankOf_1 (by decide) rfl rfl ?_
  exact l_X4_rankOf R w hf hg (s_wc S f) 0 (by omega) (fun j hj => absurd hj (Nat.not_lt_zero j))
theorem vSl_mod {kd bd : Nat} (h : kd < 4) : vSl kd bd = bd - kd % 2 := by
  unfold vSl
  split <;> omega
set_option maxRecDepth 100000 in
theorem c_X4_sleeps {d : Nat} {S : GS} {N : Mem} {K : Mej} (R : RY S N) (w : WF S) {f : Nat} (hf : f < s_n S) : CK d mX4_sleeps [.ref 40, .int (nI f)] N K (PX (some (.int (nI (s_sl S f)))) N K) := by
  obtain ⟨w1, w2, -⟩ := w.2.1 f hf
  obtain ⟨h1, h2, -⟩ := R.2.1 f hf
  have hn := w.1.1
  rw [s_sl, vSl_mod w1]
  refine CK.start [(0, _), (1, _)] (plainFor_of_name (by decide)) (Nat.le_of_ble_eq_true rfl) rfl ?_
  refine K_aload_n dX4_sleeps_0 rfl rfl ?_
  refine K_getR (r := 43) dX4_sleeps_1 fl_X4_13 rfl rfl rfl rfl ?_
  refine K_iload_n dX4_sleeps_4 rfl rfl ?_
  refine K_iald dX4_sleeps_5 (by first | rfl | exact sk_rk (by omega) | exact sk_hh (by omega)) (by first | omega | fail) (by decide) (by first | assumption | rfl) rfl ?_
  refine K_aload_n dX4_sleeps_6 rfl rfl ?_
  refine K_getR (r := 42) dX4_sleeps_7 fl_X4_9 rfl rfl rfl rfl ?_
  refine K_iload_n dX4_sleeps_10 rfl rfl ?_
  refine K_iald dX4_sleeps_11 (by first | rfl | exact sk_rk (by omega) | exact sk_hh (by omega)) (by first | omega | fail) (by decide) (by first | assumption | rfl) rfl ?_
  refine K_iconst (v := nI 2) dX4_sleeps_12 (by decide) rfl ?_
  refine K_irem dX4_sleeps_13 (by decide) rfl ?_
  rw [pk_rem (by omega) (by decide) (by decide)]
  first | refine K_subN dX4_sleeps_14 (by first | omega | fail) rfl ?_ | refine K_isub dX4_sleeps_14 rfl ?_
  refine K_iret dX4_sleeps_15 rfl ?_
  exact ⟨rfl, rfl, rfl⟩
set_option maxRecDepth 100000 in
theorem c_X4_worth {d : Nat} (hd : 1 ≤ d) {S : GS} {N : Mem} {K : Mej} (R : RY S N) (w : WF S) {f : Nat} (hf : f < s_n S) : CK d mX4_worth [.ref 40, .int (nI f)] N K (PX (some (.int (nI (s_wo S f)))) N K) := by
  obtain ⟨w1, w2, -⟩ := w.2.1 f hf
  obtain ⟨h1, h2, -⟩ := R.2.1 f hf
  have hn := w.1.1
  have e : s_wo S f = 10 * s_sl S f + (if s_kd S f = 2 then 5 else if s_kd S f = 3 then 15 else 0) := rfl
  refine CK.start [(0, _), (1, _)] (plainFor_of_name (by decide)) (Nat.le_of_ble_eq_true rfl) rfl ?_
  refine K_bipush (v := nI 10) dX4_worth_0 (by decide) rfl ?_
  refine K_aload_n dX4_worth_2 rfl rfl ?_
  refine K_iload_n dX4_worth_3 rfl rfl ?_
  refine K_cv (ci := 4) (d1 := d - 1) [_] dX4_worth_4 ml_X4_130 (by decide) rfl rfl rfl (Nat.le_of_ble_eq_true rfl) (c_X4_sleeps R w hf) (by omega) rfl ?_
  refine K_mulN dX4_worth_7 rfl ?_
  refine K_aload_n dX4_worth_8 rfl rfl ?_
  refine K_getR (r := 42) dX4_worth_9 fl_X4_9 rfl rfl rfl rfl ?_
  refine K_iload_n dX4_worth_12 rfl rfl ?_
  refine K_iald dX4_worth_13 (by first | rfl | exact sk_rk (by omega) | exact sk_hh (by omega)) (by first | omega | fail) (by decide) (by first | assumption | rfl) rfl ?_
  refine K_iconst (v := nI 2) dX4_worth_14 (by decide) rfl ?_
  refine K_icmp_neN (tgt := 22) dX4_worth_15 (by decide) rfl (by first | omega | fail) (by first | omega | fail) (fun c15 => ?_) (fun c15 => ?_)
  · refine K_aload_n dX4_worth_22 rfl rfl ?_
    refine K_getR (r := 42) dX4_worth_23 fl_X4_9 rfl rfl rfl rfl ?_
    refine K_iload_n dX4_worth_26 rfl rfl ?_
    refine K_iald dX4_worth_27 (by first | rfl | exact sk_rk (by omega) | exact sk_hh (by omega)) (by first | omega | fail) (by decide) (by first | assumption | rfl) rfl ?_
    refine K_iconst (v := nI 3) dX4_worth_28 (by decide) rfl ?_
    refine K_icmp_neN (tgt := 37) dX4_worth_29 (by decide) rfl (by first | omega | fail) (by first | omega | fail) (fun c29 => ?_) (fun c29 => ?_)
    · refine K_iconst (v := nI 0) dX4_worth_37 (by decide) rfl ?_
      refine K_addN dX4_worth_38 rfl ?_
      refine K_iret dX4_worth_39 rfl ?_
      refine ⟨?_, rfl, rfl⟩
      rw [e]
      simp_all
    · refine K_bipush (v := nI 15) dX4_worth_32 (by decide) rfl ?_
      refine K_goto (tgt := 38) dX4_worth_34 (by decide) ?_
      refine K_addN dX4_worth_38 rfl ?_
      refine K_iret dX4_worth_39 rfl ?_
      refine ⟨?_, rfl, rfl⟩
      rw [e]
      simp_all
  · refine K_iconst (v := nI 5) dX4_worth_18 (by decide) rfl ?_
    refine K_goto (tgt := 38) dX4_worth_19 (by decide) ?_
    refine K_addN dX4_worth_38 rfl ?_
    refine K_iret dX4_worth_39 rfl ?_
    refine ⟨?_, rfl, rfl⟩
    rw [e]
    simp_all
set_option maxRecDepth 100000 in
theorem c_X4_barrier {d : Nat} (hd : 1 ≤ d) {S : GS} {N : Mem} {K : Mej} (R : RY S N) (w : WF S) {f g : Nat} (hf : f < s_n S) (hg : g < s_n S) : CK d mX4_barrier [.ref 40, .int (nI f), .int (nI g)] N K (PX (some (.int (nI (s_hin S f g)))) N K) := by
  have hn := w.1.1
  obtain ⟨f1, f2, f3, f4, f5, f6, f7, f8, f9, f10⟩ := R.2.1 f hf
  obtain ⟨g1, g2, g3, g4, g5, g6, g7, g8, g9, g10⟩ := R.2.1 g hg
  obtain ⟨wf1, wf2, wf3, wf4, wf5, wf6, wf7⟩ := w.2.1 f hf
  obtain ⟨wg1, wg2, wg3, wg4, wg5, wg6, wg7⟩ := w.2.1 g hg
  have hst := R.1.2.1
  have hst2 := w.1.2.2.2.1
  have hbr := (R.2.2.1 f (by omega)).2.2.2 g (by omega)
  have hsl : s_sl S g ≤ 9 := Nat.le_trans vSl_le (by omega)
  refine CK.start [(0, _), (1, _), (2, _)] (plainFor_of_name (by decide)) (Nat.le_of_ble_eq_true rfl) rfl ?_
  refine K_aload_n dX4_barrier_0 rfl rfl ?_
  refine K_getR (r := 51) dX4_barrier_1 fl_X4_38 rfl rfl rfl rfl ?_
  refine K_iload_n dX4_barrier_4 rfl rfl ?_
  refine K_zald dX4_barrier_5 (by first | rfl | exact sk_rk (by omega) | exact sk_hh (by omega)) (by first | omega | fail) (by decide) (by first | assumption | rfl) rfl ?_
  refine K_if_eqB (tgt := 18) dX4_barrier_6 (by decide) rfl (fun c6 => ?_) (fun c6 => ?_)
  · refine K_iconst (v := nI 1) dX4_barrier_18 (by decide) rfl ?_
    refine K_iret dX4_barrier_19 rfl ?_
    refine ⟨?_, rfl, rfl⟩
    rw [s_hin, if_pos (by simp_all)]
  · refine K_aload_n dX4_barrier_9 rfl rfl ?_
    refine K_getR (r := 51) dX4_barrier_10 fl_X4_38 rfl rfl rfl rfl ?_
    refine K_iload_n dX4_barrier_13 rfl rfl ?_
    refine K_zald dX4_barrier_14 (by first | rfl | exact sk_rk (by omega) | exact sk_hh (by omega)) (by first | omega | fail) (by decide) (by first | assumption | rfl) rfl ?_
    refine K_if_neB (tgt := 20) dX4_barrier_15 (by decide) rfl (fun c15 => ?_) (fun c15 => ?_)
    · refine K_aload_n dX4_barrier_20 rfl rfl ?_
      refine K_getR (r := 54) dX4_barrier_21 fl_X4_47 rfl rfl rfl rfl ?_
      refine K_bipush (v := nI 10) dX4_barrier_24 (by decide) rfl ?_
      refine K_iload_n dX4_barrier_26 rfl rfl ?_
      refine K_mulN dX4_barrier_27 rfl ?_
      refine K_iload_n dX4_barrier_28 rfl rfl ?_
      refine K_addN dX4_barrier_29 rfl ?_
      refine K_zald dX4_barrier_30 (by first | rfl | exact sk_rk (by omega) | exact sk_hh (by omega)) (by first | omega | fail) (by decide) (by first | assumption | rfl) rfl ?_
      refine K_if_eqB (tgt := 36) dX4_barrier_31 (by decide) rfl (fun c31 => ?_) (fun c31 => ?_)
      · refine K_aload_n dX4_barrier_36 rfl rfl ?_
        refine K_getR (r := 44) dX4_barrier_37 fl_X4_16 rfl rfl rfl rfl ?_
        refine K_iload_n dX4_barrier_40 rfl rfl ?_
        refine K_iald dX4_barrier_41 (by first | rfl | exact sk_rk (by omega) | exact sk_hh (by omega)) (by first | omega | fail) (by decide) (by first | assumption | rfl) rfl ?_
        refine K_aload_n dX4_barrier_42 rfl rfl ?_
        refine K_iload_n dX4_barrier_43 rfl rfl ?_
        refine K_cv (ci := 4) (d1 := d - 1) [_] dX4_barrier_44 ml_X4_130 (by decide) rfl rfl rfl (Nat.le_of_ble_eq_true rfl) (c_X4_sleeps R w hg) (by omega) rfl ?_
        refine K_icmp_leN (tgt := 52) dX4_barrier_47 (by decide) rfl (by first | omega | fail) (by first | omega | fail) (fun c47 => ?_) (fun c47 => ?_)
        · refine K_aload_n dX4_barrier_52 rfl rfl ?_
          refine K_getR (r := 45) dX4_barrier_53 fl_X4_19 rfl rfl rfl rfl ?_
          refine K_iload_n dX4_barrier_56 rfl rfl ?_
          refine K_zald dX4_barrier_57 (by first | rfl | exact sk_rk (by omega) | exact sk_hh (by omega)) (by first | omega | fail) (by decide) (by first | assumption | rfl) rfl ?_
          refine K_if_eqB (tgt := 73) dX4_barrier_58 (by decide) rfl (fun c58 => ?_) (fun c58 => ?_)
          · refine K_aload_n dX4_barrier_73 rfl rfl ?_
            refine K_getR (r := 49) dX4_barrier_74 fl_X4_32 rfl rfl rfl rfl ?_
            refine K_iload_n dX4_barrier_77 rfl rfl ?_
            refine K_iald dX4_barrier_78 (by first | rfl | exact sk_rk (by omega) | exact sk_hh (by omega)) (by first | omega | fail) (by decide) (by first | assumption | rfl) rfl ?_
            refine K_aload_n dX4_barrier_79 rfl rfl ?_
            refine K_getR (r := 47) dX4_barrier_80 fl_X4_26 rfl rfl rfl rfl ?_
            refine K_iload_n dX4_barrier_83 rfl rfl ?_
            refine K_iald dX4_barrier_84 (by first | rfl | exact sk_rk (by omega) | exact sk_hh (by omega)) (by first | omega | fail) (by decide) (by first | assumption | rfl) rfl ?_
            refine K_sv (d1 := d - 1) [_, _] dX4_barrier_85 ml_X4_134 rfl rfl (Nat.le_of_ble_eq_true rfl) (c_J9_min_7cf53 (by omega) (by omega)) (by omega) rfl ?_
            refine K_aload_n dX4_barrier_88 rfl rfl ?_
            refine K_getR (r := 48) dX4_barrier_89 fl_X4_29 rfl rfl rfl rfl ?_
            refine K_iload_n dX4_barrier_92 rfl rfl ?_
            refine K_iald dX4_barrier_93 (by first | rfl | exact sk_rk (by omega) | exact sk_hh (by omega)) (by first | omega | fail) (by decide) (by first | assumption | rfl) rfl ?_
            refine K_aload_n dX4_barrier_94 rfl rfl ?_
            refine K_getR (r := 46) dX4_barrier_95 fl_X4_23 rfl rfl rfl rfl ?_
            refine K_iload_n dX4_barrier_98 rfl rfl ?_
            refine K_iald dX4_barrier_99 (by first | rfl | exact sk_rk (by omega) | exact sk_hh (by omega)) (by first | omega | fail) (by decide) (by first | assumption | rfl) rfl ?_
            refine K_sv (d1 := d - 1) [_, _] dX4_barrier_100 ml_X4_139 rfl rfl (Nat.le_of_ble_eq_true rfl) (c_J9_max_7cf53 (by omega) (by omega)) (by omega) rfl ?_
            refine K_isub dX4_barrier_103 rfl ?_
            refine K_iconst (v := nI 1) dX4_barrier_104 (by decide) rfl ?_
            refine K_iadd dX4_barrier_105 rfl ?_
            refine K_istore_n (lv' := [(0, _), (1, _), (2, _), (3, _)]) dX4_barrier_106 (by decide) rfl rfl ?_
            refine K_iload_n dX4_barrier_107 rfl rfl ?_
            refine K_aload_n dX4_barrier_108 rfl rfl ?_
            refine K_getI dX4_barrier_109 fl_X4_53 (by first | rfl | exact sk_rk (by omega) | exact sk_hh (by omega)) rfl (by first | assumption | rfl) rfl ?_
            refine K_icmp_ge (tgt := 119) dX4_barrier_112 (by decide) rfl (fun c112 => ?_) (fun c112 => ?_)
            · refine K_iconst (v := nI 0) dX4_barrier_119 (by decide) rfl ?_
              refine K_iret dX4_barrier_120 rfl ?_
              refine ⟨?_, rfl, rfl⟩
              rw [wk_le (by omega) (by omega) (by omega)] at c112
              rw [s_hin, if_neg (by simp_all), if_neg (by rw [c31]; decide), if_neg (by omega), if_neg (fun z => by first | (exact absurd z.2 (by rw [vPe, decide_eq_true (by omega)]; decide)) | (rw [c58] at z; exact absurd z.1 (by decide)))]
              first | rw [if_neg (by omega)] | rw [if_pos (by omega)]
            · refine K_iconst (v := nI 5) dX4_barrier_115 (by decide) rfl ?_
              refine K_goto (tgt := 120) dX4_barrier_116 (by decide) ?_
              refine K_iret dX4_barrier_120 rfl ?_
              refine ⟨?_, rfl, rfl⟩
              rw [wk_le (by omega) (by omega) (by omega)] at c112
              rw [s_hin, if_neg (by simp_all), if_neg (by rw [c31]; decide), if_neg (by omega), if_neg (fun z => by first | (exact absurd z.2 (by rw [vPe, decide_eq_true (by omega)]; decide)) | (rw [c58] at z; exact absurd z.1 (by decide)))]
              first | rw [if_neg (by omega)] | rw [if_pos (by omega)]
          · refine K_aload_n dX4_barrier_61 rfl rfl ?_
            refine K_getR (r := 42) dX4_barrier_62 fl_X4_9 rfl rfl rfl rfl ?_
            refine K_iload_n dX4_barrier_65 rfl rfl ?_
            refine K_iald dX4_barrier_66 (by first | rfl | exact sk_rk (by omega) | exact sk_hh (by omega)) (by first | omega | fail) (by decide) (by first | assumption | rfl) rfl ?_
            refine K_iconst (v := nI 2) dX4_barrier_67 (by decide) rfl ?_
            refine K_icmp_geN (tgt := 73) dX4_barrier_68 (by decide) rfl (by first | omega | fail) (by first | omega | fail) (fun c68 => ?_) (fun c68 => ?_)
            · refine K_aload_n dX4_barrier_73 rfl rfl ?_
              refine K_getR (r := 49) dX4_barrier_74 fl_X4_32 rfl rfl rfl rfl ?_
              refine K_iload_n dX4_barrier_77 rfl rfl ?_
              refine K_iald dX4_barrier_78 (by first | rfl | exact sk_rk (by omega) | exact sk_hh (by omega)) (by first | omega | fail) (by decide) (by first | assumption | rfl) rfl ?_
              refine K_aload_n dX4_barrier_79 rfl rfl ?_
              refine K_getR (r := 47) dX4_barrier_80 fl_X4_26 rfl rfl rfl rfl ?_
              refine K_iload_n dX4_barrier_83 rfl rfl ?_
              refine K_iald dX4_barrier_84 (by first | rfl | exact sk_rk (by omega) | exact sk_hh (by omega)) (by first | omega | fail) (by decide) (by first | assumption | rfl) rfl ?_
              refine K_sv (d1 := d - 1) [_, _] dX4_barrier_85 ml_X4_134 rfl rfl (Nat.le_of_ble_eq_true rfl) (c_J9_min_7cf53 (by omega) (by omega)) (by omega) rfl ?_
              refine K_aload_n dX4_barrier_88 rfl rfl ?_
              refine K_getR (r := 48) dX4_barrier_89 fl_X4_29 rfl rfl rfl rfl ?_
              refine K_iload_n dX4_barrier_92 rfl rfl ?_
              refine K_iald dX4_barrier_93 (by first | rfl | exact sk_rk (by omega) | exact sk_hh (by omega)) (by first | omega | fail) (by decide) (by first | assumption | rfl) rfl ?_
              refine K_aload_n dX4_barrier_94 rfl rfl ?_
              refine K_getR (r := 46) dX4_barrier_95 fl_X4_23 rfl rfl rfl rfl ?_
              refine K_iload_n dX4_barrier_98 rfl rfl ?_
              refine K_iald dX4_barrier_99 (by first | rfl | exact sk_rk (by omega) | exact sk_hh (by omega)) (by first | omega | fail) (by decide) (by first | assumption | rfl) rfl ?_
              refine K_sv (d1 := d - 1) [_, _] dX4_barrier_100 ml_X4_139 rfl rfl (Nat.le_of_ble_eq_true rfl) (c_J9_max_7cf53 (by omega) (by omega)) (by omega) rfl ?_
              refine K_isub dX4_barrier_103 rfl ?_
              refine K_iconst (v := nI 1) dX4_barrier_104 (by decide) rfl ?_
              refine K_iadd dX4_barrier_105 rfl ?_
              refine K_istore_n (lv' := [(0, _), (1, _), (2, _), (3, _)]) dX4_barrier_106 (by decide) rfl rfl ?_
              refine K_iload_n dX4_barrier_107 rfl rfl ?_
              refine K_aload_n dX4_barrier_108 rfl rfl ?_
              refine K_getI dX4_barrier_109 fl_X4_53 (by first | rfl | exact sk_rk (by omega) | exact sk_hh (by omega)) rfl (by first | assumption | rfl) rfl ?_
              refine K_icmp_ge (tgt := 119) dX4_barrier_112 (by decide) rfl (fun c112 => ?_) (fun c112 => ?_)
              · refine K_iconst (v := nI 0) dX4_barrier_119 (by decide) rfl ?_
                refine K_iret dX4_barrier_120 rfl ?_
                refine ⟨?_, rfl, rfl⟩
                rw [wk_le (by omega) (by omega) (by omega)] at c112
                rw [s_hin, if_neg (by simp_all), if_neg (by rw [c31]; decide), if_neg (by omega), if_neg (fun z => by first | (exact absurd z.2 (by rw [vPe, decide_eq_true (by omega)]; decide)) | (rw [c58] at z; exact absurd z.1 (by decide)))]
                first | rw [if_neg (by omega)] | rw [if_pos (by omega)]
              · refine K_iconst (v := nI 5) dX4_barrier_115 (by decide) rfl ?_
                refine K_goto (tgt := 120) dX4_barrier_116 (by decide) ?_
                refine K_iret dX4_barrier_120 rfl ?_
                refine ⟨?_, rfl, rfl⟩
                rw [wk_le (by omega) (by omega) (by omega)] at c112
                rw [s_hin, if_neg (by simp_all), if_neg (by rw [c31]; decide), if_neg (by omega), if_neg (fun z => by first | (exact absurd z.2 (by rw [vPe, decide_eq_true (by omega)]; decide)) | (rw [c58] at z; exact absurd z.1 (by decide)))]
                first | rw [if_neg (by omega)] | rw [if_pos (by omega)]
            · refine K_iconst (v := nI 4) dX4_barrier_71 (by decide) rfl ?_
              refine K_iret dX4_barrier_72 rfl ?_
              refine ⟨?_, rfl, rfl⟩
              rw [s_hin, if_neg (by simp_all), if_neg (by rw [c31]; decide), if_neg (by omega), if_pos ⟨c58, decide_eq_false (by omega)⟩]
        · refine K_iconst (v := nI 3) dX4_barrier_50 (by decide) rfl ?_
          refine K_iret dX4_barrier_51 rfl ?_
          refine ⟨?_, rfl, rfl⟩
          rw [s_hin, if_neg (by simp_all), if_neg (by rw [c31]; decide), if_pos (by omega)]
      · refine K_iconst (v := nI 2) dX4_barrier_34 (by decide) rfl ?_
        refine K_iret dX4_barrier_35 rfl ?_
        refine ⟨?_, rfl, rfl⟩
        rw [s_hin, if_neg (by simp_all), if_pos c31]
    · refine K_iconst (v := nI 1) dX4_barrier_18 (by decide) rfl ?_
      refine K_iret dX4_barrier_19 rfl ?_
      refine ⟨?_, rfl, rfl⟩
      rw [s_hin, if_pos (by simp_all)]
set_option maxRecDepth 100000 in
theorem c_X4_takes {d : Nat} (hd : 2 ≤ d) {S : GS} {N : Mem} {K : Mej} (R : RY S N) (w : WF S) {f g : Nat} (hf : f < s_n S) (hg : g < s_n S) : CK d mX4_takes [.ref 40, .int (nI f), .int (nI g)] N K (PX (some (.int (bI (s_tk S f g)))) N K) := by
  have hn := w.1.1
  have hr9 := w.rk9 (f := f) (by omega) g
  have hh := s_hin_lt S f g
  refine CK.start [(0, _), (1, _), (2, _)] (plainFor_of_name (by decide)) (Nat.le_of_ble_eq_true rfl) rfl ?_
  refine K_aload_n dX4_takes_0 rfl rfl ?_
  refine K_iload_n dX4_takes_1 rfl rfl ?_
  refine K_iload_n dX4_takes_2 rfl rfl ?_
  refine K_cv (ci := 4) (d1 := d - 1) [_, _] dX4_takes_3 ml_X4_111 (by decide) rfl rfl rfl (Nat.le_of_ble_eq_true rfl) (c_X4_rankOf R w (by omega) (by omega)) (by omega) rfl ?_
  refine K_if_leN (tgt := 22) dX4_takes_6 (by decide) rfl (by first | omega | fail) (fun c6 => ?_) (fun c6 => ?_)
  · refine K_iconst (v := nI 0) dX4_takes_22 (by decide) rfl ?_
    refine K_zret dX4_takes_23 rfl (by first | rfl | exact bI_nar _) ?_
    refine ⟨?_, rfl, rfl⟩
    simp only [s_tk]
    first | rw [decide_eq_true ⟨c6, c15⟩]; rfl | rw [decide_eq_false (fun h => c15 h.2)]; rfl | rw [decide_eq_false (fun h => absurd h.1 (by omega))]; rfl
  · refine K_aload_n dX4_takes_9 rfl rfl ?_
    refine K_iload_n dX4_takes_10 rfl rfl ?_
    refine K_iload_n dX4_takes_11 rfl rfl ?_
    refine K_cv (ci := 4) (d1 := d - 1) [_, _] dX4_takes_12 ml_X4_142 (by decide) rfl rfl rfl (Nat.le_of_ble_eq_true rfl) (c_X4_barrier (by omega) R w hf hg) (by omega) rfl ?_
    refine K_if_neN (tgt := 22) dX4_takes_15 (by decide) rfl (by first | omega | fail) (fun c15 => ?_) (fun c15 => ?_)
    · refine K_iconst (v := nI 0) dX4_takes_22 (by decide) rfl ?_
      refine K_zret dX4_takes_23 rfl (by first | rfl | exact bI_nar _) ?_
      refine ⟨?_, rfl, rfl⟩
      simp only [s_tk]
      first | rw [decide_eq_true ⟨c6, c15⟩]; rfl | rw [decide_eq_false (fun h => c15 h.2)]; rfl | rw [decide_eq_false (fun h => absurd h.1 (by omega))]; rfl
    · refine K_iconst (v := nI 1) dX4_takes_18 (by decide) rfl ?_
      refine K_goto (tgt := 23) dX4_takes_19 (by decide) ?_
      refine K_zret dX4_takes_23 rfl (by first | rfl | exact bI_nar _) ?_
      refine ⟨?_, rfl, rfl⟩
      simp only [s_tk]
      first | rw [decide_eq_true ⟨c6, c15⟩]; rfl | rw [decide_eq_false (fun h => c15 h.2)]; rfl | rw [decide_eq_false (fun h => absurd h.1 (by omega))]; rfl
set_option maxRecDepth 100000 in
theorem c_X4_goesAtAll {d : Nat} {S : GS} {N : Mem} {K : Mej} (R : RY S N) (w : WF S) {f : Nat} (hf : f < s_n S) : CK d mX4_goesAtAll [.ref 40, .int (nI f)] N K (PX (some (.int (bI (s_go S f)))) N K) := by
  have hn := w.1.1
  have hp := (R.2.1 f hf).2.2.2.2.2.2.2.2.2
  have hob := w.plb (f := f) (by omega)
  refine CK.start [(0, _), (1, _)] (plainFor_of_name (by decide)) (Nat.le_of_ble_eq_true rfl) rfl ?_
  refine K_aload_n dX4_goesAtAll_0 rfl rfl ?_
  refine K_getR (r := 55) dX4_goesAtAll_1 fl_X4_50 rfl rfl rfl rfl ?_
  refine K_iload_n dX4_goesAtAll_4 rfl rfl ?_
  refine K_iald dX4_goesAtAll_5 (by first | rfl | exact sk_rk (by omega) | exact sk_hh (by omega)) (by first | omega | fail) (by decide) (by first | assumption | rfl) rfl ?_
  refine K_if_ltO (tgt := 13) dX4_goesAtAll_6 (by decide) rfl (by first | assumption | fail) (fun c6 => ?_) (fun c6 => ?_)
  · refine K_iconst (v := nI 0) dX4_goesAtAll_13 (by decide) rfl ?_
    refine K_zret dX4_goesAtAll_14 rfl (by first | rfl | exact bI_nar _) ?_
    refine ⟨?_, rfl, rfl⟩
    first | (rw [go_f c6]; rfl) | (rw [go_t c6]; rfl)
  · refine K_iconst (v := nI 1) dX4_goesAtAll_9 (by decide) rfl ?_
    refine K_goto (tgt := 14) dX4_goesAtAll_10 (by decide) ?_
    refine K_zret dX4_goesAtAll_14 rfl (by first | rfl | exact bI_nar _) ?_
    refine ⟨?_, rfl, rfl⟩
    first | (rw [go_f c6]; rfl) | (rw [go_t c6]; rfl)
theorem l_X4_guest {d : Nat} {S : GS} {N : Mem} {K : Mej} (R : RY S N) (w : WF S) {h : Nat} (hh : h < 10) : ∀ k i : Nat, i + k = s_n S → (∀ j, j < i → s_pl S j ≠ some h) → EK d mX4_guest (PX (some (.int (oI (s_gu S h)))) N K) 2 [(0, .ref 40), (1, .int (nI h)), (2, .int (nI i))] [] N K
  | 0, i, e, hq => by
    obtain rfl : i = s_n S := by omega
    have hn := w.1.1
    have h0 := R.1.1
    refine K_iload_n dX4_guest_2 rfl rfl ?_
    refine K_aload_n dX4_guest_3 rfl rfl ?_
    refine K_getI dX4_guest_4 fl_X4_87 (by first | rfl | exact sk_rk (by omega) | exact sk_hh (by omega)) rfl (by first | assumption | rfl) rfl ?_
    refine K_icmp_geN (tgt := 28) dX4_guest_7 (by decide) rfl (by first | omega | fail) (by first | omega | fail) (fun c7 => ?_) (fun c7 => ?_)
    · refine K_iconst (v := (-1)) dX4_guest_28 (by decide) rfl ?_
      refine K_iret dX4_guest_29 rfl ?_
      refine ⟨?_, rfl, rfl⟩
      rw [s_gu, fnd_none (fun j hj => decide_eq_false (hq j hj))]
      rfl
    · omega
  | k + 1, i, e, hq => by
    have ih := l_X4_guest (d := d) (K := K) R w hh k (i + 1) (by omega)
    have hn := w.1.1
    have h0 := R.1.1
    have hp := (R.2.1 i (by omega)).2.2.2.2.2.2.2.2.2
    have hob := w.plb (f := i) (by omega)
    refine K_iload_n dX4_guest_2 rfl rfl ?_
    refine K_aload_n dX4_guest_3 rfl rfl ?_
    refine K_getI dX4_guest_4 fl_X4_87 (by first | rfl | exact sk_rk (by omega) | exact sk_hh (by omega)) rfl (by first | assumption | rfl) rfl ?_
    refine K_icmp_geN (tgt := 28) dX4_guest_7 (by decide) rfl (by first | omega | fail) (by first | omega | fail) (fun c7 => ?_) (fun c7 => ?_)
    · omega
    · refine K_aload_n dX4_guest_10 rfl rfl ?_
      refine K_getR (r := 55) dX4_guest_11 fl_X4_50 rfl rfl rfl rfl ?_
      refine K_iload_n dX4_guest_14 rfl rfl ?_
      refine K_iald dX4_guest_15 (by first | rfl | exact sk_rk (by omega) | exact sk_hh (by omega)) (by first | omega | fail) (by decide) (by first | assumption | rfl) rfl ?_
      refine K_iload_n dX4_guest_16 rfl rfl ?_
      refine K_icmp_neON (tgt := 22) dX4_guest_17 (by decide) rfl (by first | assumption | fail) (by first | omega | fail) (fun c17 => ?_) (fun c17 => ?_)
      · first | refine K_incN (lv' := [(0, _), (1, _), (2, _)]) dX4_guest_22 rfl (by decide) rfl rfl ?_ | refine K_iinc (lv' := [(0, _), (1, _), (2, _)]) dX4_guest_22 rfl rfl (by decide) rfl rfl ?_
        refine K_goto (tgt := 2) dX4_guest_25 (by decide) ?_
        exact ih (fun j hj => by rcases Nat.lt_succ_iff_lt_or_eq.mp hj with hj | rfl; exact hq j hj; exact c17)
      · refine K_iload_n dX4_guest_20 rfl rfl ?_
        refine K_iret dX4_guest_21 rfl ?_
        refine ⟨?_, rfl, rfl⟩
        rw [s_gu, fnd_first (i := i) (decide_eq_true c17) (fun j hj => decide_eq_false (hq j hj)) (by omega)]
        rfl
set_option maxRecDepth 100000 in
theorem c_X4_guest {d : Nat} {S : GS} {N : Mem} {K : Mej} (R : RY S N) (w : WF S) {h : Nat} (hh : h < 10) : CK d mX4_guest [.ref 40, .int (nI h)] N K (PX (some (.int (oI (s_gu S h)))) N K) := by
  refine CK.start [(0, _), (1, _)] (plainFor_of_name (by decide)) (Nat.le_of_ble_eq_true rfl) rfl ?_
  refine K_iconst (v := nI 0) dX4_guest_0 (by decide) rfl ?_
  refine K_istore_n (lv' := [(0, _), (1, _), (2, _)]) dX4_guest_1 (by decide) rfl rfl ?_
  exact l_X4_guest R w hh (s_n S) 0 (by omega) (fun j hj => absurd hj (Nat.not_lt_zero j))
