set_option maxRecDepth 100000 in
theorem c_X4_wants {d : Nat} {N : Mem} {K : Mej} {f g c : Nat} (hf : f < 10) (hc : c ≤ 9) (h : N 52 f = nI c) : CK d mX4_wants [.ref 40, .int (nI f), .int (nI g)] N K (PX none (sM (sM N 53 (10 * f + c) (nI g)) 52 f (nI (c + 1))) K) := by
  have h2 : sM N 53 (10 * f + c) (nI g) 52 f = nI c := by
    rw [sM_row (by decide)]
    exact h
  refine CK.start [(0, _), (1, _), (2, _)] (plainFor_of_name (by decide)) (Nat.le_of_ble_eq_true rfl) rfl ?_
  refine K_aload_n dX4_wants_0 rfl rfl ?_
  refine K_getR (r := 53) dX4_wants_1 fl_X4_44 rfl rfl rfl rfl ?_
  refine K_bipush (v := nI 10) dX4_wants_4 (by decide) rfl ?_
  refine K_iload_n dX4_wants_6 rfl rfl ?_
  refine K_mulN dX4_wants_7 rfl ?_
  refine K_aload_n dX4_wants_8 rfl rfl ?_
  refine K_getR (r := 52) dX4_wants_9 fl_X4_41 rfl rfl rfl rfl ?_
  refine K_iload_n dX4_wants_12 rfl rfl ?_
  refine K_iald dX4_wants_13 (by first | rfl | exact sk_rk (by omega) | exact sk_hh (by omega)) (by first | omega | fail) (by decide) (by first | assumption | rfl) rfl ?_
  refine K_addN dX4_wants_14 rfl ?_
  refine K_iload_n dX4_wants_15 rfl rfl ?_
  refine K_iast dX4_wants_16 (by first | rfl | exact sk_rk (by omega) | exact sk_hh (by omega)) (by first | omega | fail) (by decide) rfl ?_
  refine K_aload_n dX4_wants_17 rfl rfl ?_
  refine K_getR (r := 52) dX4_wants_18 fl_X4_41 rfl rfl rfl rfl ?_
  refine K_iload_n dX4_wants_21 rfl rfl ?_
  refine K_dup2 dX4_wants_22 rfl rfl rfl ?_
  refine K_iald dX4_wants_23 (by first | rfl | exact sk_rk (by omega) | exact sk_hh (by omega)) (by first | omega | fail) (by decide) (by first | assumption | rfl) rfl ?_
  refine K_iconst (v := nI 1) dX4_wants_24 (by decide) rfl ?_
  refine K_addN dX4_wants_25 rfl ?_
  refine K_iast dX4_wants_26 (by first | rfl | exact sk_rk (by omega) | exact sk_hh (by omega)) (by first | omega | fail) (by decide) rfl ?_
  refine K_ret dX4_wants_27 rfl ?_
  exact ⟨rfl, rfl, rfl⟩
theorem RY.wish {S : GS} {N : Mem} (R : RY S N) {f g : Nat} (hf : f < 10) (hc : ∀ f2, f2 < 10 → s_wc S f2 ≤ 9) : RY (addW S f g) (sM (sM N 53 (10 * f + s_wc S f) (nI g)) 52 f (nI (s_wc S f + 1))) := by
  have e0 : ∀ k i, k ≠ 8 → k < 20 → (addW S f g).1 k i = S.1 k i := fun k i h1 h2 => addW_at h1 h2
  refine ⟨?_, fun f2 hf2 => ?_, fun f2 hf2 => ?_, fun y f2 hy hf2 => ?_, fun i hi => ?_⟩
  · obtain ⟨a1, a2, a3, a4, a5, a6, a7⟩ := R.1
    exact ⟨a1.trans (congrArg nI (e0 0 0 (by decide) (by decide)).symm), a2.trans (congrArg nI (e0 0 1 (by decide) (by decide)).symm), a3.trans (congrArg nI (e0 0 2 (by decide) (by decide)).symm), a4.trans (congrArg nI (e0 0 3 (by decide) (by decide)).symm), a5.trans (by rw [show s_tc (addW S f g) = s_tc S from e0 0 5 (by decide) (by decide)]; rfl), a6.trans (congrArg nI (e0 0 5 (by decide) (by decide)).symm), a7.trans (congrArg nI (e0 0 4 (by decide) (by decide)).symm)⟩
  · rw [addW_n] at hf2
    obtain ⟨b1, b2, b3, b4, b5, b6, b7, b8, b9, b10⟩ := R.2.1 f2 hf2
    exact ⟨b1.trans (congrArg nI (e0 1 f2 (by decide) (by decide)).symm), b2.trans (congrArg nI (e0 2 f2 (by decide) (by decide)).symm), b3.trans (congrArg nI (e0 3 f2 (by decide) (by decide)).symm), b4, b5.trans (congrArg nI (e0 4 f2 (by decide) (by decide)).symm), b6.trans (congrArg nI (e0 5 f2 (by decide) (by decide)).symm), b7.trans (congrArg nI (e0 6 f2 (by decide) (by decide)).symm), b8.trans (congrArg nI (e0 7 f2 (by decide) (by decide)).symm), b9, b10⟩
  · obtain ⟨c1, c2, c3, c4⟩ := R.2.2.1 f2 hf2
    have hc2 := hc f2 hf2
    have hcf := hc f hf
    refine ⟨c1, ?_, fun k hk => ?_, c4⟩
    · rw [addW_wc, sM_at]
      by_cases e : f2 = f
      · rw [if_pos ⟨rfl, e⟩, if_pos e]
      · rw [if_neg (fun z => e z.2), if_neg e, sM_row (by decide)]
        exact c2
    · rw [addW_wc] at hk
      rw [addW_wl, sM_row (by decide), sM_at]
      by_cases e : f2 = f
      · subst e
        rw [if_pos rfl] at hk
        by_cases e2 : k = s_wc S f2
        · rw [if_pos ⟨rfl, by omega⟩, if_pos ⟨rfl, e2⟩]
        · rw [if_neg (by omega), if_neg (fun z => e2 z.2)]
          exact c3 k (by omega)
      · rw [if_neg e] at hk
        rw [if_neg (by omega), if_neg (fun z => e z.1)]
        exact c3 k hk
  · have hy2 : y < s_yr S := by
      have : s_yr (addW S f g) = s_yr S := e0 0 4 (by decide) (by decide)
      omega
    exact R.2.2.2.1 y f2 hy2 hf2
  · have hi2 : i < s_tc S := by
      have : s_tc (addW S f g) = s_tc S := e0 0 5 (by decide) (by decide)
      omega
    exact (R.2.2.2.2 i hi2).trans (congrArg nI (e0 9 i (by decide) (by decide)).symm)
set_option maxRecDepth 100000 in
theorem c_X4_wish {d : Nat} (hd : 3 ≤ d) {S : GS} {N : Mem} {K : Mej} (R : RY S N) (w : WF S) {x y : Int32} : CK d mX4_wish [.ref 40, .int x, .int y] N K (PRY (o_wish S x y).1 (o_wish S x y).2 N K) := by
  have hn := w.1.1
  have R0 := R.c0
  have w0 := w.c0
  have h7 : sM (sM N 40 0 (nI 0)) 40 19 (nI 0) 40 1 = nI (s_n S) := R0.1.1
  cases ht : two (s_n S) x y with
  | false =>
    have hcb : cbw S x y = false := by rw [cbw, ht]; rfl
    refine CK.start [(0, _), (1, _), (2, _)] (plainFor_of_name (by decide)) (Nat.le_of_ble_eq_true rfl) rfl ?_
    refine K_aload_n dX4_wish_0 rfl rfl ?_
    refine K_iconst (v := nI 0) dX4_wish_1 (by decide) rfl ?_
    refine K_putI dX4_wish_2 fl_X4_84 (by first | rfl | exact sk_rk (by omega) | exact sk_hh (by omega)) rfl rfl rfl rfl ?_
    refine K_aload_n dX4_wish_5 rfl rfl ?_
    refine K_iconst (v := nI 0) dX4_wish_6 (by decide) rfl ?_
    refine K_putI dX4_wish_7 fl_X4_98 (by first | rfl | exact sk_rk (by omega) | exact sk_hh (by omega)) rfl rfl rfl rfl ?_
    refine K_aload_n dX4_wish_10 rfl rfl ?_
    refine K_iload_n dX4_wish_11 rfl rfl ?_
    refine K_iload_n dX4_wish_12 rfl rfl ?_
    refine K_cv (ci := 4) (d1 := d - 1) [_, _] dX4_wish_13 ml_X4_107 (by decide) rfl rfl rfl (Nat.le_of_ble_eq_true rfl) (c_X4_areTwo (by omega) hn h7) (by omega) rfl ?_
    refine K_if_eqB (tgt := 28) dX4_wish_16 (by decide) rfl (fun c16 => ?_) (fun c16 => ?_)
    · refine K_iconst (v := (-1)) dX4_wish_28 (by decide) rfl ?_
      refine K_iret dX4_wish_29 rfl ?_
      rw [o_wish, hcb]
      exact ⟨rfl, R0, FY.c0 N, rfl⟩
    · rw [ht] at c16; cases c16
  | true =>
    obtain ⟨f, g, hf, hg, hfg, rfl, rfl⟩ := (two_iff hn).mp ht
    have h9 := w.rk9 (f := f) (by omega) g
    have hwc := w.wc (f := f) (by omega)
    have hrk : CK (d - 1) mX4_rankOf [.ref 40, .int (nI f), .int (nI g)] (sM (sM N 40 0 (nI 0)) 40 19 (nI 0)) K (PX (some (.int (nI (s_rk S f g)))) (sM (sM N 40 0 (nI 0)) 40 19 (nI 0)) K) := c_X4_rankOf (S := gC S) R0 w0 (by omega) (by omega)
    have hw : sM (sM N 40 0 (nI 0)) 40 19 (nI 0) 52 f = nI (s_wc S f) := (R0.2.2.1 f (by omega)).2.1
    have R1 := R0.wish (f := f) (g := g) (by omega) (fun f2 h => w0.wc h)
    have hw2 : sM (sM (sM (sM N 40 0 (nI 0)) 40 19 (nI 0)) 53 (10 * f + s_wc S f) (nI g)) 52 f (nI (s_wc S f + 1)) 52 f = nI (s_wc S f + 1) := sM_eq _ _ _ _
    have hcb : cbw S (nI f) (nI g) = decide (s_rk S f g = 0) := by rw [cbw, ht, nI_clamp (by omega), nI_clamp (by omega)]; rfl
    refine CK.start [(0, _), (1, _), (2, _)] (plainFor_of_name (by decide)) (Nat.le_of_ble_eq_true rfl) rfl ?_
    refine K_aload_n dX4_wish_0 rfl rfl ?_
    refine K_iconst (v := nI 0) dX4_wish_1 (by decide) rfl ?_
    refine K_putI dX4_wish_2 fl_X4_84 (by first | rfl | exact sk_rk (by omega) | exact sk_hh (by omega)) rfl rfl rfl rfl ?_
    refine K_aload_n dX4_wish_5 rfl rfl ?_
    refine K_iconst (v := nI 0) dX4_wish_6 (by decide) rfl ?_
    refine K_putI dX4_wish_7 fl_X4_98 (by first | rfl | exact sk_rk (by omega) | exact sk_hh (by omega)) rfl rfl rfl rfl ?_
    refine K_aload_n dX4_wish_10 rfl rfl ?_
    refine K_iload_n dX4_wish_11 rfl rfl ?_
    refine K_iload_n dX4_wish_12 rfl rfl ?_
    refine K_cv (ci := 4) (d1 := d - 1) [_, _] dX4_wish_13 ml_X4_107 (by decide) rfl rfl rfl (Nat.le_of_ble_eq_true rfl) (c_X4_areTwo (by omega) hn h7) (by omega) rfl ?_
    refine K_if_eqB (tgt := 28) dX4_wish_16 (by decide) rfl (fun c16 => ?_) (fun c16 => ?_)
    · rw [ht] at c16; cases c16
    · refine K_aload_n dX4_wish_19 rfl rfl ?_
      refine K_iload_n dX4_wish_20 rfl rfl ?_
      refine K_iload_n dX4_wish_21 rfl rfl ?_
      refine K_cv (ci := 4) (d1 := d - 1) [_, _] dX4_wish_22 ml_X4_111 (by decide) rfl rfl rfl (Nat.le_of_ble_eq_true rfl) hrk (by omega) rfl ?_
      refine K_if_leN (tgt := 30) dX4_wish_25 (by decide) rfl (by first | omega | fail) (fun c25 => ?_) (fun c25 => ?_)
      · refine K_aload_n dX4_wish_30 rfl rfl ?_
        refine K_iload_n dX4_wish_31 rfl rfl ?_
        refine K_iload_n dX4_wish_32 rfl rfl ?_
        refine K_c0 (ci := 4) (d1 := d - 1) [_, _] dX4_wish_33 ml_X4_115 (by decide) rfl rfl rfl (Nat.le_of_ble_eq_true rfl) (c_X4_wants (by omega) hwc hw) (by omega) rfl ?_
        refine K_aload_n dX4_wish_36 rfl rfl ?_
        refine K_getR (r := 52) dX4_wish_37 fl_X4_41 rfl rfl rfl rfl ?_
        refine K_iload_n dX4_wish_40 rfl rfl ?_
        refine K_iald dX4_wish_41 (by first | rfl | exact sk_rk (by omega) | exact sk_hh (by omega)) (by first | omega | fail) (by decide) (by first | assumption | rfl) rfl ?_
        refine K_iret dX4_wish_42 rfl ?_
        rw [o_wish, hcb, decide_eq_true c25, if_pos rfl, nI_clamp (by omega), nI_clamp (by omega)]
        exact ⟨rfl, R1, ((FY.c0 N).set (by decide)).set (by decide), rfl⟩
      · refine K_iconst (v := (-1)) dX4_wish_28 (by decide) rfl ?_
        refine K_iret dX4_wish_29 rfl ?_
        rw [o_wish, hcb, decide_eq_false (by omega)]
        exact ⟨rfl, R0, FY.c0 N, rfl⟩
