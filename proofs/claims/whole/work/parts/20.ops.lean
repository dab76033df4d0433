theorem sw_out {x : Int32} (n : Nat) (hn : n < 1000) (h : ∀ j, j ≤ n → x ≠ nI j) : x.toInt < 0 ∨ (n : Int) < x.toInt := by
  by_cases h1 : x.toInt < 0
  · exact Or.inl h1
  · right
    by_cases h2 : (n : Int) < x.toInt
    · exact h2
    · exfalso
      refine h x.toInt.toNat (by omega) ?_
      apply Int32.toInt_inj.mp
      rw [nI_toInt (by omega)]
      omega
def o_count (S : GS) (x : Int32) : Int32 :=
  if x = nI 0 then nI (s_n S) else if x = nI 1 then nI (cnt (s_pr S) (s_n S)) else if x = nI 2 then nI (s_yr S) else if x = nI 3 then nI (s_tc S)
  else if x = nI 4 then nI (cnt (s_go S) (s_n S)) else if x = nI 5 then nI (if s_fc S = 0 then cnt (s_cr S) (s_n S) else 0)
  else if x = nI 6 then nI (sumF (s_pk S) (s_n S)) else -1
set_option maxRecDepth 100000 in
theorem c_X3_count {d : Nat} (hd : 6 ≤ d) {S : GS} {N : Mem} {K : Mej} (R : RX S N K) (w : WF S) {x : Int32} : CK d mX3_count [.ref 0, .int x] N K (PX (some (.int (o_count S x))) N K) := by
  obtain ⟨h7, h8, h9, -⟩ := R.1
  refine CK.start [(0, _), (1, _)] (plainFor_of_name (by decide)) (Nat.le_of_ble_eq_true rfl) rfl ?_
  refine K_iload_n dX3_count_0 rfl rfl ?_
  by_cases e0 : x = nI 0
  · subst e0
    refine K_tswI (off := 43) (tgt := 44) dX3_count_1 (by decide) (by decide) (by decide) (by decide) ?_
    refine K_aload_n dX3_count_44 rfl rfl ?_
    refine K_getI dX3_count_45 fl_X3_42 (by first | rfl | exact sk_rk (by omega) | exact sk_hh (by omega)) rfl (by first | assumption | rfl) rfl ?_
    refine K_iret dX3_count_48 rfl ?_
    exact ⟨rfl, rfl, rfl⟩
  by_cases e1 : x = nI 1
  · subst e1
    refine K_tswI (off := 48) (tgt := 49) dX3_count_1 (by decide) (by decide) (by decide) (by decide) ?_
    refine K_aload_n dX3_count_49 rfl rfl ?_
    refine K_cv (ci := 3) (d1 := d - 1) [] dX3_count_50 ml_X3_117 (by decide) rfl rfl rfl (Nat.le_of_ble_eq_true rfl) (c_X3_countPresent R w) (by omega) rfl ?_
    refine K_iret dX3_count_53 rfl ?_
    exact ⟨rfl, rfl, rfl⟩
  by_cases e2 : x = nI 2
  · subst e2
    refine K_tswI (off := 53) (tgt := 54) dX3_count_1 (by decide) (by decide) (by decide) (by decide) ?_
    refine K_aload_n dX3_count_54 rfl rfl ?_
    refine K_getI dX3_count_55 fl_X3_46 (by first | rfl | exact sk_rk (by omega) | exact sk_hh (by omega)) rfl (by first | assumption | rfl) rfl ?_
    refine K_iret dX3_count_58 rfl ?_
    exact ⟨rfl, rfl, rfl⟩
  by_cases e3 : x = nI 3
  · subst e3
    refine K_tswI (off := 58) (tgt := 59) dX3_count_1 (by decide) (by decide) (by decide) (by decide) ?_
    refine K_aload_n dX3_count_59 rfl rfl ?_
    refine K_getI dX3_count_60 fl_X3_49 (by first | rfl | exact sk_rk (by omega) | exact sk_hh (by omega)) rfl (by first | assumption | rfl) rfl ?_
    refine K_iret dX3_count_63 rfl ?_
    exact ⟨rfl, rfl, rfl⟩
  by_cases e4 : x = nI 4
  · subst e4
    refine K_tswI (off := 63) (tgt := 64) dX3_count_1 (by decide) (by decide) (by decide) (by decide) ?_
    refine K_aload_n dX3_count_64 rfl rfl ?_
    refine K_cv (ci := 3) (d1 := d - 1) [] dX3_count_65 ml_X3_121 (by decide) rfl rfl rfl (Nat.le_of_ble_eq_true rfl) (c_X3_countGoing R w) (by omega) rfl ?_
    refine K_iret dX3_count_68 rfl ?_
    exact ⟨rfl, rfl, rfl⟩
  by_cases e5 : x = nI 5
  · subst e5
    refine K_tswI (off := 68) (tgt := 69) dX3_count_1 (by decide) (by decide) (by decide) (by decide) ?_
    refine K_aload_n dX3_count_69 rfl rfl ?_
    refine K_cv (ci := 3) (d1 := d - 1) [] dX3_count_70 ml_X3_124 (by decide) rfl rfl rfl (Nat.le_of_ble_eq_true rfl) (c_X3_countRings (by omega) R w) (by omega) rfl ?_
    refine K_iret dX3_count_73 rfl ?_
    exact ⟨rfl, rfl, rfl⟩
  by_cases e6 : x = nI 6
  · subst e6
    refine K_tswI (off := 73) (tgt := 74) dX3_count_1 (by decide) (by decide) (by decide) (by decide) ?_
    refine K_aload_n dX3_count_74 rfl rfl ?_
    refine K_cv (ci := 3) (d1 := d - 1) [] dX3_count_75 ml_X3_127 (by decide) rfl rfl rfl (Nat.le_of_ble_eq_true rfl) (c_X3_sumOfRanks (by omega) R w) (by omega) rfl ?_
    refine K_iret dX3_count_78 rfl ?_
    exact ⟨rfl, rfl, rfl⟩
  have ho := sw_out (x := x) 6 (by decide) (fun j hj => by
    rcases (show j = 0 ∨ j = 1 ∨ j = 2 ∨ j = 3 ∨ j = 4 ∨ j = 5 ∨ j = 6 by omega) with rfl | rfl | rfl | rfl | rfl | rfl | rfl <;> assumption)
  refine K_tswO (tgt := 79) dX3_count_1 ho (by decide) ?_
  refine K_iconst (v := (-1)) dX3_count_79 (by decide) rfl ?_
  refine K_iret dX3_count_80 rfl ?_
  rw [o_count, if_neg e0, if_neg e1, if_neg e2, if_neg e3, if_neg e4, if_neg e5, if_neg e6]
  exact ⟨rfl, rfl, rfl⟩
def cbw (S : GS) (x y : Int32) : Bool := two (s_n S) x y && decide (s_rk S x.toNatClampNeg y.toNatClampNeg = 0)
set_option maxRecDepth 100000 in
theorem c_X3_canBecomeWish {d : Nat} (hd : 2 ≤ d) {S : GS} {N : Mem} {K : Mej} (R : RX S N K) (w : WF S) {x y : Int32} : CK d mX3_canBecomeWish [.ref 0, .int x, .int y] N K (PX (some (.int (bI (cbw S x y)))) N K) := by
  have hn := w.1.1
  have h7 := R.1.1
  cases ht : two (s_n S) x y with
  | false =>
    refine CK.start [(0, _), (1, _), (2, _)] (plainFor_of_name (by decide)) (Nat.le_of_ble_eq_true rfl) rfl ?_
    refine K_aload_n dX3_canBecomeWish_0 rfl rfl ?_
    refine K_iload_n dX3_canBecomeWish_1 rfl rfl ?_
    refine K_iload_n dX3_canBecomeWish_2 rfl rfl ?_
    refine K_cv (ci := 3) (d1 := d - 1) [_, _] dX3_canBecomeWish_3 ml_X3_107 (by decide) rfl rfl rfl (Nat.le_of_ble_eq_true rfl) (c_X3_areTwo (by omega) h7) (by omega) rfl ?_
    refine K_if_eqB (tgt := 27) dX3_canBecomeWish_6 (by decide) rfl (fun c6 => ?_) (fun c6 => ?_)
    · refine K_iconst (v := nI 0) dX3_canBecomeWish_27 (by decide) rfl ?_
      refine K_zret dX3_canBecomeWish_28 rfl (by first | rfl | exact bI_nar _) ?_
      rw [cbw, ht]
      exact ⟨rfl, rfl, rfl⟩
    · rw [ht] at c6; cases c6
  | true =>
    obtain ⟨f, g, hf, hg, hfg, rfl, rfl⟩ := (two_iff hn).mp ht
    have hr := R.2.2.1 f g (by omega) (by omega)
    have h9 := w.rk9 (f := f) (by omega) g
    refine CK.start [(0, _), (1, _), (2, _)] (plainFor_of_name (by decide)) (Nat.le_of_ble_eq_true rfl) rfl ?_
    refine K_aload_n dX3_canBecomeWish_0 rfl rfl ?_
    refine K_iload_n dX3_canBecomeWish_1 rfl rfl ?_
    refine K_iload_n dX3_canBecomeWish_2 rfl rfl ?_
    refine K_cv (ci := 3) (d1 := d - 1) [_, _] dX3_canBecomeWish_3 ml_X3_107 (by decide) rfl rfl rfl (Nat.le_of_ble_eq_true rfl) (c_X3_areTwo (by omega) h7) (by omega) rfl ?_
    refine K_if_eqB (tgt := 27) dX3_canBecomeWish_6 (by decide) rfl (fun c6 => ?_) (fun c6 => ?_)
    · rw [ht] at c6; cases c6
    · refine K_aload_n dX3_canBecomeWish_9 rfl rfl ?_
      refine K_getR (r := 1) dX3_canBecomeWish_10 fl_X3_11 rfl rfl rfl rfl ?_
      refine K_iload_n dX3_canBecomeWish_13 rfl rfl ?_
      refine K_hh dX3_canBecomeWish_14 (by first | omega | fail) rfl ?_
      refine K_rk dX3_canBecomeWish_15 fl_X3_155 (by first | omega | fail) rfl ?_
      refine K_iload_n dX3_canBecomeWish_18 rfl rfl ?_
      refine K_iald dX3_canBecomeWish_19 (by first | rfl | exact sk_rk (by omega) | exact sk_hh (by omega)) (by first | omega | fail) (by decide) (by first | assumption | rfl) rfl ?_
      refine K_if_neN (tgt := 27) dX3_canBecomeWish_20 (by decide) rfl (by first | omega | fail) (fun c20 => ?_) (fun c20 => ?_)
      · refine K_iconst (v := nI 0) dX3_canBecomeWish_27 (by decide) rfl ?_
        refine K_zret dX3_canBecomeWish_28 rfl (by first | rfl | exact bI_nar _) ?_
        rw [cbw, ht, nI_clamp (by omega), nI_clamp (by omega)]
        first | (rw [decide_eq_true c20]; exact ⟨rfl, rfl, rfl⟩) | (rw [decide_eq_false c20]; exact ⟨rfl, rfl, rfl⟩)
      · refine K_iconst (v := nI 1) dX3_canBecomeWish_23 (by decide) rfl ?_
        refine K_goto (tgt := 28) dX3_canBecomeWish_24 (by decide) ?_
        refine K_zret dX3_canBecomeWish_28 rfl (by first | rfl | exact bI_nar _) ?_
        rw [cbw, ht, nI_clamp (by omega), nI_clamp (by omega)]
        first | (rw [decide_eq_true c20]; exact ⟨rfl, rfl, rfl⟩) | (rw [decide_eq_false c20]; exact ⟨rfl, rfl, rfl⟩)
/-- a wish more -/
def addW (S : GS) (f g : Nat) : GS := gN (gN S (20 + f) (s_wc S f) g) 8 f (s_wc S f + 1)
theorem rkF_agree {w w2 : Nat → Nat} {h : Nat} : ∀ {c : Nat}, (∀ k, k < c → w k = w2 k) → rkF w c h = rkF w2 c h
  | 0, _ => rfl
  | c + 1, e => by
    unfold rkF
    rw [rkF_agree (fun k hk => e k (by omega)), e c (by omega)]
theorem addW_wc (S : GS) (f g f2 : Nat) : s_wc (addW S f g) f2 = if f2 = f then s_wc S f + 1 else s_wc S f2 := by
  show (if 8 = 8 ∧ f2 = f then s_wc S f + 1 else if 8 = 20 + f ∧ f2 = s_wc S f then g else S.1 8 f2) = _
  by_cases e : f2 = f
  · rw [if_pos ⟨rfl, e⟩, if_pos e]
  · rw [if_neg (fun z => e z.2), if_neg (by omega), if_neg e]
    rfl
theorem addW_wl (S : GS) (f g f2 k : Nat) : s_wl (addW S f g) f2 k = if f2 = f ∧ k = s_wc S f then g else s_wl S f2 k := by
  show (if 20 + f2 = 8 ∧ k = f then s_wc S f + 1 else if 20 + f2 = 20 + f ∧ k = s_wc S f then g else S.1 (20 + f2) k) = _
  rw [if_neg (by omega)]
  by_cases e : f2 = f ∧ k = s_wc S f
  · rw [if_pos ⟨by omega, e.2⟩, if_pos e]
  · rw [if_neg (by omega), if_neg e]
    rfl
theorem addW_rk {S : GS} {f g : Nat} (h0 : s_rk S f g = 0) (f2 h : Nat) : s_rk (addW S f g) f2 h = if f2 = f ∧ h = g then s_wc S f + 1 else s_rk S f2 h := by
  unfold s_rk
  rw [addW_wc]
  by_cases e : f2 = f
  · subst e
    rw [if_pos rfl]
    have ha : rkF (s_wl (addW S f2 g) f2) (s_wc S f2) h = rkF (s_wl S f2) (s_wc S f2) h := rkF_agree (fun k hk => by rw [addW_wl, if_neg (by omega)])
    have hl : s_wl (addW S f2 g) f2 (s_wc S f2) = g := by rw [addW_wl, if_pos ⟨rfl, rfl⟩]
    show (if rkF (s_wl (addW S f2 g) f2) (s_wc S f2) h = 0 then (if s_wl (addW S f2 g) f2 (s_wc S f2) = h then s_wc S f2 + 1 else 0) else rkF (s_wl (addW S f2 g) f2) (s_wc S f2) h) = _
    rw [ha, hl]
    have h0' : rkF (s_wl S f2) (s_wc S f2) g = 0 := h0
    by_cases e2 : h = g
    · subst e2
      rw [if_pos h0', if_pos rfl, if_pos ⟨rfl, rfl⟩]
    · rw [if_neg (show ¬ (f2 = f2 ∧ h = g) from fun z => e2 z.2)]
      by_cases e3 : rkF (s_wl S f2) (s_wc S f2) h = 0
      · rw [if_pos e3, if_neg (fun z => e2 z.symm), e3]
      · rw [if_neg e3]
  · rw [if_neg e, if_neg (fun z => e z.1)]
    exact rkF_agree (fun k hk => by rw [addW_wl, if_neg (fun z => e z.1)])
theorem RX.wish {S : GS} {N : Mem} {K : Mej} (R : RX S N K) {f g : Nat} (hf : f < 10) (hg : g < 10) (h0 : s_rk S f g = 0) : RX (addW S f g) (sM (sM N (20 + f) 1 (nI (s_wc S f + 1))) (30 + f) g (nI (s_wc S f + 1))) K := by
  have hr : ∀ i, i ≠ 20 + f → i ≠ 30 + f → sM (sM N (20 + f) 1 (nI (s_wc S f + 1))) (30 + f) g (nI (s_wc S f + 1)) i = N i := fun i h1 h2 => (sM_row h2).trans (sM_row h1)
  have hN : ∀ k i, k ≠ 8 → k < 20 → (addW S f g).1 k i = S.1 k i := fun k i h8 h20 => by
    show (if k = 8 ∧ i = f then s_wc S f + 1 else if k = 20 + f ∧ i = s_wc S f then g else S.1 k i) = _
    rw [if_neg (by omega), if_neg (by omega)]
  refine ⟨?_, fun f2 hf2 => ?_, fun f2 g2 hf2 hg2 => ?_, fun f2 hf2 => ?_, fun y f2 hy hf2 => ?_, fun i hi => ?_, R.2.2.2.2.2.2⟩
  · rw [hr 0 (by omega) (by omega)]
    obtain ⟨a7, a8, a9, a10, a11, a12, a13⟩ := R.1
    exact ⟨a7.trans (congrArg nI (hN 0 0 (by decide) (by decide)).symm), a8.trans (congrArg nI (hN 0 4 (by decide) (by decide)).symm), a9.trans (congrArg nI (hN 0 5 (by decide) (by decide)).symm), a10.trans (congrArg nI (hN 0 1 (by decide) (by decide)).symm), a11.trans (congrArg nI (hN 0 2 (by decide) (by decide)).symm), a12.trans (congrArg nI (hN 0 3 (by decide) (by decide)).symm), a13⟩
  · obtain ⟨b1, b2, b3, b4, b5, b6, b7, b8, b9, b10, b11, b12⟩ := R.2.1 f2 hf2
    rw [sM_row (show 20 + f2 ≠ 30 + f by omega)]
    have ne : ∀ j, j ≠ 1 → sM N (20 + f) 1 (nI (s_wc S f + 1)) (20 + f2) j = N (20 + f2) j := fun j hj => sM_ne (Or.inr hj)
    refine ⟨?_, (ne 2 (by decide)).trans (b2.trans (congrArg nI (hN 1 f2 (by decide) (by decide)).symm)), (ne 3 (by decide)).trans (b3.trans (congrArg nI (hN 2 f2 (by decide) (by decide)).symm)), (ne 4 (by decide)).trans (b4.trans (congrArg nI (hN 3 f2 (by decide) (by decide)).symm)), (ne 5 (by decide)).trans b5, (ne 6 (by decide)).trans b6, (ne 7 (by decide)).trans (b7.trans (congrArg nI (hN 4 f2 (by decide) (by decide)).symm)), (ne 8 (by decide)).trans (b8.trans (congrArg nI (hN 5 f2 (by decide) (by decide)).symm)), (ne 9 (by decide)).trans (b9.trans (congrArg nI (hN 6 f2 (by decide) (by decide)).symm)), (ne 10 (by decide)).trans (b10.trans (congrArg nI (hN 7 f2 (by decide) (by decide)).symm)), ?_, (ne 12 (by decide)).trans b12⟩
    · rw [addW_wc]
      by_cases e : f2 = f
      · subst e
        rw [if_pos rfl]
        exact sM_eq _ _ _ _
      · rw [if_neg e, sM_ne (Or.inl (by omega))]
        exact b1
    · obtain ⟨m, hm, e11, hb⟩ := b11
      exact ⟨m, hm, (ne 11 (by decide)).trans e11, hb⟩
  · rw [addW_rk h0, sM_at]
    by_cases e : f2 = f ∧ g2 = g
    · rw [if_pos ⟨by omega, e.2⟩, if_pos e]
    · rw [if_neg (by omega), if_neg e, sM_row (by omega)]
      exact R.2.2.1 f2 g2 hf2 hg2
  · rw [hr 2 (by omega) (by omega)]; exact R.2.2.2.1 f2 hf2
  · rw [hr 3 (by omega) (by omega)]
    exact R.2.2.2.2.1 y f2 (by have := hN 0 4 (by decide) (by decide); unfold s_yr at hy ⊢; rw [this] at hy; exact hy) hf2
  · rw [hr 4 (by omega) (by omega)]
    exact (R.2.2.2.2.2.1 i (by have := hN 0 5 (by decide) (by decide); unfold s_tc at hi ⊢; rw [this] at hi; exact hi)).trans (congrArg nI (hN 9 i (by decide) (by decide)).symm)
def o_wish (S : GS) (x y : Int32) : Int32 × GS := if cbw S x y = true then (nI (s_wc S x.toNatClampNeg + 1), addW (gC S) x.toNatClampNeg y.toNatClampNeg) else (-1, gC S)
theorem cbw_iff {S : GS} (hn : s_n S ≤ 10) {x y : Int32} (h : cbw S x y = true) : ∃ f g, f < s_n S ∧ g < s_n S ∧ f ≠ g ∧ s_rk S f g = 0 ∧ x = nI f ∧ y = nI g := by
  simp only [cbw, Bool.and_eq_true, decide_eq_true_eq] at h
  obtain ⟨f, g, hf, hg, hfg, rfl, rfl⟩ := (two_iff hn).mp h.1
  rw [nI_clamp (by omega), nI_clamp (by omega)] at h
  exact ⟨f, g, hf, hg, hfg, h.2, rfl, rfl⟩
set_option maxRecDepth 100000 in
theorem c_X3_wish {d : Nat} (hd : 3 ≤ d) {S : GS} {N : Mem} {K : Mej} (R : RX S N K) (w : WF S) {x y : Int32} : CK d mX3_wish [.ref 0, .int x, .int y] N K (PRX (o_wish S x y).1 (o_wish S x y).2 N) := by
  have hn := w.1.1
  have R0 := R.c0
  have hcb : CK (d - 1) mX3_canBecomeWish [.ref 0, .int x, .int y] (sM N 0 13 (nI 0)) K (PX (some (.int (bI (cbw S x y)))) (sM N 0 13 (nI 0)) K) := c_X3_canBecomeWish (S := gC S) (by omega) R0 w.c0
  cases ht : cbw S x y with
  | false =>
    rw [ht] at hcb
    refine CK.start [(0, _), (1, _), (2, _)] (plainFor_of_name (by decide)) (Nat.le_of_ble_eq_true rfl) rfl ?_
    refine K_aload_n dX3_wish_0 rfl rfl ?_
    refine K_iconst (v := nI 0) dX3_wish_1 (by decide) rfl ?_
    refine K_putZ dX3_wish_2 fl_X3_61 (by first | rfl | exact sk_rk (by omega) | exact sk_hh (by omega)) rfl rfl rfl (by first | exact bI_01 _ | exact Or.inl rfl | exact Or.inr rfl | assumption) rfl ?_
    refine K_aload_n dX3_wish_5 rfl rfl ?_
    refine K_iload_n dX3_wish_6 rfl rfl ?_
    refine K_iload_n dX3_wish_7 rfl rfl ?_
    refine K_cv (ci := 3) (d1 := d - 1) [_, _] dX3_wish_8 ml_X3_89 (by decide) rfl rfl rfl (Nat.le_of_ble_eq_true rfl) hcb (by omega) rfl ?_
    refine K_if_neB (tgt := 16) dX3_wish_11 (by decide) rfl (fun c11 => ?_) (fun c11 => ?_)
    · cases c11
    · refine K_iconst (v := (-1)) dX3_wish_14 (by decide) rfl ?_
      refine K_iret dX3_wish_15 rfl ?_
      rw [o_wish, ht]
      exact ⟨rfl, R0, FX.c0 N⟩
  | true =>
    obtain ⟨f, g, hf, hg, hfg, h0, rfl, rfl⟩ := cbw_iff hn ht
    have R1 := R0.wish (f := f) (g := g) (by omega) (by omega) h0
    have hw : sM N 0 13 (nI 0) (20 + f) 1 = nI (s_wc S f) := (R0.2.1 f (by omega)).1
    have hw2 : sM (sM (sM N 0 13 (nI 0)) (20 + f) 1 (nI (s_wc S f + 1))) (30 + f) g (nI (s_wc S f + 1)) (20 + f) 1 = nI (s_wc S f + 1) := by
      rw [sM_ne (Or.inl (by omega)), sM_eq]
    rw [ht] at hcb
    refine CK.start [(0, _), (1, _), (2, _)] (plainFor_of_name (by decide)) (Nat.le_of_ble_eq_true rfl) rfl ?_
    refine K_aload_n dX3_wish_0 rfl rfl ?_
    refine K_iconst (v := nI 0) dX3_wish_1 (by decide) rfl ?_
    refine K_putZ dX3_wish_2 fl_X3_61 (by first | rfl | exact sk_rk (by omega) | exact sk_hh (by omega)) rfl rfl rfl (by first | exact bI_01 _ | exact Or.inl rfl | exact Or.inr rfl | assumption) rfl ?_
    refine K_aload_n dX3_wish_5 rfl rfl ?_
    refine K_iload_n dX3_wish_6 rfl rfl ?_
    refine K_iload_n dX3_wish_7 rfl rfl ?_
    refine K_cv (ci := 3) (d1 := d - 1) [_, _] dX3_wish_8 ml_X3_89 (by decide) rfl rfl rfl (Nat.le_of_ble_eq_true rfl) hcb (by omega) rfl ?_
    refine K_if_neB (tgt := 16) dX3_wish_11 (by decide) rfl (fun c11 => ?_) (fun c11 => ?_)
    · refine K_aload_n dX3_wish_16 rfl rfl ?_
      refine K_getR (r := 1) dX3_wish_17 fl_X3_11 rfl rfl rfl rfl ?_
      refine K_iload_n dX3_wish_20 rfl rfl ?_
      refine K_hh dX3_wish_21 (by first | omega | fail) rfl ?_
      refine K_iload_n dX3_wish_22 rfl rfl ?_
      refine K_c0 (ci := 0) (d1 := d - 1) [_] dX3_wish_23 ml_X3_93 (by decide) (sk_hh (by omega)) rfl rfl (Nat.le_of_ble_eq_true rfl) (c_X0_addWish (by omega) (by omega) hw) (by omega) rfl ?_
      refine K_aload_n dX3_wish_26 rfl rfl ?_
      refine K_getR (r := 1) dX3_wish_27 fl_X3_11 rfl rfl rfl rfl ?_
      refine K_iload_n dX3_wish_30 rfl rfl ?_
      refine K_hh dX3_wish_31 (by first | omega | fail) rfl ?_
      refine K_getI dX3_wish_32 fl_X3_97 (by first | rfl | exact sk_rk (by omega) | exact sk_hh (by omega)) rfl (by first | assumption | rfl) rfl ?_
      refine K_iret dX3_wish_35 rfl ?_
      rw [o_wish, ht, if_pos rfl, nI_clamp (by omega), nI_clamp (by omega)]
      exact ⟨rfl, R1, ((FX.c0 N).set (by omega)).set (by omega)⟩
    · cases c11
