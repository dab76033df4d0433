theorem addW_at {S : GS} {f g k i : Nat} (h8 : k ≠ 8) (h20 : k < 20) : (addW S f g).1 k i = S.1 k i := by
  show (if k = 8 ∧ i = f then s_wc S f + 1 else if k = 20 + f ∧ i = s_wc S f then g else S.1 k i) = _
  rw [if_neg (by omega), if_neg (by omega)]
theorem addW_n (S : GS) (f g : Nat) : s_n (addW S f g) = s_n S := addW_at (by decide) (by decide)
theorem WF.wish {S : GS} (w : WF S) {f g : Nat} (hf : f < s_n S) (hg : g < s_n S) (hfg : f ≠ g) (h0 : s_rk S f g = 0) : WF (addW S f g) := by
  obtain ⟨⟨w11, w12, w13, w14, w15, w16⟩, w2, w3, w4, w5, w6, w7⟩ := w
  have en := addW_n S f g
  have e0 : ∀ i, (addW S f g).1 0 i = S.1 0 i := fun i => addW_at (by decide) (by decide)
  have eyr : s_yr (addW S f g) = s_yr S := e0 4
  have etc : s_tc (addW S f g) = s_tc S := e0 5
  refine ⟨⟨by rw [en]; exact w11, by rw [eyr]; exact w12, by rw [etc]; exact w13, by rw [show s_st (addW S f g) = s_st S from e0 1]; exact w14, by rw [show s_mo (addW S f g) = s_mo S from e0 2]; exact w15, by rw [show s_li (addW S f g) = s_li S from e0 3]; exact w16⟩, fun f2 h2 => ?_, fun f2 h1 h2 => ?_, fun f2 k hf2 hk => ?_, fun f2 g2 hf2 hg2 => ?_, fun y f2 g2 hy hf2 hg2 => ?_, fun i hi => ?_⟩
  · rw [en] at h2
    obtain ⟨a1, a2, a3, a4, a5, a6, a7⟩ := w2 f2 h2
    rw [show s_kd (addW S f g) f2 = s_kd S f2 from addW_at (by decide) (by decide), show s_bd (addW S f g) f2 = s_bd S f2 from addW_at (by decide) (by decide), show s_ps (addW S f g) f2 = s_ps S f2 from addW_at (by decide) (by decide), show s_ff (addW S f g) f2 = s_ff S f2 from addW_at (by decide) (by decide), show s_ft (addW S f g) f2 = s_ft S f2 from addW_at (by decide) (by decide), show s_tf (addW S f g) f2 = s_tf S f2 from addW_at (by decide) (by decide), show s_tt (addW S f g) f2 = s_tt S f2 from addW_at (by decide) (by decide)]
    exact ⟨a1, a2, a3, a4, a5, a6, a7⟩
  · rw [en] at h1
    obtain ⟨a1, a2, a3, a4, a5, a6, a7, a8, a9⟩ := w3 f2 h1 h2
    rw [addW_wc, if_neg (by omega), show s_ff (addW S f g) f2 = s_ff S f2 from addW_at (by decide) (by decide), show s_ft (addW S f g) f2 = s_ft S f2 from addW_at (by decide) (by decide), show s_tf (addW S f g) f2 = s_tf S f2 from addW_at (by decide) (by decide), show s_tt (addW S f g) f2 = s_tt S f2 from addW_at (by decide) (by decide)]
    exact ⟨a1, a2, a3, a4, a5, a6, a7, a8, a9⟩
  · rw [addW_wc] at hk
    rw [en, addW_wl]
    by_cases e : f2 = f
    · subst e
      rw [if_pos rfl] at hk
      rcases Nat.lt_succ_iff_lt_or_eq.mp hk with hk | rfl
      · obtain ⟨a1, a2, a3⟩ := w4 f2 k hf2 hk
        rw [if_neg (by omega)]
        refine ⟨a1, a2, fun j hj => ?_⟩
        rw [addW_wl, if_neg (by omega)]
        exact a3 j hj
      · rw [if_pos ⟨rfl, rfl⟩]
        refine ⟨hg, Ne.symm hfg, fun j hj => ?_⟩
        rw [addW_wl, if_neg (by omega)]
        exact rkF_none h0 j hj
    · rw [if_neg e] at hk
      obtain ⟨a1, a2, a3⟩ := w4 f2 k hf2 hk
      rw [if_neg (fun z => e z.1)]
      refine ⟨a1, a2, fun j hj => ?_⟩
      rw [addW_wl, if_neg (fun z => e z.1)]
      exact a3 j hj
  · rw [en]
    exact w5 f2 g2 hf2 hg2
  · rw [en]
    rw [eyr] at hy
    exact w6 y f2 g2 hy hf2 hg2
  · rw [en, show s_td (addW S f g) i = s_td S i from addW_at (by decide) (by decide)]
    rw [etc] at hi
    exact w7 i hi
/-- the sheet's entry i -/
def shv (bt : Bool) (a st : Int32) (i : Nat) : Int32 := cond bt ((a + nI i * st).toInt8.toInt32) (a + nI i * st)
def cpF (f : Nat) (bt : Bool) (a st : Int32) : Nat → Nat → GS → GS
  | 0, _, S => S
  | k + 1, i, S => if cbw S (nI f) (shv bt a st i) = true then cpF f bt a st k (i + 1) (addW S f (shv bt a st i).toNatClampNeg) else S
theorem l_X3_copySheet {d : Nat} (hd : 3 ≤ d) {N0 : Mem} {K : Mej} {f nn : Nat} {bt : Bool} {a st : Int32} {T : GS} (hnn : nn ≤ 20) : ∀ (k i : Nat) (S : GS) (N : Mem), i + k = nn → RX S N K → WF S → f < s_n S → FX N0 N → cpF f bt a st k i S = T → EK d mX3_copySheet (fun r N2 K2 => r = none ∧ RX T N2 K2 ∧ FX N0 N2 ∧ K2 = K) 3 [(0, .ref 0), (1, .int (nI f)), (2, .int (bI bt)), (3, .int (nI nn)), (4, .int a), (5, .int st), (6, .int (nI i))] [] N K
  | 0, i, S, N, h, R, w, hf, F, e => by
    obtain rfl : i = nn := by omega
    have e2 : S = T := e
    refine K_iload dX3_copySheet_3 rfl rfl ?_
    refine K_iload_n dX3_copySheet_5 rfl rfl ?_
    refine K_icmp_geN (tgt := 61) dX3_copySheet_6 (by decide) rfl (by first | omega | fail) (by first | omega | fail) (fun c6 => ?_) (fun c6 => ?_)
    · refine K_ret dX3_copySheet_61 rfl ?_
      rw [← e2]
      exact ⟨rfl, R, F, rfl⟩
    · omega
  | k + 1, i, S, N, h, R, w, hf, F, e => by
    have hn := w.1.1
    have ih := fun S2 N2 => l_X3_copySheet (N0 := N0) (K := K) (f := f) (bt := bt) (a := a) (st := st) (T := T) hd hnn k (i + 1) S2 N2 (by omega)
    have hcb : ∀ x, CK (d - 1) mX3_canBecomeWish [.ref 0, .int (nI f), .int x] N K (PX (some (.int (bI (cbw S (nI f) x)))) N K) := fun x => c_X3_canBecomeWish (by omega) R w
    have e2 : (if cbw S (nI f) (shv bt a st i) = true then cpF f bt a st k (i + 1) (addW S f (shv bt a st i).toNatClampNeg) else S) = T := e
    have hw := (R.2.1 f (by omega)).1
    cases bt with
    | true =>
      have hv : shv true a st i = (a + nI i * st).toInt8.toInt32 := rfl
      rw [hv] at e2
      refine K_iload dX3_copySheet_3 rfl rfl ?_
      refine K_iload_n dX3_copySheet_5 rfl rfl ?_
      refine K_icmp_geN (tgt := 61) dX3_copySheet_6 (by decide) rfl (by first | omega | fail) (by first | omega | fail) (fun c6 => ?_) (fun c6 => ?_)
      · omega
      · refine K_iload dX3_copySheet_9 rfl rfl ?_
        refine K_iload dX3_copySheet_11 rfl rfl ?_
        refine K_iload dX3_copySheet_13 rfl rfl ?_
        refine K_imul dX3_copySheet_15 rfl ?_
        refine K_iadd dX3_copySheet_16 rfl ?_
        refine K_istore (lv' := [(0, _), (1, _), (2, _), (3, _), (4, _), (5, _), (6, _), (7, _)]) dX3_copySheet_17 (by decide) rfl rfl ?_
        refine K_iload_n dX3_copySheet_19 rfl rfl ?_
        refine K_if_eqB (tgt := 29) dX3_copySheet_20 (by decide) rfl (fun c20 => ?_) (fun c20 => ?_)
        · cases c20
        · refine K_iload dX3_copySheet_23 rfl rfl ?_
          refine K_i2b dX3_copySheet_25 rfl ?_
          refine K_goto (tgt := 31) dX3_copySheet_26 (by decide) ?_
          refine K_istore (lv' := [(0, _), (1, _), (2, _), (3, _), (4, _), (5, _), (6, _), (7, _), (8, _)]) dX3_copySheet_31 (by decide) rfl rfl ?_
          refine K_aload_n dX3_copySheet_33 rfl rfl ?_
          refine K_iload_n dX3_copySheet_34 rfl rfl ?_
          refine K_iload dX3_copySheet_35 rfl rfl ?_
          refine K_cv (ci := 3) (d1 := d - 1) [_, _] dX3_copySheet_37 ml_X3_89 (by decide) rfl rfl rfl (Nat.le_of_ble_eq_true rfl) (hcb _) (by omega) rfl ?_
          refine K_if_neB (tgt := 44) dX3_copySheet_40 (by decide) rfl (fun c40 => ?_) (fun c40 => ?_)
          · obtain ⟨f2, g, q1, q2, q3, q4, q5, q6⟩ := cbw_iff hn c40
            rw [nI_eq (by omega) (by omega)] at q5
            subst q5
            rw [c40, if_pos rfl, q6, nI_clamp (by omega)] at e2
            rw [q6]
            refine K_aload_n dX3_copySheet_44 rfl rfl ?_
            refine K_getR (r := 1) dX3_copySheet_45 fl_X3_11 rfl rfl rfl rfl ?_
            refine K_iload_n dX3_copySheet_48 rfl rfl ?_
            refine K_hh dX3_copySheet_49 (by first | omega | fail) rfl ?_
            refine K_iload dX3_copySheet_50 rfl rfl ?_
            refine K_c0 (ci := 0) (d1 := d - 1) [_] dX3_copySheet_52 ml_X3_93 (by decide) (sk_hh (by omega)) rfl rfl (Nat.le_of_ble_eq_true rfl) (c_X0_addWish (by omega) (by omega) hw) (by omega) rfl ?_
            first | refine K_incN (lv' := [(0, _), (1, _), (2, _), (3, _), (4, _), (5, _), (6, _), (7, _), (8, _)]) dX3_copySheet_55 rfl (by decide) rfl rfl ?_ | refine K_iinc (lv' := [(0, _), (1, _), (2, _), (3, _), (4, _), (5, _), (6, _), (7, _), (8, _)]) dX3_copySheet_55 rfl rfl (by decide) rfl rfl ?_
            refine K_goto (tgt := 3) dX3_copySheet_58 (by decide) ?_
            refine K_pick [0, 1, 2, 3, 4, 5, 6] rfl ?_
            exact ih _ _ (R.wish (by omega) (by omega) q4) (w.wish hf q2 q3 q4) (by rw [addW_n]; exact hf) ((F.set (by omega)).set (by omega)) e2
          · refine K_ret dX3_copySheet_43 rfl ?_
            rw [c40] at e2
            rw [← show S = T from e2]
            exact ⟨rfl, R, F, rfl⟩
    | false =>
      have hv : shv false a st i = a + nI i * st := rfl
      rw [hv] at e2
      refine K_iload dX3_copySheet_3 rfl rfl ?_
      refine K_iload_n dX3_copySheet_5 rfl rfl ?_
      refine K_icmp_geN (tgt := 61) dX3_copySheet_6 (by decide) rfl (by first | omega | fail) (by first | omega | fail) (fun c6 => ?_) (fun c6 => ?_)
      · omega
      · refine K_iload dX3_copySheet_9 rfl rfl ?_
        refine K_iload dX3_copySheet_11 rfl rfl ?_
        refine K_iload dX3_copySheet_13 rfl rfl ?_
        refine K_imul dX3_copySheet_15 rfl ?_
        refine K_iadd dX3_copySheet_16 rfl ?_
        refine K_istore (lv' := [(0, _), (1, _), (2, _), (3, _), (4, _), (5, _), (6, _), (7, _)]) dX3_copySheet_17 (by decide) rfl rfl ?_
        refine K_iload_n dX3_copySheet_19 rfl rfl ?_
        refine K_if_eqB (tgt := 29) dX3_copySheet_20 (by decide) rfl (fun c20 => ?_) (fun c20 => ?_)
        · refine K_iload dX3_copySheet_29 rfl rfl ?_
          refine K_istore (lv' := [(0, _), (1, _), (2, _), (3, _), (4, _), (5, _), (6, _), (7, _), (8, _)]) dX3_copySheet_31 (by decide) rfl rfl ?_
          refine K_aload_n dX3_copySheet_33 rfl rfl ?_
          refine K_iload_n dX3_copySheet_34 rfl rfl ?_
          refine K_iload dX3_copySheet_35 rfl rfl ?_
          refine K_cv (ci := 3) (d1 := d - 1) [_, _] dX3_copySheet_37 ml_X3_89 (by decide) rfl rfl rfl (Nat.le_of_ble_eq_true rfl) (hcb _) (by omega) rfl ?_
          refine K_if_neB (tgt := 44) dX3_copySheet_40 (by decide) rfl (fun c40 => ?_) (fun c40 => ?_)
          · obtain ⟨f2, g, q1, q2, q3, q4, q5, q6⟩ := cbw_iff hn c40
            rw [nI_eq (by omega) (by omega)] at q5
            subst q5
            rw [c40, if_pos rfl, q6, nI_clamp (by omega)] at e2
            rw [q6]
            refine K_aload_n dX3_copySheet_44 rfl rfl ?_
            refine K_getR (r := 1) dX3_copySheet_45 fl_X3_11 rfl rfl rfl rfl ?_
            refine K_iload_n dX3_copySheet_48 rfl rfl ?_
            refine K_hh dX3_copySheet_49 (by first | omega | fail) rfl ?_
            refine K_iload dX3_copySheet_50 rfl rfl ?_
            refine K_c0 (ci := 0) (d1 := d - 1) [_] dX3_copySheet_52 ml_X3_93 (by decide) (sk_hh (by omega)) rfl rfl (Nat.le_of_ble_eq_true rfl) (c_X0_addWish (by omega) (by omega) hw) (by omega) rfl ?_
            first | refine K_incN (lv' := [(0, _), (1, _), (2, _), (3, _), (4, _), (5, _), (6, _), (7, _), (8, _)]) dX3_copySheet_55 rfl (by decide) rfl rfl ?_ | refine K_iinc (lv' := [(0, _), (1, _), (2, _), (3, _), (4, _), (5, _), (6, _), (7, _), (8, _)]) dX3_copySheet_55 rfl rfl (by decide) rfl rfl ?_
            refine K_goto (tgt := 3) dX3_copySheet_58 (by decide) ?_
            refine K_pick [0, 1, 2, 3, 4, 5, 6] rfl ?_
            exact ih _ _ (R.wish (by omega) (by omega) q4) (w.wish hf q2 q3 q4) (by rw [addW_n]; exact hf) ((F.set (by omega)).set (by omega)) e2
          · refine K_ret dX3_copySheet_43 rfl ?_
            rw [c40] at e2
            rw [← show S = T from e2]
            exact ⟨rfl, R, F, rfl⟩
        · cases c20
set_option maxRecDepth 100000 in
theorem c_X3_copySheet {d : Nat} (hd : 3 ≤ d) {S : GS} {N : Mem} {K : Mej} {f nn : Nat} {bt : Bool} {a st : Int32} (R : RX S N K) (w : WF S) (hf : f < s_n S) (hnn : nn ≤ 20) : CK d mX3_copySheet [.ref 0, .int (nI f), .int (bI bt), .int (nI nn), .int a, .int st] N K (fun r N2 K2 => r = none ∧ RX (cpF f bt a st nn 0 S) N2 K2 ∧ FX N N2 ∧ K2 = K) := by
  refine CK.start [(0, _), (1, _), (2, _), (3, _), (4, _), (5, _)] (plainFor_of_name (by decide)) (Nat.le_of_ble_eq_true rfl) rfl ?_
  refine K_iconst (v := nI 0) dX3_copySheet_0 (by decide) rfl ?_
  refine K_istore (lv' := [(0, _), (1, _), (2, _), (3, _), (4, _), (5, _), (6, _)]) dX3_copySheet_1 (by decide) rfl rfl ?_
  exact l_X3_copySheet hd hnn nn 0 S N (by omega) R w hf (FX.rf N) rfl
