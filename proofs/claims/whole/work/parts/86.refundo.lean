theorem l_X4_undo {d : Nat} {A : GS} {N : Mem} {K : Mej} {Post : PK} {p : Nat → Option Nat} {y : Nat} (hn : s_n A ≤ 10) (hy : y < 60) (R : RY A N) (h34 : N 40 34 = nI y) (B : ∀ f, f < 10 → N 75 (10 * y + f) = oI (p f))
    (hP : ∀ N1, RY (plG A p) N1 → (∀ r, r ≠ 55 → N1 r = N r) → Post (some (.int (nI y))) N1 K) :
    ∀ (k i : Nat) (N1 : Mem), i + k = s_n A → (∀ r, r ≠ 55 → N1 r = N r) → (∀ f, f < i → N1 55 f = oI (p f)) → EK d mX4_undo Post 40 [(0, .ref 40), (1, .int (nI i))] [] N1 K
  | 0, i, N1, e, hF, hC => by
    have hi : i = s_n A := by omega
    subst hi
    have h7 : N1 40 1 = nI (s_n A) := by rw [hF 40 (by decide)]; exact R.1.1
    have h34' : N1 40 34 = nI y := by rw [hF 40 (by decide)]; exact h34
    refine K_iload_n dX4_undo_40 rfl rfl ?_
    refine K_aload_n dX4_undo_41 rfl rfl ?_
    refine K_getI dX4_undo_42 fl_X4_87 (by first | rfl | exact sk_rk (by omega) | exact sk_hh (by omega)) rfl (by first | assumption | rfl) rfl ?_
    refine K_icmp_geN (tgt := 74) dX4_undo_45 (by decide) rfl (by first | omega | fail) (by first | omega | fail) (fun c45 => ?_) (fun c45 => ?_)
    · refine K_aload_n dX4_undo_74 rfl rfl ?_
      refine K_getI dX4_undo_75 fl_X4_161 (by first | rfl | exact sk_rk (by omega) | exact sk_hh (by omega)) rfl (by first | assumption | rfl) rfl ?_
      refine K_iret dX4_undo_78 rfl ?_
      exact hP N1 (R.plG (fun k _ _ => by rw [hF 40 (by decide)]) (fun i hi => hF i (by omega)) hC) hF
    · omega
  | k + 1, i, N1, e, hF, hC => by
    have h7 : N1 40 1 = nI (s_n A) := by rw [hF 40 (by decide)]; exact R.1.1
    have h34' : N1 40 34 = nI y := by rw [hF 40 (by decide)]; exact h34
    have h75 : N1 75 (10 * y + i) = oI (p i) := by rw [hF 75 (by decide)]; exact B i (by omega)
    have ih := l_X4_undo (d := d) hn hy R h34 B hP k (i + 1) (sM N1 55 i (oI (p i))) (by omega) (fun r hr => (sM_row hr).trans (hF r hr)) (fun f hf => by
      rw [sM_at]
      by_cases e3 : f = i
      · rw [if_pos ⟨rfl, e3⟩, e3]
      · rw [if_neg (by omega)]; exact hC f (by omega))
    refine K_iload_n dX4_undo_40 rfl rfl ?_
    refine K_aload_n dX4_undo_41 rfl rfl ?_
    refine K_getI dX4_undo_42 fl_X4_87 (by first | rfl | exact sk_rk (by omega) | exact sk_hh (by omega)) rfl (by first | assumption | rfl) rfl ?_
    refine K_icmp_geN (tgt := 74) dX4_undo_45 (by decide) rfl (by first | omega | fail) (by first | omega | fail) (fun c45 => ?_) (fun c45 => ?_)
    · omega
    · refine K_aload_n dX4_undo_48 rfl rfl ?_
      refine K_getR (r := 55) dX4_undo_49 fl_X4_50 rfl rfl rfl rfl ?_
      refine K_iload_n dX4_undo_52 rfl rfl ?_
      refine K_aload_n dX4_undo_53 rfl rfl ?_
      refine K_getR (r := 75) dX4_undo_54 fl_X4_81 rfl rfl rfl rfl ?_
      refine K_bipush (v := nI 10) dX4_undo_57 (by decide) rfl ?_
      refine K_aload_n dX4_undo_59 rfl rfl ?_
      refine K_getI dX4_undo_60 fl_X4_161 (by first | rfl | exact sk_rk (by omega) | exact sk_hh (by omega)) rfl (by first | assumption | rfl) rfl ?_
      refine K_mulN dX4_undo_63 rfl ?_
      refine K_iload_n dX4_undo_64 rfl rfl ?_
      refine K_addN dX4_undo_65 rfl ?_
      refine K_iald dX4_undo_66 (by first | rfl | exact sk_rk (by omega) | exact sk_hh (by omega)) (by first | omega | fail) (by decide) (by first | assumption | rfl) rfl ?_
      refine K_iast dX4_undo_67 (by first | rfl | exact sk_rk (by omega) | exact sk_hh (by omega)) (by first | omega | fail) (by decide) rfl ?_
      first | refine K_incN (lv' := [(0, _), (1, _)]) dX4_undo_68 rfl (by decide) rfl rfl ?_ | refine K_iinc (lv' := [(0, _), (1, _)]) dX4_undo_68 rfl rfl (by decide) rfl rfl ?_
      refine K_goto (tgt := 40) dX4_undo_71 (by decide) ?_
      exact ih
set_option maxRecDepth 100000 in
theorem c_X4_undo {d : Nat} (hd : 3 ≤ d) {S : GS} {N : Mem} {K : Mej} (R : RY S N) (w : WF S) : CK d mX4_undo [.ref 40] N K (PRY (o_undo S).1 (o_undo S).2 N K) := by
  have R0 := R.c0
  have w0 := w.c0
  have hn := w.1.1
  have hyr := w.1.2.1
  have h34 : sM (sM N 40 0 (nI 0)) 40 19 (nI 0) 40 34 = nI (s_yr S) := R0.1.2.2.2.2.2.2
  by_cases h0 : s_yr S = 0
  · have eo : o_undo S = (-1, gC S) := if_pos h0
    rw [eo]
    refine CK.start [(0, _)] (plainFor_of_name (by decide)) (Nat.le_of_ble_eq_true rfl) rfl ?_
    refine K_aload_n dX4_undo_0 rfl rfl ?_
    refine K_iconst (v := nI 0) dX4_undo_1 (by decide) rfl ?_
    refine K_putI dX4_undo_2 fl_X4_84 (by first | rfl | exact sk_rk (by omega) | exact sk_hh (by omega)) rfl rfl rfl rfl ?_
    refine K_aload_n dX4_undo_5 rfl rfl ?_
    refine K_iconst (v := nI 0) dX4_undo_6 (by decide) rfl ?_
    refine K_putI dX4_undo_7 fl_X4_98 (by first | rfl | exact sk_rk (by omega) | exact sk_hh (by omega)) rfl rfl rfl rfl ?_
    refine K_aload_n dX4_undo_10 rfl rfl ?_
    refine K_getI dX4_undo_11 fl_X4_161 (by first | rfl | exact sk_rk (by omega) | exact sk_hh (by omega)) rfl (by first | assumption | rfl) rfl ?_
    refine K_if_neN (tgt := 19) dX4_undo_14 (by decide) rfl (by first | omega | fail) (fun c14 => ?_) (fun c14 => ?_)
    · exact absurd h0 c14
    · refine K_iconst (v := (-1)) dX4_undo_17 (by decide) rfl ?_
      refine K_iret dX4_undo_18 rfl ?_
      exact ⟨rfl, R0, FY.c0 N, rfl⟩
  · have eo : o_undo S = (nI (s_yr S - 1), payPl (unG S) (-1) (s_n S)) := if_neg h0
    rw [eo]
    have w1 : WF (gN (gC S) 0 4 (s_yr S - 1)) := wf_yr w0 (show s_yr S - 1 ≤ s_yr S by omega)
    have R1 : RY (gN (gC S) 0 4 (s_yr S - 1)) (sM (sM (sM N 40 0 (nI 0)) 40 19 (nI 0)) 40 34 (nI (s_yr S - 1))) := R0.yr (show s_yr S - 1 ≤ s_yr S by omega)
    have F1 : FY N (sM (sM (sM N 40 0 (nI 0)) 40 19 (nI 0)) 40 34 (nI (s_yr S - 1))) := (FY.c0 N).set (by decide)
    have hp : ∀ f g, f < 10 → s_bk S (s_yr S - 1) f = some g → f < s_n S ∧ g < s_n S := fun f g hf hg => by
      have := w.2.2.2.2.2.1 (s_yr S - 1) f g (by omega) hf hg
      exact ⟨this.1, this.2.1⟩
    have B0 : ∀ f, f < 10 → sM (sM (sM N 40 0 (nI 0)) 40 19 (nI 0)) 40 34 (nI (s_yr S - 1)) 75 (10 * (s_yr S - 1) + f) = oI (s_bk S (s_yr S - 1) f) := fun f hf => by
      rw [sM_row (by decide), sM_row (by decide), sM_row (by decide)]
      exact R.2.2.2.1 (s_yr S - 1) f (by omega) hf
    have hpy := c_X4_pays (d := d - 1) (K := K) (sg := -1) (y := s_yr S - 1) (p := s_bk S (s_yr S - 1)) (by omega) R1 w1 (by omega) hp B0
    have h34b : sM (sM (sM N 40 0 (nI 0)) 40 19 (nI 0)) 40 34 (nI (s_yr S - 1)) 40 34 = nI (s_yr S - 1) := sM_eq _ _ _ _
    have rest := payR_rest (S := gN (gC S) 0 4 (s_yr S - 1)) (p := s_bk S (s_yr S - 1)) (sg := -1) (n := s_n S) (fun i h1 h2 => by
      cases hb : s_bk S (s_yr S - 1) i with
      | none => rfl
      | some g => have := (hp i g h2 hb).1; omega) (10 - s_n S) (by omega)
    rw [show s_n S + (10 - s_n S) = 10 by omega] at rest
    have up := unP_parts (gN (gC S) 0 4 (s_yr S - 1)) (s_yr S - 1) 10
    have upl : ∀ f, f < 10 → s_pl (unG S) f = s_bk S (s_yr S - 1) f := fun f hf => by
      have h := unP_pl (gN (gC S) 0 4 (s_yr S - 1)) (s_yr S - 1) f 10
      rw [if_pos hf] at h
      exact h
    have eT : payPl (unG S) (-1) (s_n S) = payR (unG S) (s_bk S (s_yr S - 1)) (-1) (s_n S) := by
      rw [← payR_pl]
      exact payR_agree (fun j hj => upl j (by omega))
    have pT := payR_parts (unG S) (s_bk S (s_yr S - 1)) (-1) (s_n S)
    have pA := payR_parts (gN (gC S) 0 4 (s_yr S - 1)) (s_bk S (s_yr S - 1)) (-1) (s_n S)
    have fin : ∀ N3, RY (plG (payR (gN (gC S) 0 4 (s_yr S - 1)) (s_bk S (s_yr S - 1)) (-1) (s_n S)) (s_bk S (s_yr S - 1))) N3 → RY (payPl (unG S) (-1) (s_n S)) N3 := fun N3 R3 => by
      rw [eT]
      refine RY.cong ?_ ?_ ?_ ?_ ?_ R3
      · rw [pT.1]; show (unG S).1 = (payR _ _ _ _).1; rw [pA.1]; exact up.1
      · rw [pT.2.1]; show (unG S).2.1 = (payR _ _ _ _).2.1; rw [pA.2.1]; exact up.2.1
      · exact payR_po _ _ up.1 up.2.2.1 _
      · intro y2 f
        show (payR (unG S) _ _ _).2.2.1 1 y2 f = (payR (gN (gC S) 0 4 (s_yr S - 1)) _ _ _).2.2.1 1 y2 f
        rw [pT.2.2, pA.2.2]
        exact up.2.2.2 y2 f
      · intro f hf
        have hf10 : f < 10 := by
          have : f < s_n (payR (gN (gC S) 0 4 (s_yr S - 1)) (s_bk S (s_yr S - 1)) (-1) (s_n S)) := hf
          rw [payR_n] at this
          exact Nat.lt_of_lt_of_le this hn
        show (payR (unG S) _ _ _).2.2.1 0 f 0 = s_bk S (s_yr S - 1) f
        rw [pT.2.2]
        exact upl f hf10
    refine CK.start [(0, _)] (plainFor_of_name (by decide)) (Nat.le_of_ble_eq_true rfl) rfl ?_
    refine K_aload_n dX4_undo_0 rfl rfl ?_
    refine K_iconst (v := nI 0) dX4_undo_1 (by decide) rfl ?_
    refine K_putI dX4_undo_2 fl_X4_84 (by first | rfl | exact sk_rk (by omega) | exact sk_hh (by omega)) rfl rfl rfl rfl ?_
    refine K_aload_n dX4_undo_5 rfl rfl ?_
    refine K_iconst (v := nI 0) dX4_undo_6 (by decide) rfl ?_
    refine K_putI dX4_undo_7 fl_X4_98 (by first | rfl | exact sk_rk (by omega) | exact sk_hh (by omega)) rfl rfl rfl rfl ?_
    refine K_aload_n dX4_undo_10 rfl rfl ?_
    refine K_getI dX4_undo_11 fl_X4_161 (by first | rfl | exact sk_rk (by omega) | exact sk_hh (by omega)) rfl (by first | assumption | rfl) rfl ?_
    refine K_if_neN (tgt := 19) dX4_undo_14 (by decide) rfl (by first | omega | fail) (fun c14 => ?_) (fun c14 => ?_)
    · refine K_aload_n dX4_undo_19 rfl rfl ?_
      refine K_dup dX4_undo_20 rfl rfl ?_
      refine K_getI dX4_undo_21 fl_X4_161 (by first | rfl | exact sk_rk (by omega) | exact sk_hh (by omega)) rfl (by first | assumption | rfl) rfl ?_
      refine K_iconst (v := nI 1) dX4_undo_24 (by decide) rfl ?_
      refine K_subN dX4_undo_25 (by first | omega | fail) rfl ?_
      refine K_putI dX4_undo_26 fl_X4_161 (by first | rfl | exact sk_rk (by omega) | exact sk_hh (by omega)) rfl rfl rfl rfl ?_
      refine K_aload_n dX4_undo_29 rfl rfl ?_
      refine K_aload_n dX4_undo_30 rfl rfl ?_
      refine K_getI dX4_undo_31 fl_X4_161 (by first | rfl | exact sk_rk (by omega) | exact sk_hh (by omega)) rfl (by first | assumption | rfl) rfl ?_
      refine K_iconst (v := (-1)) dX4_undo_34 (by decide) rfl ?_
      refine K_callV (ci := 4) (d1 := d - 1) [_, _] dX4_undo_35 ml_X4_241 (by decide) rfl rfl rfl (Nat.le_of_ble_eq_true rfl) hpy (by omega) rfl ?_
      rintro r N2 K2 ⟨z1, z2, z3, z4⟩
      subst z1
      subst z4
      rw [rest] at z2
      refine K_iconst (v := nI 0) dX4_undo_38 (by decide) rfl ?_
      refine K_istore_n (lv' := [(0, _), (1, _)]) dX4_undo_39 (by decide) rfl rfl ?_
      exact l_X4_undo (by rw [payR_n]; exact hn) (show s_yr S - 1 < 60 by omega) z2 (by rw [z3 40 (by decide)]; exact h34b) (fun f hf => by rw [z3 75 (by decide)]; exact B0 f hf) (fun N3 q1 q2 => ⟨rfl, fin N3 q1, F1.trans (FY.trans (N1 := N2) (fun i hi => z3 i (by omega)) (fun i hi => q2 i (by omega))), rfl⟩) (s_n S) 0 N2 (by rw [payR_n]; exact Nat.zero_add _) (fun _ _ => rfl) (fun f hf => absurd hf (Nat.not_lt_zero f))
    · exact absurd c14 h0
