theorem RY.up75 {S : GS} {N N1 : Mem} (R : RY S N) (h : ∀ r, r ≠ 75 → N1 r = N r) (h5 : ∀ j, j < 10 * s_yr S → N1 75 j = N 75 j) : RY S N1 := by
  obtain ⟨a, b, c, d, e⟩ := R
  refine ⟨by rw [h 40 (by decide)]; exact a, fun f hf => ?_, fun f hf => ?_, fun y f hy hf => ?_, fun i hi => ?_⟩
  · rw [h 42 (by decide), h 43 (by decide), h 44 (by decide), h 45 (by decide), h 46 (by decide), h 47 (by decide), h 48 (by decide), h 49 (by decide), h 51 (by decide), h 55 (by decide)]
    exact b f hf
  · rw [h 50 (by decide), h 52 (by decide), h 53 (by decide), h 54 (by decide)]; exact c f hf
  · rw [h5 _ (by omega)]; exact d y f hy hf
  · rw [h 70 (by decide)]; exact e i hi
theorem RY.bk {S : GS} {N : Mem} (R : RY S N) {y : Nat} (hy : s_yr S = y) (p : Nat → Option Nat) : RY (gK S y p) N := by
  refine ⟨R.1, fun f hf => ?_, R.2.2.1, fun y2 f2 hy2 hf2 => ?_, R.2.2.2.2⟩
  · obtain ⟨b1, b2, b3, b4, b5, b6, b7, b8, b9, b10⟩ := R.2.1 f hf
    exact ⟨b1, b2, b3, b4, b5, b6, b7, b8, b9, b10.trans (by simp [s_pl, gK])⟩
  · have h2 : y2 < s_yr S := hy2
    exact (R.2.2.2.1 y2 f2 hy2 hf2).trans (by simp [s_bk, gK, show y2 ≠ y by omega])
set_option maxRecDepth 100000 in
theorem c_X4_book {d : Nat} (hd : 4 ≤ d) {S : GS} {N : Mem} {K : Mej} (R : RY S N) (w : WF S) : CK d mX4_book [.ref 40] N K (PRY (o_book S).1 (o_book S).2 N K) := by
  have R0 := R.c0
  have w0 := w.c0
  have hn := w.1.1
  have hyr := w.1.2.1
  have hfl := s_fc_lt w
  have h34 : sM (sM N 40 0 (nI 0)) 40 19 (nI 0) 40 34 = nI (s_yr S) := R0.1.2.2.2.2.2.2
  have hcl : CK (d - 1) mX4_open [.ref 40] (sM (sM N 40 0 (nI 0)) 40 19 (nI 0)) K (PX (some (.int (nI (s_fc S)))) (sM (sM N 40 0 (nI 0)) 40 19 (nI 0)) K) := c_X4_open (S := gC S) (by omega) R0 w0
  have hgo : CK (d - 1) mX4_goers [.ref 40] (sM (sM N 40 0 (nI 0)) 40 19 (nI 0)) K (PX (some (.int (nI (cnt (s_go S) (s_n S))))) (sM (sM N 40 0 (nI 0)) 40 19 (nI 0)) K) := c_X4_goers (S := gC S) (by omega) R0 w0
  by_cases hz : s_yr S = 60 ∨ s_fc S ≠ 0
  · have eo : o_book S = (-1, gC S) := if_pos hz
    rw [eo]
    refine CK.start [(0, _)] (plainFor_of_name (by decide)) (Nat.le_of_ble_eq_true rfl) rfl ?_
    refine K_aload_n dX4_book_0 rfl rfl ?_
    refine K_iconst (v := nI 0) dX4_book_1 (by decide) rfl ?_
    refine K_putI dX4_book_2 fl_X4_84 (by first | rfl | exact sk_rk (by omega) | exact sk_hh (by omega)) rfl rfl rfl rfl ?_
    refine K_aload_n dX4_book_5 rfl rfl ?_
    refine K_iconst (v := nI 0) dX4_book_6 (by decide) rfl ?_
    refine K_putI dX4_book_7 fl_X4_98 (by first | rfl | exact sk_rk (by omega) | exact sk_hh (by omega)) rfl rfl rfl rfl ?_
    refine K_aload_n dX4_book_10 rfl rfl ?_
    refine K_getI dX4_book_11 fl_X4_161 (by first | rfl | exact sk_rk (by omega) | exact sk_hh (by omega)) rfl (by first | assumption | rfl) rfl ?_
    refine K_bipush (v := nI 60) dX4_book_14 (by decide) rfl ?_
    refine K_icmp_eqN (tgt := 26) dX4_book_16 (by decide) rfl (by first | omega | fail) (by first | omega | fail) (fun c16 => ?_) (fun c16 => ?_)
    · refine K_iconst (v := (-1)) dX4_book_26 (by decide) rfl ?_
      refine K_iret dX4_book_27 rfl ?_
      exact ⟨rfl, R0, FY.c0 N, rfl⟩
    · refine K_aload_n dX4_book_19 rfl rfl ?_
      refine K_cv (ci := 4) (d1 := d - 1) [] dX4_book_20 ml_X4_154 (by decide) rfl rfl rfl (Nat.le_of_ble_eq_true rfl) hcl (by omega) rfl ?_
      refine K_if_eqN (tgt := 28) dX4_book_23 (by decide) rfl (by first | omega | fail) (fun c23 => ?_) (fun c23 => ?_)
      · rcases hz with z | z; exact absurd z c16; exact absurd c23 z
      · refine K_iconst (v := (-1)) dX4_book_26 (by decide) rfl ?_
        refine K_iret dX4_book_27 rfl ?_
        exact ⟨rfl, R0, FY.c0 N, rfl⟩
  · have eo : o_book S = (nI (cnt (s_go S) (s_n S)), bkG S) := if_neg hz
    rw [eo]
    have hy60 : s_yr S < 60 := by omega
    have hp : ∀ f g, f < 10 → s_pl S f = some g → f < s_n S ∧ g < s_n S := fun f g hf hg => by
      have := w.2.2.2.2.1 f g hf hg
      exact ⟨this.1, this.2.1⟩
    have rest := payR_rest (S := gC S) (p := s_pl S) (sg := nI 1) (n := s_n S) (fun i h1 h2 => (w.2.2.1 i h1 h2).2.2.2.2.2.2.1) (10 - s_n S) (by omega)
    rw [show s_n S + (10 - s_n S) = 10 by omega] at rest
    have epl : payR (gC S) (s_pl S) (nI 1) (s_n S) = payPl (gC S) (nI 1) (s_n S) := payR_pl (gC S) (nI 1) (s_n S)
    have hna : s_n (payPl (gC S) (nI 1) (s_n S)) = s_n S := (payPl_n (gC S) (nI 1) (s_n S)).1
    have hya : s_yr (payPl (gC S) (nI 1) (s_n S)) = s_yr S := payPl_yr (gC S) (nI 1) (s_n S)
    have fin : ∀ N1, (∀ r, r ≠ 75 → N1 r = sM (sM N 40 0 (nI 0)) 40 19 (nI 0) r) → (∀ f, f < 10 → N1 75 (10 * s_yr S + f) = oI (s_pl S f)) → (∀ j, j < 10 * s_yr S → N1 75 j = sM (sM N 40 0 (nI 0)) 40 19 (nI 0) 75 j) → EK d mX4_book (PRY (nI (cnt (s_go S) (s_n S))) (bkG S) N K) 79 [(0, .ref 40), (1, .int (nI (cnt (s_go S) (s_n S)))), (2, .int (nI 10))] [] N1 K := by
      intro N1 y1 y2 y3
      have R1 : RY (gC S) N1 := R0.up75 y1 y3
      have F1 : FY N N1 := (FY.c0 N).trans (fun i hi => y1 i (by omega))
      have h34' : N1 40 34 = nI (s_yr S) := by rw [y1 40 (by decide)]; exact h34
      have hpy := c_X4_pays (d := d - 1) (K := K) (sg := nI 1) (y := s_yr S) (p := s_pl S) (by omega) R1 w0 hy60 hp y2
      rw [rest, epl] at hpy
      refine K_aload_n dX4_book_79 rfl rfl ?_
      refine K_aload_n dX4_book_80 rfl rfl ?_
      refine K_getI dX4_book_81 fl_X4_161 (by first | rfl | exact sk_rk (by omega) | exact sk_hh (by omega)) rfl (by first | assumption | rfl) rfl ?_
      refine K_iconst (v := nI 1) dX4_book_84 (by decide) rfl ?_
      refine K_callV (ci := 4) (d1 := d - 1) [_, _] dX4_book_85 ml_X4_241 (by decide) rfl rfl rfl (Nat.le_of_ble_eq_true rfl) hpy (by omega) rfl ?_
      rintro r N2 K2 ⟨z1, z2, z3, z4⟩
      subst z1
      subst z4
      refine K_iconst (v := nI 0) dX4_book_88 (by decide) rfl ?_
      refine K_istore_n (lv' := [(0, _), (1, _), (2, _)]) dX4_book_89 (by decide) rfl rfl ?_
      refine l2_X4_book (by rw [hna]; exact hn) z2 ?_ (s_n S) 0 N2 (by rw [hna]; exact Nat.zero_add _) (fun _ _ => rfl) (fun f hf => absurd hf (Nat.not_lt_zero f))
      intro N3 R3 x1
      have R3 : RY (clP (payPl (gC S) (nI 1) (s_n S))) N3 := R3
      have R4 : RY (gK (clP (payPl (gC S) (nI 1) (s_n S))) (s_yr S) (s_pl S)) N3 := R3.bk hya (s_pl S)
      have h34'' : N3 40 34 = nI (s_yr S) := by rw [x1 40 (by decide), z3 40 (by decide)]; exact h34'
      have R5 : RY (bkG S) (sM N3 40 34 (nI (s_yr S + 1))) := R4.yrUp (v := s_yr S + 1) (fun y f hy hf => by
        rcases Nat.lt_succ_iff_lt_or_eq.mp hy with hy | rfl
        · exact R4.2.2.2.1 y f (by show y < s_yr (payPl (gC S) (nI 1) (s_n S)); rw [hya]; exact hy) hf
        · rw [x1 75 (by decide), z3 75 (by decide), y2 f hf]
          simp [s_bk, gK])
      refine K_aload_n dX4_book_111 rfl rfl ?_
      refine K_dup dX4_book_112 rfl rfl ?_
      refine K_getI dX4_book_113 fl_X4_161 (by first | rfl | exact sk_rk (by omega) | exact sk_hh (by omega)) rfl (by first | assumption | rfl) rfl ?_
      refine K_iconst (v := nI 1) dX4_book_116 (by decide) rfl ?_
      refine K_addN dX4_book_117 rfl ?_
      refine K_putI dX4_book_118 fl_X4_161 (by first | rfl | exact sk_rk (by omega) | exact sk_hh (by omega)) rfl rfl rfl rfl ?_
      refine K_iload_n dX4_book_121 rfl rfl ?_
      refine K_iret dX4_book_122 rfl ?_
      exact ⟨rfl, R5, (F1.trans (FY.trans (N1 := N2) (fun i hi => z3 i (by omega)) (fun i hi => x1 i (by omega)))).set (by decide), rfl⟩
    refine CK.start [(0, _)] (plainFor_of_name (by decide)) (Nat.le_of_ble_eq_true rfl) rfl ?_
    refine K_aload_n dX4_book_0 rfl rfl ?_
    refine K_iconst (v := nI 0) dX4_book_1 (by decide) rfl ?_
    refine K_putI dX4_book_2 fl_X4_84 (by first | rfl | exact sk_rk (by omega) | exact sk_hh (by omega)) rfl rfl rfl rfl ?_
    refine K_aload_n dX4_book_5 rfl rfl ?_
    refine K_iconst (v := nI 0) dX4_book_6 (by decide) rfl ?_
    refine K_putI dX4_book_7 fl_X4_98 (by first | rfl | exact sk_rk (by omega) | exact sk_hh (by omega)) rfl rfl rfl rfl ?_
    refine K_aload_n dX4_book_10 rfl rfl ?_
    refine K_getI dX4_book_11 fl_X4_161 (by first | rfl | exact sk_rk (by omega) | exact sk_hh (by omega)) rfl (by first | assumption | rfl) rfl ?_
    refine K_bipush (v := nI 60) dX4_book_14 (by decide) rfl ?_
    refine K_icmp_eqN (tgt := 26) dX4_book_16 (by decide) rfl (by first | omega | fail) (by first | omega | fail) (fun c16 => ?_) (fun c16 => ?_)
    · exact absurd (Or.inl c16) hz
    · refine K_aload_n dX4_book_19 rfl rfl ?_
      refine K_cv (ci := 4) (d1 := d - 1) [] dX4_book_20 ml_X4_154 (by decide) rfl rfl rfl (Nat.le_of_ble_eq_true rfl) hcl (by omega) rfl ?_
      refine K_if_eqN (tgt := 28) dX4_book_23 (by decide) rfl (by first | omega | fail) (fun c23 => ?_) (fun c23 => ?_)
      · refine K_aload_n dX4_book_28 rfl rfl ?_
        refine K_cv (ci := 4) (d1 := d - 1) [] dX4_book_29 ml_X4_167 (by decide) rfl rfl rfl (Nat.le_of_ble_eq_true rfl) hgo (by omega) rfl ?_
        refine K_istore_n (lv' := [(0, _), (1, _)]) dX4_book_32 (by decide) rfl rfl ?_
        refine K_iconst (v := nI 0) dX4_book_33 (by decide) rfl ?_
        refine K_istore_n (lv' := [(0, _), (1, _), (2, _)]) dX4_book_34 (by decide) rfl rfl ?_
        exact l1_X4_book w0 hy60 R0 h34 fin 10 0 _ rfl (fun _ _ => rfl) (fun f hf => absurd hf (Nat.not_lt_zero f)) (fun _ _ => rfl)
      · exact absurd (Or.inr c23) hz
