/-! the reference's book -/
theorem RY.yrUp {S : GS} {N : Mem} (R : RY S N) {v : Nat} (hb : ∀ y f, y < v → f < 10 → N 75 (10 * y + f) = oI (s_bk S y f)) : RY (gN S 0 4 v) (sM N 40 34 (nI v)) := by
  obtain ⟨⟨a1, a2, a3, a4, a5, a6, a7⟩, b, c, d, e⟩ := R
  have wl : ∀ f, s_wl (gN S 0 4 v) f = s_wl S f := fun f => wl_gN (by omega)
  refine ⟨⟨(sM_ne (Or.inr (by decide))).trans a1, (sM_ne (Or.inr (by decide))).trans a2, (sM_ne (Or.inr (by decide))).trans a3, (sM_ne (Or.inr (by decide))).trans a4, (sM_ne (Or.inr (by decide))).trans a5, (sM_ne (Or.inr (by decide))).trans a6, sM_eq _ _ _ _⟩, fun f hf => ?_, fun f hf => ?_, fun y f hy hf => ?_, fun i hi => ?_⟩
  · rw [sM_row (by decide), sM_row (by decide), sM_row (by decide), sM_row (by decide), sM_row (by decide), sM_row (by decide), sM_row (by decide), sM_row (by decide), sM_row (by decide), sM_row (by decide)]
    exact b f hf
  · rw [sM_row (by decide), sM_row (by decide), sM_row (by decide), sM_row (by decide), wl]
    exact c f hf
  · have hy : y < v := hy
    rw [sM_row (by decide)]; exact hb y f hy hf
  · rw [sM_row (by decide)]; exact e i hi
theorem l1_X4_book {d : Nat} {S : GS} {N : Mem} {K : Mej} {Post : PK} {c y : Nat} (w : WF S) (hy : y < 60) (R : RY S N) (h34 : N 40 34 = nI y)
    (next : ∀ N1, (∀ r, r ≠ 75 → N1 r = N r) → (∀ f, f < 10 → N1 75 (10 * y + f) = oI (s_pl S f)) → (∀ j, j < 10 * y → N1 75 j = N 75 j) → EK d mX4_book Post 79 [(0, .ref 40), (1, .int (nI c)), (2, .int (nI 10))] [] N1 K) :
    ∀ (k i : Nat) (N1 : Mem), i + k = 10 → (∀ r, r ≠ 75 → N1 r = N r) → (∀ f, f < i → N1 75 (10 * y + f) = oI (s_pl S f)) → (∀ j, j < 10 * y → N1 75 j = N 75 j) → EK d mX4_book Post 35 [(0, .ref 40), (1, .int (nI c)), (2, .int (nI i))] [] N1 K
  | 0, i, N1, e, hF, hC, hO => by
    obtain rfl : i = 10 := by omega
    refine K_iload_n dX4_book_35 rfl rfl ?_
    refine K_bipush (v := nI 10) dX4_book_36 (by decide) rfl ?_
    refine K_icmp_geN (tgt := 79) dX4_book_38 (by decide) rfl (by first | omega | fail) (by first | omega | fail) (fun c38 => ?_) (fun c38 => ?_)
    · exact next N1 hF hC hO
    · omega
  | k + 1, i, N1, e, hF, hC, hO => by
    have hn := w.1.1
    have h7 : N1 40 1 = nI (s_n S) := by rw [hF 40 (by decide)]; exact R.1.1
    have h34' : N1 40 34 = nI y := by rw [hF 40 (by decide)]; exact h34
    have nx : ∀ v, v = oI (s_pl S i) → EK d mX4_book Post 35 [(0, .ref 40), (1, .int (nI c)), (2, .int (nI (i + 1)))] [] (sM N1 75 (10 * y + i) v) K := fun v hv =>
      l1_X4_book w hy R h34 next k (i + 1) (sM N1 75 (10 * y + i) v) (by omega) (fun r hr => (sM_row hr).trans (hF r hr)) (fun f hf => by
        rw [sM_at]
        by_cases e3 : f = i
        · rw [if_pos ⟨rfl, by rw [e3]⟩, e3]; exact hv
        · rw [if_neg (by omega)]; exact hC f (by omega)) (fun j hj => (sM_ne (Or.inr (by omega))).trans (hO j hj))
    by_cases hin : i < s_n S
    · have h55 : N1 55 i = oI (s_pl S i) := by rw [hF 55 (by decide)]; exact (R.2.1 i hin).2.2.2.2.2.2.2.2.2
      refine K_iload_n dX4_book_35 rfl rfl ?_
      refine K_bipush (v := nI 10) dX4_book_36 (by decide) rfl ?_
      refine K_icmp_geN (tgt := 79) dX4_book_38 (by decide) rfl (by first | omega | fail) (by first | omega | fail) (fun c38 => ?_) (fun c38 => ?_)
      · omega
      · refine K_aload_n dX4_book_41 rfl rfl ?_
        refine K_getR (r := 75) dX4_book_42 fl_X4_81 rfl rfl rfl rfl ?_
        refine K_bipush (v := nI 10) dX4_book_45 (by decide) rfl ?_
        refine K_aload_n dX4_book_47 rfl rfl ?_
        refine K_getI dX4_book_48 fl_X4_161 (by first | rfl | exact sk_rk (by omega) | exact sk_hh (by omega)) rfl (by first | assumption | rfl) rfl ?_
        refine K_mulN dX4_book_51 rfl ?_
        refine K_iload_n dX4_book_52 rfl rfl ?_
        refine K_addN dX4_book_53 rfl ?_
        refine K_iload_n dX4_book_54 rfl rfl ?_
        refine K_aload_n dX4_book_55 rfl rfl ?_
        refine K_getI dX4_book_56 fl_X4_87 (by first | rfl | exact sk_rk (by omega) | exact sk_hh (by omega)) rfl (by first | assumption | rfl) rfl ?_
        refine K_icmp_geN (tgt := 71) dX4_book_59 (by decide) rfl (by first | omega | fail) (by first | omega | fail) (fun c59 => ?_) (fun c59 => ?_)
        · omega
        · refine K_aload_n dX4_book_62 rfl rfl ?_
          refine K_getR (r := 55) dX4_book_63 fl_X4_50 rfl rfl rfl rfl ?_
          refine K_iload_n dX4_book_66 rfl rfl ?_
          refine K_iald dX4_book_67 (by first | rfl | exact sk_rk (by omega) | exact sk_hh (by omega)) (by first | omega | fail) (by decide) (by first | assumption | rfl) rfl ?_
          refine K_goto (tgt := 72) dX4_book_68 (by decide) ?_
          refine K_iast dX4_book_72 (by first | rfl | exact sk_rk (by omega) | exact sk_hh (by omega)) (by first | omega | fail) (by decide) rfl ?_
          first | refine K_incN (lv' := [(0, _), (1, _), (2, _)]) dX4_book_73 rfl (by decide) rfl rfl ?_ | refine K_iinc (lv' := [(0, _), (1, _), (2, _)]) dX4_book_73 rfl rfl (by decide) rfl rfl ?_
          refine K_goto (tgt := 35) dX4_book_76 (by decide) ?_
          exact nx _ rfl
    · have hpn : s_pl S i = none := (w.2.2.1 i (by omega) (by omega)).2.2.2.2.2.2.1
      refine K_iload_n dX4_book_35 rfl rfl ?_
      refine K_bipush (v := nI 10) dX4_book_36 (by decide) rfl ?_
      refine K_icmp_geN (tgt := 79) dX4_book_38 (by decide) rfl (by first | omega | fail) (by first | omega | fail) (fun c38 => ?_) (fun c38 => ?_)
      · omega
      · refine K_aload_n dX4_book_41 rfl rfl ?_
        refine K_getR (r := 75) dX4_book_42 fl_X4_81 rfl rfl rfl rfl ?_
        refine K_bipush (v := nI 10) dX4_book_45 (by decide) rfl ?_
        refine K_aload_n dX4_book_47 rfl rfl ?_
        refine K_getI dX4_book_48 fl_X4_161 (by first | rfl | exact sk_rk (by omega) | exact sk_hh (by omega)) rfl (by first | assumption | rfl) rfl ?_
        refine K_mulN dX4_book_51 rfl ?_
        refine K_iload_n dX4_book_52 rfl rfl ?_
        refine K_addN dX4_book_53 rfl ?_
        refine K_iload_n dX4_book_54 rfl rfl ?_
        refine K_aload_n dX4_book_55 rfl rfl ?_
        refine K_getI dX4_book_56 fl_X4_87 (by first | rfl | exact sk_rk (by omega) | exact sk_hh (by omega)) rfl (by first | assumption | rfl) rfl ?_
        refine K_icmp_geN (tgt := 71) dX4_book_59 (by decide) rfl (by first | omega | fail) (by first | omega | fail) (fun c59 => ?_) (fun c59 => ?_)
        · refine K_iconst (v := (-1)) dX4_book_71 (by decide) rfl ?_
          refine K_iast dX4_book_72 (by first | rfl | exact sk_rk (by omega) | exact sk_hh (by omega)) (by first | omega | fail) (by decide) rfl ?_
          first | refine K_incN (lv' := [(0, _), (1, _), (2, _)]) dX4_book_73 rfl (by decide) rfl rfl ?_ | refine K_iinc (lv' := [(0, _), (1, _), (2, _)]) dX4_book_73 rfl rfl (by decide) rfl rfl ?_
          refine K_goto (tgt := 35) dX4_book_76 (by decide) ?_
          exact nx _ (by rw [hpn]; rfl)
        · omega
theorem l2_X4_book {d : Nat} {A : GS} {N : Mem} {K : Mej} {Post : PK} {c : Nat} (hn : s_n A ≤ 10) (R : RY A N)
    (next : ∀ N1, RY (plG A (fun _ => none)) N1 → (∀ r, r ≠ 55 → N1 r = N r) → EK d mX4_book Post 111 [(0, .ref 40), (1, .int (nI c)), (2, .int (nI (s_n A)))] [] N1 K) :
    ∀ (k i : Nat) (N1 : Mem), i + k = s_n A → (∀ r, r ≠ 55 → N1 r = N r) → (∀ f, f < i → N1 55 f = oI none) → EK d mX4_book Post 90 [(0, .ref 40), (1, .int (nI c)), (2, .int (nI i))] [] N1 K
  | 0, i, N1, e, hF, hC => by
    have hi : i = s_n A := by omega
    subst hi
    have h7 : N1 40 1 = nI (s_n A) := by rw [hF 40 (by decide)]; exact R.1.1
    refine K_iload_n dX4_book_90 rfl rfl ?_
    refine K_aload_n dX4_book_91 rfl rfl ?_
    refine K_getI dX4_book_92 fl_X4_87 (by first | rfl | exact sk_rk (by omega) | exact sk_hh (by omega)) rfl (by first | assumption | rfl) rfl ?_
    refine K_icmp_geN (tgt := 111) dX4_book_95 (by decide) rfl (by first | omega | fail) (by first | omega | fail) (fun c95 => ?_) (fun c95 => ?_)
    · exact next N1 (R.plG (fun k _ _ => by rw [hF 40 (by decide)]) (fun i hi => hF i (by omega)) hC) hF
    · omega
  | k + 1, i, N1, e, hF, hC => by
    have h7 : N1 40 1 = nI (s_n A) := by rw [hF 40 (by decide)]; exact R.1.1
    have ih := l2_X4_book (d := d) (c := c) hn R next k (i + 1) (sM N1 55 i (-1)) (by omega) (fun r hr => (sM_row hr).trans (hF r hr)) (fun f hf => by
      rw [sM_at]
      by_cases e3 : f = i
      · rw [if_pos ⟨rfl, e3⟩]; rfl
      · rw [if_neg (by omega)]; exact hC f (by omega))
    refine K_iload_n dX4_book_90 rfl rfl ?_
    refine K_aload_n dX4_book_91 rfl rfl ?_
    refine K_getI dX4_book_92 fl_X4_87 (by first | rfl | exact sk_rk (by omega) | exact sk_hh (by omega)) rfl (by first | assumption | rfl) rfl ?_
    refine K_icmp_geN (tgt := 111) dX4_book_95 (by decide) rfl (by first | omega | fail) (by first | omega | fail) (fun c95 => ?_) (fun c95 => ?_)
    · omega
    · refine K_aload_n dX4_book_98 rfl rfl ?_
      refine K_getR (r := 55) dX4_book_99 fl_X4_50 rfl rfl rfl rfl ?_
      refine K_iload_n dX4_book_102 rfl rfl ?_
      refine K_iconst (v := (-1)) dX4_book_103 (by decide) rfl ?_
      refine K_iast dX4_book_104 (by first | rfl | exact sk_rk (by omega) | exact sk_hh (by omega)) (by first | omega | fail) (by decide) rfl ?_
      first | refine K_incN (lv' := [(0, _), (1, _), (2, _)]) dX4_book_105 rfl (by decide) rfl rfl ?_ | refine K_iinc (lv' := [(0, _), (1, _), (2, _)]) dX4_book_105 rfl rfl (by decide) rfl rfl ?_
      refine K_goto (tgt := 90) dX4_book_108 (by decide) ?_
      exact ih
