theorem wf_book {S : GS} (w : WF S) : WF (o_book S).2 := by
  have hyr := w.1.2.1
  unfold o_book
  split
  · exact w.c0
  · next hz =>
    have wA : WF (payPl (gC S) (nI 1) (s_n S)) := by
      have h := payR_wf w.c0 (p := s_pl S) (fun f g hf hg => by
        have := w.2.2.2.2.1 f g hf hg
        exact ⟨this.1, this.2.1⟩) (nI 1) (s_n S) w.1.1
      rw [show payR (gC S) (s_pl S) (nI 1) (s_n S) = payPl (gC S) (nI 1) (s_n S) from payR_pl (gC S) (nI 1) (s_n S)] at h
      exact h
    have hna : s_n (payPl (gC S) (nI 1) (s_n S)) = s_n S := (payPl_n (gC S) (nI 1) (s_n S)).1
    have hya : s_yr (payPl (gC S) (nI 1) (s_n S)) = s_yr S := payPl_yr (gC S) (nI 1) (s_n S)
    have wB : WF (clP (payPl (gC S) (nI 1) (s_n S))) := WF.plG wA (q := fun _ => none) (fun f g e => by cases e)
    show WF (gN (gK (clP (payPl (gC S) (nI 1) (s_n S))) (s_yr S) (s_pl S)) 0 4 (s_yr S + 1))
    obtain ⟨⟨w11, w12, w13, w14, w15, w16⟩, w2, w3, w4, w5, w6, w7⟩ := wB
    have wl : ∀ f, s_wl (gN (gK (clP (payPl (gC S) (nI 1) (s_n S))) (s_yr S) (s_pl S)) 0 4 (s_yr S + 1)) f = s_wl (clP (payPl (gC S) (nI 1) (s_n S))) f := fun f => wl_gN (by omega)
    refine ⟨⟨w11, (show s_yr S + 1 ≤ 60 by omega), w13, w14, w15, w16⟩, w2, w3, fun f k hf hk => ?_, w5, fun y f g hy hf hg => ?_, w7⟩
    · rw [wl]; exact w4 f k hf hk
    · have hy : y < s_yr S + 1 := hy
      have hg : (if 1 = 1 ∧ y = s_yr S then s_pl S f else s_bk (clP (payPl (gC S) (nI 1) (s_n S))) y f) = some g := hg
      by_cases e : y = s_yr S
      · rw [if_pos ⟨rfl, e⟩] at hg
        have := w.2.2.2.2.1 f g hf hg
        show f < s_n (payPl (gC S) (nI 1) (s_n S)) ∧ g < s_n (payPl (gC S) (nI 1) (s_n S)) ∧ g ≠ f
        rw [hna]
        exact this
      · rw [if_neg (fun z => e z.2)] at hg
        exact w6 y f g (by show y < s_yr (payPl (gC S) (nI 1) (s_n S)); rw [hya]; omega) hf hg
