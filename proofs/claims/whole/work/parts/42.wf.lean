/-! The ghost state stays in bounds -/
theorem wf_in {S : GS} (w : WF S) (x : Int32) (b : Bool) : WF (o_in S x b).2 := by
  have hn := w.1.1
  have w0 := w.c0
  unfold o_in
  split
  · next h =>
    obtain ⟨f, hf, rfl⟩ := (isF_iff hn).mp h
    rw [nI_clamp (by omega)]
    obtain ⟨w1, w2, w3, w4, w5, w6, w7⟩ := w0
    refine ⟨w1, w2, fun g h1 h2 => ?_, w4, w5, w6, w7⟩
    have h1' : s_n S ≤ g := h1
    obtain ⟨a1, a2, a3, a4, a5, a6, a7, a8, a9⟩ := w3 g h1 h2
    refine ⟨a1, a2, a3, a4, a5, ?_, a7, a8, a9⟩
    show (if 1 = 1 ∧ g = f ∧ 0 = 0 then b else s_pr (gC S) g) = true
    rw [if_neg (by omega)]
    exact a6
  · exact w0
theorem WF.pl {S : GS} (w : WF S) {f : Nat} (hf : f < s_n S) {v : Option Nat} (hv : ∀ g, v = some g → g < s_n S ∧ g ≠ f) : WF (gP S 0 f 0 v) := by
  obtain ⟨w1, w2, w3, w4, w5, w6, w7⟩ := w
  have e : ∀ g, s_pl (gP S 0 f 0 v) g = if g = f then v else s_pl S g := fun g => by
    show (if 0 = 0 ∧ g = f ∧ 0 = 0 then v else s_pl S g) = _
    by_cases h : g = f
    · rw [if_pos ⟨rfl, h, rfl⟩, if_pos h]
    · rw [if_neg (fun z => h z.2.1), if_neg h]
  refine ⟨w1, w2, fun g h1 h2 => ?_, w4, fun g k hg hk => ?_, fun y g k hy hg hk => ?_, w7⟩
  · have h1' : s_n S ≤ g := h1
    obtain ⟨a1, a2, a3, a4, a5, a6, a7, a8, a9⟩ := w3 g h1 h2
    refine ⟨a1, a2, a3, a4, a5, a6, ?_, a8, a9⟩
    rw [e, if_neg (by omega)]
    exact a7
  · rw [e] at hk
    by_cases h : g = f
    · rw [if_pos h] at hk
      have := hv k hk
      subst h
      exact ⟨hf, this.1, this.2⟩
    · rw [if_neg h] at hk
      exact w5 g k hg hk
  · exact w6 y g k hy hg (by simpa [s_bk, gP] using hk)
theorem wf_put {S : GS} (w : WF S) (x y : Int32) : WF (o_put S x y).2 := by
  have hn := w.1.1
  have w0 := w.c0
  unfold o_put
  split
  · next h =>
    obtain ⟨f, hf, rfl⟩ := (isF_iff hn).mp h.1
    rw [nI_clamp (by omega)]
    refine WF.pl w0 hf (fun g hg => ?_)
    split at hg
    · cases hg
    · next hy =>
      rcases h.2 with e | e
      · exact absurd e hy
      · obtain ⟨f2, g2, z1, z2, z3, z4, rfl⟩ := (two_iff hn).mp e
        rw [nI_clamp (by omega)] at hg
        cases hg
        rw [nI_eq (by omega) (by omega)] at z4
        exact ⟨z2, by omega⟩
  · exact w0
theorem WF.sc {S : GS} (w : WF S) {i v : Nat} (hi : i = 1 ∨ i = 2 ∨ i = 3) (h1 : i = 1 → 1 ≤ v ∧ v ≤ 8) (h2 : i = 2 → 2 ≤ v ∧ v ≤ 10) (h3 : i = 3 → v ≤ 500) : WF (gN S 0 i v) := by
  obtain ⟨⟨w11, w12, w13, w14, w15, w16⟩, w2, w3, w4, w5, w6, w7⟩ := w
  have hwl : ∀ f, s_wl (gN S 0 i v) f = s_wl S f := fun f => wl_gN (by decide)
  have en : s_n (gN S 0 i v) = s_n S := by
    show (if 0 = 0 ∧ 0 = i then v else S.1 0 0) = _
    rw [if_neg (by omega)]; rfl
  have ey : s_yr (gN S 0 i v) = s_yr S := by
    show (if 0 = 0 ∧ 4 = i then v else S.1 0 4) = _
    rw [if_neg (by omega)]; rfl
  have et : s_tc (gN S 0 i v) = s_tc S := by
    show (if 0 = 0 ∧ 5 = i then v else S.1 0 5) = _
    rw [if_neg (by omega)]; rfl
  refine ⟨⟨by rw [en]; exact w11, by rw [ey]; exact w12, by rw [et]; exact w13, ?_, ?_, ?_⟩, fun f hf => w2 f (by rw [en] at hf; exact hf), fun f a b => w3 f (by rw [en] at a; exact a) b, fun f k hf hk => by rw [en, hwl]; exact w4 f k hf hk, fun f g hf hg => by rw [en]; exact w5 f g hf hg, fun y f g hy hf hg => by rw [en]; rw [ey] at hy; exact w6 y f g hy hf hg, fun j hj => by rw [en]; rw [et] at hj; exact w7 j hj⟩
  · show 1 ≤ (if 0 = 0 ∧ 1 = i then v else S.1 0 1) ∧ (if 0 = 0 ∧ 1 = i then v else S.1 0 1) ≤ 8
    by_cases e : i = 1
    · rw [if_pos ⟨rfl, e.symm⟩]; exact h1 e
    · rw [if_neg (by omega)]; exact w14
  · show 2 ≤ (if 0 = 0 ∧ 2 = i then v else S.1 0 2) ∧ (if 0 = 0 ∧ 2 = i then v else S.1 0 2) ≤ 10
    by_cases e : i = 2
    · rw [if_pos ⟨rfl, e.symm⟩]; exact h2 e
    · rw [if_neg (by omega)]; exact w15
  · show (if 0 = 0 ∧ 3 = i then v else S.1 0 3) ≤ 500
    by_cases e : i = 3
    · rw [if_pos ⟨rfl, e.symm⟩]; exact h3 e
    · rw [if_neg (by omega)]; exact w16
theorem nI_rng {v : Int32} {a b : Nat} (ha : a < 2 ^ 31) (hb : b < 2 ^ 31) (h1 : ¬ v < nI a) (h2 : ¬ nI b < v) : a ≤ v.toNatClampNeg ∧ v.toNatClampNeg ≤ b := by
  obtain ⟨j, hj, rfl⟩ := nI_of (nlt0 ha h1)
  rw [nI_clamp hj]
  rw [nI_ltI hj ha] at h1
  rw [nI_ltI hb hj] at h2
  omega
theorem wf_set {S : GS} (w : WF S) (x v : Int32) : WF (o_set S x v).2 := by
  have w0 := w.c0
  unfold o_set
  split
  · next h => exact w0.sc (Or.inl rfl) (fun _ => nI_rng (by decide) (by decide) h.2.1 h.2.2) (fun e => by omega) (fun e => by omega)
  · split
    · next h => exact w0.sc (Or.inr (Or.inl rfl)) (fun e => by omega) (fun _ => nI_rng (by decide) (by decide) h.2.1 h.2.2) (fun e => by omega)
    · split
      · next h => exact w0.sc (Or.inr (Or.inr rfl)) (fun e => by omega) (fun e => by omega) (fun _ => (nI_rng (a := 0) (by decide) (by decide) h.2.1 h.2.2).2)
      · exact w0
theorem wf_travel {S : GS} (w : WF S) (hc : s_ch S = true → 1 ≤ s_tc S) : WF (o_travel S).2 := by
  unfold o_travel
  split
  · next h =>
    have := hc h
    exact trv_wf w.c0 _ (by show s_tc S - 1 < s_tc S; omega)
  · exact w
theorem wf_undo {S : GS} (w : WF S) : WF (o_undo S).2 := by
  unfold o_undo
  split
  · exact w.c0
  · next h => exact payPl_wf (unG_wf w h) (-1) (s_n S) (Nat.le_refl (s_n (unG S)))
theorem wf_wish {S : GS} (w : WF S) (x y : Int32) : WF (o_wish S x y).2 := by
  have hn := w.1.1
  unfold o_wish
  split
  · next h =>
    obtain ⟨f, g, hf, hg, hfg, h0, rfl, rfl⟩ := cbw_iff hn h
    rw [nI_clamp (by omega), nI_clamp (by omega)]
    exact WF.wish (S := gC S) w.c0 hf hg hfg h0
  · exact w.c0
