theorem WF.tell {S : GS} (w : WF S) {m : Nat} {td : Nat → Nat} (hm : m ≤ 10) (ht : ∀ i, i < m → td i < s_n S) : WF (tellG S m td) := by
  obtain ⟨⟨w11, w12, w13, w14, w15, w16⟩, w2, w3, w4, w5, w6, w7⟩ := w
  exact ⟨⟨w11, w12, hm, w14, w15, w16⟩, w2, w3, fun f k hf hk => by rw [tellG_wl]; exact w4 f k hf hk, w5, w6, ht⟩
theorem wf_ring {S : GS} (w : WF S) (x : Int32) : WF (o_ring S x).2 := by
  have hn := w.1.1
  unfold o_ring
  split
  · next h =>
    obtain ⟨f, hf, rfl⟩ := (isF_iff hn).mp h
    rw [nI_clamp (show f < 2 ^ 31 by omega)]
    split
    · exact w.c0
    · next hz =>
      have h0 : s_fc S = 0 := Classical.byContradiction (fun e => hz (Or.inr e))
      have hp : s_pl S f ≠ none := fun e => hz (Or.inl e)
      exact WF.tell w.c0 (s_rl_le S f) (fun i _ => (it_ok h0 w hf hp i).1)
  · exact w.c0
theorem WF.br {S : GS} (w : WF S) {f g : Nat} (hf : f < s_n S) (hg : g < s_n S) (b : Bool) : WF (gB S 2 f g b) := by
  obtain ⟨w1, w2, w3, w4, w5, w6, w7⟩ := w
  refine ⟨w1, w2, fun z h1 h2 => ?_, w4, w5, w6, w7⟩
  have h1' : s_n S ≤ z := h1
  obtain ⟨a1, a2, a3, a4, a5, a6, a7, a8, a9⟩ := w3 z h1 h2
  refine ⟨a1, a2, a3, a4, a5, a6, a7, a8, fun y hy => ?_⟩
  obtain ⟨c1, c2⟩ := a9 y hy
  constructor
  · show (if 2 = 2 ∧ z = f ∧ y = g then b else s_br S z y) = false
    rw [if_neg (by omega)]
    exact c1
  · show (if 2 = 2 ∧ y = f ∧ z = g then b else s_br S y z) = false
    rw [if_neg (by omega)]
    exact c2
theorem wf_bar {S : GS} (w : WF S) (x y : Int32) (b : Bool) : WF (o_bar S x y b).2 := by
  have hn := w.1.1
  unfold o_bar
  split
  · next h =>
    obtain ⟨f, g, hf, hg, hfg, rfl, rfl⟩ := (two_iff hn).mp h
    rw [nI_clamp (show f < 2 ^ 31 by omega), nI_clamp (show g < 2 ^ 31 by omega)]
    exact WF.br (WF.br (S := gC S) w.c0 hf hg b) hg hf b
  · exact w.c0
