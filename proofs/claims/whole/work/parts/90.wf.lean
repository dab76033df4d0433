theorem cpF_wf {f : Nat} {bt : Bool} {a st : Int32} : ∀ (k i : Nat) (S : GS), WF S → f < s_n S → WF (cpF f bt a st k i S)
  | 0, _, _, w, _ => w
  | k + 1, i, S, w, hf => by
    have hn := w.1.1
    show WF (if cbw S (nI f) (shv bt a st i) = true then cpF f bt a st k (i + 1) (addW S f (shv bt a st i).toNatClampNeg) else S)
    by_cases h : cbw S (nI f) (shv bt a st i) = true
    · rw [if_pos h]
      obtain ⟨f2, g, h1, h2, h3, h4, h5, h6⟩ := cbw_iff hn h
      have e : f = f2 := (nI_eq (by omega) (by omega)).mp h5
      subst e
      rw [h6, nI_clamp (by omega)]
      exact cpF_wf k (i + 1) _ (w.wish h1 h2 h3 h4) (by rw [addW_n]; exact hf)
    · rw [if_neg h]; exact w
theorem wf_wishes {S : GS} (w : WF S) (x kd n a st : Int32) : WF (o_wishes S x kd n a st).2 := by
  have hn := w.1.1
  unfold o_wishes
  by_cases hok : isF (s_n S) x = true ∧ ¬ kd < 0 ∧ ¬ nI 2 < kd ∧ n ≤ nI 20
  · rw [if_pos hok]
    obtain ⟨f, hf, rfl⟩ := (isF_iff hn).mp hok.1
    split
    · exact w.c0
    · show WF (wsG S (nI f).toNatClampNeg kd n a st)
      rw [nI_clamp (by omega)]
      unfold wsG
      split
      · exact WF.drop w.c0
      · exact cpF_wf _ _ _ (WF.drop w.c0) hf
  · rw [if_neg hok]; exact w.c0
