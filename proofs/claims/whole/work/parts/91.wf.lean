theorem fam_1 (S : GS) (k b p : Nat) (pet : Bool) (x c : Nat) : (famG S k b p pet).1 x c = if x = 0 ∧ c = 0 then s_n S + 1 else if x = 3 ∧ c = s_n S then p else if x = 2 ∧ c = s_n S then b else if x = 1 ∧ c = s_n S then k else S.1 x c := rfl
theorem fam_o {S : GS} {k b p : Nat} {pet : Bool} {x c : Nat} (h : x ≠ 1 ∧ x ≠ 2 ∧ x ≠ 3 ∧ ¬ (x = 0 ∧ c = 0)) : (famG S k b p pet).1 x c = S.1 x c := by
  rw [fam_1, if_neg h.2.2.2, if_neg (fun z => h.2.2.1 z.1), if_neg (fun z => h.2.1 z.1), if_neg (fun z => h.1 z.1)]
theorem WF.fam {S : GS} (w : WF S) {k b p : Nat} (pet : Bool) (hn : s_n S < 10) (hk : k < 4) (hb : 1 ≤ b ∧ b ≤ 9) (hp : 1 ≤ p ∧ p ≤ 9) : WF (famG S k b p pet) := by
  obtain ⟨⟨w11, w12, w13, w14, w15, w16⟩, w2, w3, w4, w5, w6, w7⟩ := w
  have o := fun x c h => fam_o (S := S) (k := k) (b := b) (p := p) (pet := pet) (x := x) (c := c) h
  have en : s_n (famG S k b p pet) = s_n S + 1 := rfl
  have ewl : ∀ f, s_wl (famG S k b p pet) f = s_wl S f := fun f => funext (fun c => o (20 + f) c (by omega))
  have ek : ∀ f, s_kd (famG S k b p pet) f = if f = s_n S then k else s_kd S f := fun f => by
    show (famG S k b p pet).1 1 f = _
    rw [fam_1, if_neg (by omega), if_neg (by omega), if_neg (by omega)]
    by_cases e : f = s_n S
    · rw [if_pos ⟨rfl, e⟩, if_pos e]
    · rw [if_neg (fun z => e z.2), if_neg e]; rfl
  have eb : ∀ f, s_bd (famG S k b p pet) f = if f = s_n S then b else s_bd S f := fun f => by
    show (famG S k b p pet).1 2 f = _
    rw [fam_1, if_neg (by omega), if_neg (by omega)]
    by_cases e : f = s_n S
    · rw [if_pos ⟨rfl, e⟩, if_pos e]
    · rw [if_neg (fun z => e z.2), if_neg (by omega), if_neg e]; rfl
  have ep : ∀ f, s_ps (famG S k b p pet) f = if f = s_n S then p else s_ps S f := fun f => by
    show (famG S k b p pet).1 3 f = _
    rw [fam_1, if_neg (by omega)]
    by_cases e : f = s_n S
    · rw [if_pos ⟨rfl, e⟩, if_pos e]
    · rw [if_neg (fun z => e z.2), if_neg (by omega), if_neg (by omega), if_neg e]; rfl
  refine ⟨⟨show s_n S + 1 ≤ 10 by omega, w12, w13, w14, w15, w16⟩, fun f hf => ?_, fun f h1 h2 => ?_, fun f c hf hc => ?_, fun f g hf hg => ?_, fun y f g hy hf hg => ?_, fun i hi => ?_⟩
  · have hf : f < s_n S + 1 := hf
    rw [ek, eb, ep]
    by_cases e : f = s_n S
    · rw [if_pos e, if_pos e, if_pos e]
      obtain ⟨-, a2, a3, a4, a5, -⟩ := w3 f (by omega) (by omega)
      refine ⟨hk, hb, hp, ?_, ?_, ?_, ?_⟩
      · show s_ff S f ≤ 51; omega
      · show s_ft S f ≤ 51; omega
      · show s_tf S f ≤ 51; omega
      · show s_tt S f ≤ 51; omega
    · rw [if_neg e, if_neg e, if_neg e]
      exact w2 f (by omega)
  · have h1 : s_n S + 1 ≤ f := h1
    exact w3 f (by omega) h2
  · rw [ewl, en]
    have := w4 f c hf hc
    exact ⟨by omega, this.2⟩
  · have := w5 f g hf hg
    rw [en]
    exact ⟨by omega, by omega, this.2.2⟩
  · have := w6 y f g hy hf hg
    rw [en]
    exact ⟨by omega, by omega, this.2.2⟩
  · have := w7 i hi
    show s_td S i < s_n S + 1
    omega
theorem wf_family {S : GS} (w : WF S) (k b p : Int32) (pet : Bool) : WF (o_family S k b p pet).2 := by
  unfold o_family
  by_cases h : famOk S k b p = true
  · rw [if_pos h]
    obtain ⟨a1, a2, a3, a4, a5⟩ := of_decide_eq_true h
    have hb := nI_rng (by decide) (by decide) a3.1 a3.2
    have hp := nI_rng (by decide) (by decide) a4.1 a4.2
    obtain ⟨j, hj, rfl⟩ := nI_of a1
    rw [nI_leI (by decide) hj] at a2
    show WF (famG (gC S) (nI j).toNatClampNeg b.toNatClampNeg p.toNatClampNeg pet)
    rw [nI_clamp hj]
    exact WF.fam w.c0 pet a5 (by omega) hb hp
  · rw [if_neg h]
    exact w.c0
