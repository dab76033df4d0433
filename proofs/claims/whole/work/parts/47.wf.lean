theorem WF.wk {S : GS} (w : WF S) {f k v : Nat} (hf : f < s_n S) (hk : 4 ≤ k ∧ k ≤ 7) (hv : v ≤ 51) : WF (gN S k f v) := by
  obtain ⟨⟨w11, w12, w13, w14, w15, w16⟩, w2, w3, w4, w5, w6, w7⟩ := w
  have hwl : ∀ z, s_wl (gN S k f v) z = s_wl S z := fun z => wl_gN (by omega)
  have ek : ∀ a i, a < 4 ∨ 7 < a → (gN S k f v).1 a i = S.1 a i := fun a i ha => by
    show (if a = k ∧ i = f then v else S.1 a i) = _
    rw [if_neg (by omega)]
  have en : s_n (gN S k f v) = s_n S := ek 0 0 (by decide)
  have ey : s_yr (gN S k f v) = s_yr S := ek 0 4 (by decide)
  have et : s_tc (gN S k f v) = s_tc S := ek 0 5 (by decide)
  have up : ∀ a i, S.1 a i ≤ 51 → (gN S k f v).1 a i ≤ 51 := fun a i h => by
    show (if a = k ∧ i = f then v else S.1 a i) ≤ 51
    split <;> omega
  have far : ∀ a i, s_n S ≤ i → (gN S k f v).1 a i = S.1 a i := fun a i h => by
    show (if a = k ∧ i = f then v else S.1 a i) = _
    rw [if_neg (by omega)]
  refine ⟨⟨by rw [en]; exact w11, by rw [ey]; exact w12, by rw [et]; exact w13, by rw [show s_st (gN S k f v) = s_st S from ek 0 1 (by decide)]; exact w14, by rw [show s_mo (gN S k f v) = s_mo S from ek 0 2 (by decide)]; exact w15, by rw [show s_li (gN S k f v) = s_li S from ek 0 3 (by decide)]; exact w16⟩, fun z hz => ?_, fun z h1 h2 => ?_, fun z j hz hj => ?_, fun z g hz hg => by rw [en]; exact w5 z g hz hg, fun y z g hy hz hg => by rw [en]; rw [ey] at hy; exact w6 y z g hy hz hg, fun j hj => ?_⟩
  · rw [en] at hz
    obtain ⟨a1, a2, a3, a4, a5, a6, a7⟩ := w2 z hz
    rw [show s_kd (gN S k f v) z = s_kd S z from ek 1 z (by decide), show s_bd (gN S k f v) z = s_bd S z from ek 2 z (by decide), show s_ps (gN S k f v) z = s_ps S z from ek 3 z (by decide)]
    exact ⟨a1, a2, a3, up 4 z a4, up 5 z a5, up 6 z a6, up 7 z a7⟩
  · rw [en] at h1
    obtain ⟨a1, a2, a3, a4, a5, a6, a7, a8, a9⟩ := w3 z h1 h2
    exact ⟨(ek 8 z (by decide)).trans a1, (far 4 z h1).trans a2, (far 5 z h1).trans a3, (far 6 z h1).trans a4, (far 7 z h1).trans a5, a6, a7, a8, a9⟩
  · rw [en, hwl]
    exact w4 z j hz (by rw [show s_wc (gN S k f v) z = s_wc S z from ek 8 z (by decide)] at hj; exact hj)
  · rw [en, show s_td (gN S k f v) j = s_td S j from ek 9 j (by decide)]
    rw [et] at hj
    exact w7 j hj
theorem wf_weeks {S : GS} (w : WF S) (x k a b : Int32) : WF (o_weeks S x k a b).2 := by
  have hn := w.1.1
  have w0 := w.c0
  unfold o_weeks
  split
  · next h =>
    obtain ⟨hx, ha, hb, hab⟩ := h
    obtain ⟨f, hf, rfl⟩ := (isF_iff hn).mp hx
    rw [nI_clamp (show f < 2 ^ 31 by omega)]
    have hb0 : ¬ b < 0 := fun e => by
      rw [Int32.lt_iff_toInt_lt] at e ha
      rw [Int32.le_iff_toInt_le] at hab
      omega
    have ha51 : ¬ nI 51 < a := fun e => by
      rw [Int32.lt_iff_toInt_lt] at e hb
      rw [Int32.le_iff_toInt_le] at hab
      omega
    have ra := (nI_rng (a := 0) (b := 51) (by decide) (by decide) ha ha51).2
    have rb := (nI_rng (a := 0) (b := 51) (by decide) (by decide) hb0 hb).2
    split
    · have h1 := WF.wk (S := gC S) w0 (f := f) (k := 4) hf (by decide) ra
      exact WF.wk h1 (f := f) (k := 5) hf (by decide) rb
    · split
      · have h1 := WF.wk (S := gC S) w0 (f := f) (k := 6) hf (by decide) ra
        exact WF.wk h1 (f := f) (k := 7) hf (by decide) rb
      · exact w0
  · exact w0
