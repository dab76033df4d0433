/-! the reference's undo -/
theorem payR_parts (S : GS) (p : Nat → Option Nat) (sg : Int32) : ∀ i, (payR S p sg i).1 = S.1 ∧ (payR S p sg i).2.1 = S.2.1 ∧ (payR S p sg i).2.2.1 = S.2.2.1
  | 0 => ⟨rfl, rfl, rfl⟩
  | i + 1 => by
    have ih := payR_parts S p sg i
    cases h : p i with
    | none => rw [payR_no h]; exact ih
    | some g => rw [payR_go h]; exact ih
theorem payG_po {A B : GS} {a b : Nat} {sg : Int32} (h1 : A.1 = B.1) (h2 : A.2.2.2 = B.2.2.2) : (payG A a b sg).2.2.2 = (payG B a b sg).2.2.2 := by
  obtain ⟨a1, a2, a3, a4⟩ := A
  obtain ⟨b1, b2, b3, b4⟩ := B
  have h1 : a1 = b1 := h1
  have h2 : a4 = b4 := h2
  subst h1
  subst h2
  rfl
theorem payR_po {S T : GS} (p : Nat → Option Nat) (sg : Int32) (h1 : S.1 = T.1) (h2 : S.2.2.2 = T.2.2.2) : ∀ i, (payR S p sg i).2.2.2 = (payR T p sg i).2.2.2
  | 0 => h2
  | i + 1 => by
    have ih := payR_po p sg h1 h2 i
    cases h : p i with
    | none => rw [payR_no h, payR_no h]; exact ih
    | some g =>
      rw [payR_go h, payR_go h]
      exact payG_po (by rw [(payR_parts S p sg i).1, (payR_parts T p sg i).1, h1]) ih
theorem payR_agree {S : GS} {p q : Nat → Option Nat} {sg : Int32} : ∀ {i : Nat}, (∀ j, j < i → p j = q j) → payR S p sg i = payR S q sg i
  | 0, _ => rfl
  | i + 1, h => by
    have ih := payR_agree (S := S) (sg := sg) (i := i) (fun j hj => h j (by omega))
    have e := h i (by omega)
    cases hq : q i with
    | none => rw [payR_no hq, payR_no (by rw [e]; exact hq), ih]
    | some g => rw [payR_go hq, payR_go (by rw [e]; exact hq), ih]
theorem unP_parts (S : GS) (y : Nat) : ∀ i, (unP S y i).1 = S.1 ∧ (unP S y i).2.1 = S.2.1 ∧ (unP S y i).2.2.2 = S.2.2.2 ∧ ∀ y2 f, s_bk (unP S y i) y2 f = s_bk S y2 f
  | 0 => ⟨rfl, rfl, rfl, fun _ _ => rfl⟩
  | i + 1 => by
    obtain ⟨a, b, c, d⟩ := unP_parts S y i
    exact ⟨a, b, c, d⟩
theorem RY.cong {S T : GS} {N : Mem} (h1 : T.1 = S.1) (h2 : T.2.1 = S.2.1) (h4 : T.2.2.2 = S.2.2.2) (hb : ∀ y f, s_bk T y f = s_bk S y f) (hp : ∀ f, f < s_n S → s_pl T f = s_pl S f) (R : RY S N) : RY T N := by
  obtain ⟨s1, s2, s3, s4⟩ := S
  obtain ⟨t1, t2, t3, t4⟩ := T
  have h1 : t1 = s1 := h1
  have h2 : t2 = s2 := h2
  have h4 : t4 = s4 := h4
  subst h1
  subst h2
  subst h4
  obtain ⟨a, b, c, d, e⟩ := R
  refine ⟨a, fun f hf => ?_, c, fun y f hy hf => ?_, e⟩
  · obtain ⟨b1, b2, b3, b4, b5, b6, b7, b8, b9, b10⟩ := b f hf
    exact ⟨b1, b2, b3, b4, b5, b6, b7, b8, b9, by rw [hp f hf]; exact b10⟩
  · rw [hb y f]; exact d y f hy hf
theorem RY.yr {S : GS} {N : Mem} (R : RY S N) {v : Nat} (hv : v ≤ s_yr S) : RY (gN S 0 4 v) (sM N 40 34 (nI v)) := by
  obtain ⟨⟨a1, a2, a3, a4, a5, a6, a7⟩, b, c, d, e⟩ := R
  have wl : ∀ f, s_wl (gN S 0 4 v) f = s_wl S f := fun f => wl_gN (by omega)
  have N1 : ∀ k i, k ≠ 0 → (gN S 0 4 v).1 k i = S.1 k i := fun k i hk => if_neg (fun z => hk z.1)
  refine ⟨⟨(sM_ne (Or.inr (by decide))).trans a1, (sM_ne (Or.inr (by decide))).trans a2, (sM_ne (Or.inr (by decide))).trans a3, (sM_ne (Or.inr (by decide))).trans a4, (sM_ne (Or.inr (by decide))).trans a5, (sM_ne (Or.inr (by decide))).trans a6, sM_eq _ _ _ _⟩, fun f hf => ?_, fun f hf => ?_, fun y f hy hf => ?_, fun i hi => ?_⟩
  · rw [sM_row (by decide), sM_row (by decide), sM_row (by decide), sM_row (by decide), sM_row (by decide), sM_row (by decide), sM_row (by decide), sM_row (by decide), sM_row (by decide), sM_row (by decide)]
    exact b f hf
  · rw [sM_row (by decide), sM_row (by decide), sM_row (by decide), sM_row (by decide), wl]
    exact c f hf
  · have hy : y < v := hy
    rw [sM_row (by decide)]; exact d y f (by omega) hf
  · rw [sM_row (by decide)]; exact e i hi
theorem wf_yr {S : GS} (w : WF S) {v : Nat} (hv : v ≤ s_yr S) : WF (gN S 0 4 v) := by
  obtain ⟨⟨w11, w12, w13, w14, w15, w16⟩, w2, w3, w4, w5, w6, w7⟩ := w
  have wl : ∀ f, s_wl (gN S 0 4 v) f = s_wl S f := fun f => wl_gN (by omega)
  refine ⟨⟨w11, (show v ≤ 60 by omega), w13, w14, w15, w16⟩, w2, w3, fun f k hf hk => ?_, w5, fun y f g hy hf hg => ?_, w7⟩
  · rw [wl]; exact w4 f k hf hk
  · have hy : y < v := hy
    exact w6 y f g (by omega) hf hg
