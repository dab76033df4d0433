theorem itN_mul {t : Nat → Nat} {x m : Nat} (h : itN t x m = x) : ∀ k, itN t x (k * m) = x
  | 0 => by rw [Nat.zero_mul]; rfl
  | k + 1 => by
    rw [Nat.succ_mul, itN_per h]
    exact itN_mul h k
theorem VP.inj {S : GS} {t : Nat → Nat} (h : VP S t) {a b : Nat} (ha : a < s_n S) (hb : b < s_n S) (e : t a = t b) : a = b := by
  obtain ⟨m, m1, -, m3⟩ := (h a ha).2.2
  obtain ⟨k, k1, -, k3⟩ := (h b hb).2.2
  have e1 := itN_mul m3 k
  have e2 := itN_mul k3 m
  rw [Nat.mul_comm] at e2
  have hp : 0 < k * m := Nat.mul_pos (by omega) (by omega)
  obtain ⟨j, hj⟩ : ∃ j, k * m = j + 1 := ⟨k * m - 1, by omega⟩
  rw [hj, ← itN_s] at e1 e2
  rw [e, e2] at e1
  exact e1.symm
def Good (S : GS) (k : Bool) (Z : (Nat → Nat) → Prop) (o : Option (Nat → Nat)) : Prop := (∀ t, Z t → VP S t) ∧ ((o = none ∧ ∀ t, ¬ Z t) ∨ ∃ b, o = some b ∧ Z b ∧ ∀ t, Z t → bt S k t b)
def Ext (S : GS) (u : Nat → Nat) (f : Nat) (t : Nat → Nat) : Prop := VP S t ∧ ∀ g, g < f → t g = u g
theorem Good.of {S : GS} {k : Bool} {Z Y : (Nat → Nat) → Prop} {o : Option (Nat → Nat)} (h : Good S k Z o) (e : ∀ t, Z t ↔ Y t) : Good S k Y o := by
  refine ⟨fun t ht => h.1 t ((e t).mpr ht), ?_⟩
  rcases h.2 with ⟨a, b⟩ | ⟨b, a, c, d⟩
  · exact Or.inl ⟨a, fun t ht => b t ((e t).mpr ht)⟩
  · exact Or.inr ⟨b, a, (e b).mp c, fun t ht => d t ((e t).mpr ht)⟩
def PI (S : GS) (u : Nat → Nat) (f tk : Nat) : Prop := (∀ g, g < f → u g < s_n S ∧ (u g ≠ g → s_tk S g (u g) = true ∧ CLx S u g)) ∧ (∀ g h, g < f → h < f → u g = u h → g = h) ∧ tk < 1024 ∧ ∀ x, x < 10 → (tk.testBit x = true ↔ ∃ g, g < f ∧ u g = x)
def upt (u : Nat → Nat) (f g : Nat) : Nat → Nat := fun i => if i = f then g else u i
theorem upt_at (u : Nat → Nat) (f g : Nat) : upt u f g f = g := if_pos rfl
theorem upt_ne {u : Nat → Nat} {f g i : Nat} (h : i ≠ f) : upt u f g i = u i := if_neg h
/-- f's way within the first f + 1 hangs on these alone -/
theorem CLx_agree {S : GS} {t u : Nat → Nat} {f : Nat} (h : ∀ g, g ≤ f → t g = u g) (hc : CLx S u f) : CLx S t f := fun m m1 m2 m3 => by
  have ag : ∀ i, i ≤ m → itN t f i = itN u f i := by
    intro i
    induction i with
    | zero => intro _; rfl
    | succ i ih =>
      intro hi
      have e := ih (by omega)
      have := m2 i (by omega)
      show t (itN t f i) = u (itN u f i)
      rw [h _ this, e]
  obtain ⟨m4, q1, q2, q3⟩ := hc m m1 (fun i hi => by rw [← ag i (by omega)]; exact m2 i hi) (by rw [← ag m (Nat.le_refl m)]; exact m3)
  have bd : ∀ i, itN u f i ≤ f := by
    have hm : itN u f m = f := by rw [← ag m (Nat.le_refl m)]; exact m3
    intro i
    induction i using Nat.strongRecOn with
    | ind i ih =>
      rcases Nat.lt_or_ge i m with hi | hi
      · rw [← ag i (by omega)]; exact m2 i hi
      · have := itN_per hm (i - m)
        rw [show i - m + m = i by omega] at this
        rw [this]
        exact ih (i - m) (by omega)
  exact ⟨m4, q1, q2, by rw [itN_agree h (fun i _ => bd i)]; exact q3⟩
/-- all placed: a plan -/
theorem leafVP {S : GS} (w : WF S) {u : Nat → Nat} {tk : Nat} (h : PI S u (s_n S) tk) : VP S u := by
  have hm := w.1.2.2.2.2.1
  obtain ⟨h1, h2, -, -⟩ := h
  have cl : ∀ x, x < s_n S → ∀ i, itN u x i < s_n S := fun x hx i => by
    induction i with
    | zero => exact hx
    | succ i ih => exact (h1 _ ih).1
  have back : ∀ x, x < s_n S → ∃ m, 1 ≤ m ∧ itN u x m = x := fun x hx => by
    have hp : ¬ ∀ i j, i < j → j < s_n S + 1 → itN u x i ≠ itN u x j := fun hh => by
      have := pigeon (s_n S) (s_n S + 1) (itN u x) (fun i _ => cl x hx i) hh
      omega
    have : ∃ i j, i < j ∧ itN u x i = itN u x j := Classical.byContradiction (fun hh => hp (fun i j hij _ e => hh ⟨i, j, hij, e⟩))
    obtain ⟨i, j, hij, e⟩ := this
    have key : ∀ i, ∀ d, itN u x i = itN u x (i + d) → itN u x d = x := by
      intro i
      induction i with
      | zero => intro d e; rw [Nat.zero_add] at e; exact e.symm
      | succ i ih =>
        intro d e
        refine ih d ?_
        have e : u (itN u x i) = u (itN u x (i + d)) := by
          rw [show i + 1 + d = (i + d) + 1 by omega] at e
          exact e
        exact h2 _ _ (cl x hx i) (cl x hx (i + d)) e
    exact ⟨j - i, by omega, key i (j - i) (by rw [show i + (j - i) = j by omega]; exact e)⟩
  intro f hf
  refine ⟨(h1 f hf).1, fun e => ((h1 f hf).2 e).1, ?_⟩
  obtain ⟨m, m1, m2⟩ := back f hf
  obtain ⟨j, hj⟩ : ∃ j, ∀ i, itN u f i ≤ itN u f j := by
    have : ∀ M, ∃ j, ∀ i, i ≤ M → itN u f i ≤ itN u f j := by
      intro M
      induction M with
      | zero => exact ⟨0, fun i hi => by rw [show i = 0 by omega]; exact Nat.le_refl _⟩
      | succ M ih =>
        obtain ⟨j, hj⟩ := ih
        rcases Nat.le_total (itN u f (M + 1)) (itN u f j) with hh | hh
        · exact ⟨j, fun i hi => by
            rcases Nat.lt_or_ge i (M + 1) with h3 | h3
            · exact hj i (by omega)
            · rw [show i = M + 1 by omega]; exact hh⟩
        · exact ⟨M + 1, fun i hi => by
            rcases Nat.lt_or_ge i (M + 1) with h3 | h3
            · exact Nat.le_trans (hj i (by omega)) hh
            · rw [show i = M + 1 by omega]; exact Nat.le_refl _⟩
    obtain ⟨j, hj⟩ := this m
    refine ⟨j, fun i => ?_⟩
    induction i using Nat.strongRecOn with
    | ind i ih =>
      rcases Nat.lt_or_ge i (m + 1) with hi | hi
      · exact hj i (by omega)
      · have := itN_per m2 (i - m)
        rw [show i - m + m = i by omega] at this
        rw [this]
        exact ih (i - m) (by omega)
  have hx := cl f hf j
  have per : itN u (itN u f j) m = itN u f j := by rw [itN_add]; exact itN_per m2 j
  obtain ⟨p, p1, p2, p3⟩ : ∃ p, 1 ≤ p ∧ p ≤ s_mo S ∧ itN u (itN u f j) p = itN u f j := by
    by_cases hs : u (itN u f j) = itN u f j
    · exact ⟨1, by omega, by omega, hs⟩
    · exact ((h1 _ hx).2 hs).2 m m1 (fun i _ => by rw [itN_add]; exact hj (j + i)) per
  refine ⟨p, p1, p2, ?_⟩
  have e3 : itN u (itN u f j) (m * j - j) = f := by
    rw [itN_add]
    rcases Nat.eq_zero_or_pos j with rfl | hj0
    · rw [Nat.mul_zero]; rfl
    · have : j ≤ m * j := Nat.le_mul_of_pos_left j (by omega)
      rw [show j + (m * j - j) = j * m by rw [Nat.mul_comm j m]; omega]
      exact itN_mul m2 j
  have e4 : itN u f p = itN u (itN u (itN u f j) (m * j - j)) p := by rw [e3]
  rw [e4, itN_add, Nat.add_comm, ← itN_add, p3, e3]
theorem PI.go {S : GS} {u : Nat → Nat} {f g tk : Nat} (h : PI S u f tk) (hg : g < s_n S) (hn : s_n S ≤ 10) (ht : tk.testBit g = false) (hc : g ≠ f → s_tk S f g = true ∧ CLx S (upt u f g) f) : PI S (upt u f g) (f + 1) (tk ||| 2 ^ g) := by
  obtain ⟨h1, h2, h3, h4⟩ := h
  refine ⟨fun x hx => ?_, fun x y hx hy e => ?_, Nat.or_lt_two_pow (n := 10) h3 (Nat.pow_lt_pow_right (by omega) (by omega)), fun x hx => ?_⟩
  · rcases Nat.lt_succ_iff_lt_or_eq.mp hx with hx | rfl
    · have a := h1 x hx
      rw [upt_ne (by omega)]
      refine ⟨a.1, fun e => ⟨(a.2 e).1, CLx_agree (fun y hy => upt_ne (by omega)) (a.2 e).2⟩⟩
    · rw [upt_at]
      exact ⟨hg, hc⟩
  · have no : ∀ z, z < f → u z ≠ g := fun z hz ez => by
      have := (h4 g (by omega)).mpr ⟨z, hz, ez⟩
      rw [ht] at this
      cases this
    rcases Nat.lt_succ_iff_lt_or_eq.mp hx with hx | hx <;> rcases Nat.lt_succ_iff_lt_or_eq.mp hy with hy | hy
    · rw [upt_ne (by omega), upt_ne (by omega)] at e
      exact h2 x y hx hy e
    · rw [upt_ne (by omega), hy, upt_at] at e
      exact absurd e (no x hx)
    · rw [hx, upt_at, upt_ne (by omega)] at e
      exact absurd e.symm (no y hy)
    · omega
  · rw [or_bit, Bool.or_eq_true, decide_eq_true_eq, h4 x hx]
    constructor
    · rintro (rfl | ⟨z, hz, ez⟩)
      · exact ⟨f, by omega, upt_at _ _ _⟩
      · exact ⟨z, by omega, by rw [upt_ne (by omega)]; exact ez⟩
    · rintro ⟨z, hz, ez⟩
      rcases Nat.lt_succ_iff_lt_or_eq.mp hz with hz | rfl
      · rw [upt_ne (by omega)] at ez
        exact Or.inr ⟨z, hz, ez⟩
      · rw [upt_at] at ez
        exact Or.inl ez.symm
def ZL (S : GS) (Z : (Nat → Nat) → Prop) (u : Nat → Nat) (f g : Nat) (t : Nat → Nat) : Prop := Z t ∨ (Ext S u f t ∧ t f ≠ f ∧ t f < g)
theorem ZL_0 {S : GS} {Z : (Nat → Nat) → Prop} {u : Nat → Nat} {f : Nat} (t : Nat → Nat) : Z t ↔ ZL S Z u f 0 t := ⟨Or.inl, fun h => h.elim id (fun z => absurd z.2.2 (Nat.not_lt_zero _))⟩
theorem ZL_skip {S : GS} {Z : (Nat → Nat) → Prop} {u : Nat → Nat} {f g : Nat} (h : ∀ t, Ext S u f t → t f = g → g ≠ f → False) (t : Nat → Nat) : ZL S Z u f g t ↔ ZL S Z u f (g + 1) t := by
  constructor
  · rintro (z | ⟨a, b, c⟩)
    · exact Or.inl z
    · exact Or.inr ⟨a, b, by omega⟩
  · rintro (z | ⟨a, b, c⟩)
    · exact Or.inl z
    · rcases Nat.lt_succ_iff_lt_or_eq.mp c with c | c
      · exact Or.inr ⟨a, b, c⟩
      · exact absurd c (fun e => h t a e (by omega))
theorem ext_upt {S : GS} {u : Nat → Nat} {f g : Nat} {t : Nat → Nat} : Ext S (upt u f g) (f + 1) t ↔ Ext S u f t ∧ t f = g := by
  constructor
  · rintro ⟨a, b⟩
    refine ⟨⟨a, fun x hx => ?_⟩, ?_⟩
    · rw [b x (by omega), upt_ne (by omega)]
    · rw [b f (by omega), upt_at]
  · rintro ⟨⟨a, b⟩, c⟩
    refine ⟨a, fun x hx => ?_⟩
    rcases Nat.lt_succ_iff_lt_or_eq.mp hx with hx | rfl
    · rw [b x hx, upt_ne (by omega)]
    · rw [c, upt_at]
theorem ZL_take {S : GS} {Z : (Nat → Nat) → Prop} {u : Nat → Nat} {f g : Nat} (hg : g ≠ f) (t : Nat → Nat) : (ZL S Z u f g t ∨ Ext S (upt u f g) (f + 1) t) ↔ ZL S Z u f (g + 1) t := by
  rw [ext_upt]
  constructor
  · rintro ((z | ⟨a, b, c⟩) | ⟨a, b⟩)
    · exact Or.inl z
    · exact Or.inr ⟨a, b, by omega⟩
    · exact Or.inr ⟨a, by omega, by omega⟩
  · rintro (z | ⟨a, b, c⟩)
    · exact Or.inl (Or.inl z)
    · rcases Nat.lt_succ_iff_lt_or_eq.mp c with c | c
      · exact Or.inl (Or.inr ⟨a, b, c⟩)
      · exact Or.inr ⟨a, c⟩
theorem ZL_n {S : GS} {Z : (Nat → Nat) → Prop} {u : Nat → Nat} {f : Nat} (hf : f < s_n S) (t : Nat → Nat) : (ZL S Z u f (s_n S) t ∨ Ext S (upt u f f) (f + 1) t) ↔ (Z t ∨ Ext S u f t) := by
  rw [ext_upt]
  constructor
  · rintro ((z | ⟨a, b, c⟩) | ⟨a, b⟩)
    · exact Or.inl z
    · exact Or.inr a
    · exact Or.inr a
  · rintro (z | a)
    · exact Or.inl (Or.inl z)
    · by_cases e : t f = f
      · exact Or.inr ⟨a, e⟩
      · exact Or.inl (Or.inr ⟨a, e, (a.1 f hf).1⟩)
theorem ord_next {S : GS} (hn : s_n S ≤ 10) {Z : (Nat → Nat) → Prop} {u : Nat → Nat} {f g : Nat} (hf : f < s_n S) (hg : g ≤ s_n S) (ho : ∀ s t, Z s → Ext S u f t → nm s (s_n S) < nm t (s_n S)) (v : Nat) (hv : g ≤ v) (s t : Nat → Nat) (hs : ZL S Z u f g s) (ht : Ext S u f t) (hd : dgt t f = v) : nm s (s_n S) < nm t (s_n S) := by
  rcases hs with z | ⟨a, b, c⟩
  · exact ho s t z ht
  · have h := nm_lt (t := s) (u := t) (f := f) (fun i hi => by rw [a.2 i hi, ht.2 i hi]) (by
      have : dgt s f = s f := if_neg b
      omega) (s_n S - (f + 1)) (fun i hi => dgt_le (by have := (a.1 i (by omega)).1; omega))
    rw [show f + 1 + (s_n S - (f + 1)) = s_n S by omega] at h
    exact h
