/-! ways that meet none twice, pure: the longest, the first of them -/
def ch (W : Nat → Nat → Bool) (n : Nat) : Nat → Nat → List Nat → Prop
  | _, _, [] => True
  | met, f, g :: q => g < n ∧ met.testBit g = false ∧ W f g = true ∧ ch W n (met ||| 2 ^ g) g q
def gL {α : Type} (F : Nat → α → α) : Nat → α → α
  | 0, b => b
  | i + 1, b => F i (gL F i b)
/-- the reference's search: from f by the way p, b the best till now -/
def gOn (W : Nat → Nat → Bool) (n : Nat) : Nat → Nat → Nat → List Nat → List Nat → List Nat
  | 0, _, _, _, b => b
  | r + 1, f, met, p, b => gL (fun g b => if met.testBit g = true ∨ W f g = false then b else gOn W n r g (met ||| 2 ^ g) (p ++ [g]) b) n (if b.length < p.length then p else b)
def Bst (p b : List Nat) (X : List Nat → Prop) (c : List Nat) : Prop :=
  (c = b ∧ ∀ q, X q → p.length + q.length ≤ b.length) ∨ ∃ q, X q ∧ c = p ++ q ∧ b.length < p.length + q.length ∧ ∀ q2, X q2 → q2.length < q.length ∨ (q2.length = q.length ∧ lx q q2)
theorem lx_refl : ∀ q, lx q q
  | [] => trivial
  | _ :: q => Or.inr ⟨rfl, lx_refl q⟩
theorem Bst.comp {p b b1 b2 : List Nat} {X Y : List Nat → Prop} (h1 : Bst p b X b1) (h2 : Bst p b1 Y b2) (ho : ∀ q1 q2, X q1 → Y q2 → q1.length = q2.length → lx q1 q2) : Bst p b (fun q => X q ∨ Y q) b2 := by
  rcases h1 with ⟨rfl, h1⟩ | ⟨q1, x1, rfl, l1, m1⟩
  · rcases h2 with ⟨rfl, h2⟩ | ⟨q2, y2, rfl, l2, m2⟩
    · exact Or.inl ⟨rfl, fun q hq => hq.elim (h1 q) (h2 q)⟩
    · refine Or.inr ⟨q2, Or.inr y2, rfl, l2, fun q hq => ?_⟩
      rcases hq with hq | hq
      · have := h1 q hq; exact Or.inl (by omega)
      · exact m2 q hq
  · rcases h2 with ⟨rfl, h2⟩ | ⟨q2, y2, rfl, l2, m2⟩
    · refine Or.inr ⟨q1, Or.inl x1, rfl, l1, fun q hq => ?_⟩
      rcases hq with hq | hq
      · exact m1 q hq
      · have := h2 q hq
        rw [List.length_append] at this
        rcases Nat.lt_or_ge q.length q1.length with h | h
        · exact Or.inl h
        · exact Or.inr ⟨by omega, ho q1 q x1 hq (by omega)⟩
    · rw [List.length_append] at l2
      refine Or.inr ⟨q2, Or.inr y2, rfl, by omega, fun q hq => ?_⟩
      rcases hq with hq | hq
      · rcases m1 q hq with h | h
        · exact Or.inl (by omega)
        · exact Or.inl (by omega)
      · exact m2 q hq
theorem Bst.of {p b c : List Nat} {X Y : List Nat → Prop} (h : Bst p b X c) (e : ∀ q, X q ↔ Y q) : Bst p b Y c := by
  rcases h with ⟨h1, h2⟩ | ⟨q, h1, h2, h3, h4⟩
  · exact Or.inl ⟨h1, fun q hq => h2 q ((e q).mpr hq)⟩
  · exact Or.inr ⟨q, (e q).mp h1, h2, h3, fun q2 hq => h4 q2 ((e q2).mpr hq)⟩
theorem Bst.up {p b c : List Nat} {g : Nat} {X : List Nat → Prop} (h : Bst (p ++ [g]) b X c) : Bst p b (fun q => ∃ q2, q = g :: q2 ∧ X q2) c := by
  rcases h with ⟨h1, h2⟩ | ⟨q, h1, h2, h3, h4⟩
  · refine Or.inl ⟨h1, ?_⟩
    rintro q ⟨q2, rfl, hq⟩
    have := h2 q2 hq
    simp only [List.length_append, List.length_cons, List.length_nil] at this ⊢
    omega
  · refine Or.inr ⟨g :: q, ⟨q, rfl, h1⟩, by rw [h2, List.append_assoc]; rfl, ?_, ?_⟩
    · simp only [List.length_append, List.length_cons, List.length_nil] at h3 ⊢
      omega
    · rintro q2 ⟨q3, rfl, hq⟩
      simp only [List.length_cons]
      rcases h4 q3 hq with h | h
      · exact Or.inl (by omega)
      · exact Or.inr ⟨by omega, Or.inr ⟨rfl, h.2⟩⟩
theorem Bst.uniq {p c c2 : List Nat} {X : List Nat → Prop} (h0 : X []) (hp : p ≠ []) (h : Bst p [] X c) (h2 : Bst p [] X c2) : c = c2 := by
  have hp2 : 0 < p.length := by cases p with | nil => exact absurd rfl hp | cons => simp
  rcases h with ⟨-, h⟩ | ⟨q, x, rfl, l, m⟩
  · have := h [] h0; simp only [List.length_nil] at this; omega
  · rcases h2 with ⟨-, h2⟩ | ⟨q2, x2, rfl, l2, m2⟩
    · have := h2 [] h0; simp only [List.length_nil] at this; omega
    · have e : q = q2 := by
        rcases m q2 x2 with h | ⟨h, h3⟩
        · rcases m2 q x with h4 | ⟨h4, h5⟩ <;> omega
        · rcases m2 q x with h4 | ⟨h4, h5⟩
          · omega
          · exact lx_anti h3 h5
      rw [e]
theorem cnt_lt {p : Nat → Bool} : ∀ {n g : Nat}, g < n → p g = false → cnt p n < n
  | 0, _, h, _ => absurd h (Nat.not_lt_zero _)
  | n + 1, g, h, hp => by
    unfold cnt
    rcases Nat.lt_succ_iff_lt_or_eq.mp h with h | rfl
    · have := cnt_lt h hp
      split <;> omega
    · rw [hp]
      have := cnt_le p g
      simp
      omega
theorem cnt_agree {p q : Nat → Bool} : ∀ {n : Nat}, (∀ i, i < n → p i = q i) → cnt p n = cnt q n
  | 0, _ => rfl
  | n + 1, h => by
    unfold cnt
    rw [cnt_agree (fun i hi => h i (by omega)), h n (by omega)]
theorem cnt_or {m g : Nat} (h0 : m.testBit g = false) : ∀ {n : Nat}, g < n → cnt (m ||| 2 ^ g).testBit n = cnt m.testBit n + 1
  | 0, h => absurd h (Nat.not_lt_zero _)
  | n + 1, h => by
    unfold cnt
    rcases Nat.lt_succ_iff_lt_or_eq.mp h with h | rfl
    · rw [cnt_or h0 h, show (m ||| 2 ^ g).testBit n = m.testBit n from by
        rw [Nat.testBit_or, Nat.testBit_two_pow]
        simp
        omega]
      omega
    · rw [cnt_agree (q := m.testBit) (fun i hi => by
        rw [Nat.testBit_or, Nat.testBit_two_pow]
        simp
        omega), h0, show (m ||| 2 ^ g).testBit g = true from by
        rw [Nat.testBit_or, Nat.testBit_two_pow]
        simp]
      simp
def chI (W : Nat → Nat → Bool) (n met f i : Nat) (q : List Nat) : Prop := ch W n met f q ∧ ∀ g q2, q = g :: q2 → g < i
theorem gOn_is (W : Nat → Nat → Bool) (n : Nat) : ∀ (r f met : Nat) (p b : List Nat), cnt met.testBit n + r = n → Bst p b (ch W n met f) (gOn W n (r + 1) f met p b)
  | r, f, met, p, b, hr => by
    have key : ∀ i, i ≤ n → Bst p b (chI W n met f i) (gL (fun g b => if met.testBit g = true ∨ W f g = false then b else gOn W n r g (met ||| 2 ^ g) (p ++ [g]) b) i (if b.length < p.length then p else b)) := by
      intro i
      induction i with
      | zero =>
        intro _
        have hn : ∀ q, chI W n met f 0 q → q = [] := by
          rintro q ⟨-, h2⟩
          cases q with
          | nil => rfl
          | cons g q => exact absurd (h2 g q rfl) (Nat.not_lt_zero _)
        show Bst p b _ (if b.length < p.length then p else b)
        split
        · next h =>
          refine Or.inr ⟨[], ⟨trivial, fun g q2 e => by cases e⟩, by rw [List.append_nil], by simpa using h, fun q2 hq => ?_⟩
          rw [hn q2 hq]
          exact Or.inr ⟨rfl, trivial⟩
        · next h =>
          refine Or.inl ⟨rfl, fun q hq => ?_⟩
          rw [hn q hq, List.length_nil]
          omega
      | succ i ih =>
        intro hi
        have h1 := ih (by omega)
        show Bst p b _ (if met.testBit i = true ∨ W f i = false then _ else _)
        split
        · next e =>
          refine h1.of (fun q => ⟨fun h => ⟨h.1, fun g q2 e2 => Nat.lt_succ_of_lt (h.2 g q2 e2)⟩, fun h => ⟨h.1, fun g q2 e2 => ?_⟩⟩)
          rcases Nat.lt_succ_iff_lt_or_eq.mp (h.2 g q2 e2) with h3 | rfl
          · exact h3
          · have h4 := h.1
            rw [e2] at h4
            rcases e with e | e
            · have h5 := h4.2.1; rw [e] at h5; cases h5
            · have h5 := h4.2.2.1; rw [e] at h5; cases h5
        · next e =>
          have e1 : met.testBit i = false := by cases hh : met.testBit i with | false => rfl | true => exact absurd (Or.inl hh) e
          have e2 : W f i = true := by cases hh : W f i with | true => rfl | false => exact absurd (Or.inr hh) e
          have hc := cnt_lt (p := met.testBit) (show i < n by omega) e1
          obtain ⟨r, rfl⟩ : ∃ r2, r = r2 + 1 := ⟨r - 1, by omega⟩
          have h2 := (gOn_is W n r i (met ||| 2 ^ i) (p ++ [i]) (gL (fun g b => if met.testBit g = true ∨ W f g = false then b else gOn W n (r + 1) g (met ||| 2 ^ g) (p ++ [g]) b) i (if b.length < p.length then p else b)) (by rw [cnt_or e1 (by omega)]; omega)).up
          refine (h1.comp h2 ?_).of (fun q => ⟨?_, ?_⟩)
          · rintro q1 q2 ⟨-, x⟩ ⟨q3, rfl, -⟩ hl
            cases q1 with
            | nil => trivial
            | cons g1 q1 => exact Or.inl (x g1 q1 rfl)
          · rintro (h | ⟨q2, rfl, h⟩)
            · exact ⟨h.1, fun g q2 e2 => Nat.lt_succ_of_lt (h.2 g q2 e2)⟩
            · refine ⟨⟨by omega, e1, e2, h⟩, fun g q2 e3 => ?_⟩
              cases e3
              omega
          · rintro ⟨h, h3⟩
            cases q with
            | nil => exact Or.inl ⟨trivial, fun g q2 e => by cases e⟩
            | cons g q =>
              rcases Nat.lt_succ_iff_lt_or_eq.mp (h3 g q rfl) with h4 | rfl
              · refine Or.inl ⟨h, fun g2 q2 e3 => ?_⟩
                cases e3
                exact h4
              · exact Or.inr ⟨q, rfl, h.2.2.2⟩
    refine (key n (Nat.le_refl n)).of (fun q => ⟨fun h => h.1, fun h => ⟨h, fun g q2 e => ?_⟩⟩)
    rw [e] at h
    exact h.1
noncomputable def pd (P : Prop) : Bool := @decide P (Classical.propDecidable P)
theorem pd_iff {P : Prop} : pd P = true ↔ P := by
  unfold pd
  exact @decide_eq_true_iff P (Classical.propDecidable P)
theorem pd_t {P : Prop} (h : P) : pd P = true := pd_iff.mpr h
theorem pd_f {P : Prop} (h : ¬ P) : pd P = false := by
  cases e : pd P with
  | false => rfl
  | true => exact absurd (pd_iff.mp e) h
/-- f and then q: a way through all of the set -/
def hp (W : Nat → Nat → Bool) : Nat → Nat → List Nat → Prop
  | s, f, [] => s = 2 ^ f
  | s, f, g :: q => s.testBit f = true ∧ W f g = true ∧ hp W (s ^^^ 2 ^ f) g q
theorem hp_bit {W : Nat → Nat → Bool} : ∀ {q : List Nat} {s f : Nat}, hp W s f q → s.testBit f = true
  | [], s, f, h => by rw [show s = 2 ^ f from h, Nat.testBit_two_pow]; simp
  | _ :: _, _, _, h => h.1
theorem bit_lt {s n i : Nat} (hs : s < 2 ^ n) (h : s.testBit i = true) : i < n := by
  rcases Nat.lt_or_ge i n with h1 | h1
  · exact h1
  · rw [Nat.testBit_lt_two_pow (Nat.lt_of_lt_of_le hs (Nat.pow_le_pow_right (by omega) h1))] at h
    cases h
theorem xor_bit {s f i : Nat} (h : s.testBit f = true) : (s ^^^ 2 ^ f).testBit i = (decide (i ≠ f) && s.testBit i) := by
  rw [Nat.testBit_xor, Nat.testBit_two_pow]
  by_cases e : i = f
  · subst e; simp [h]
  · have : ¬ f = i := fun z => e z.symm
    simp [e, this]
theorem xor_or {s f : Nat} (h : s.testBit f = false) : (s ||| 2 ^ f) ^^^ 2 ^ f = s := Nat.eq_of_testBit_eq (fun i => by
  rw [Nat.testBit_xor, Nat.testBit_or, Nat.testBit_two_pow]
  by_cases e : i = f
  · subst e; simp [h]
  · have : ¬ f = i := fun z => e z.symm
    simp [this])
theorem or_xor {s f : Nat} (h : s.testBit f = true) : (s ^^^ 2 ^ f) ||| 2 ^ f = s := Nat.eq_of_testBit_eq (fun i => by
  rw [Nat.testBit_or, xor_bit h, Nat.testBit_two_pow]
  by_cases e : i = f
  · subst e; simp [h]
  · have : ¬ f = i := fun z => e z.symm
    simp [e, this])
theorem or_bit {s f i : Nat} : (s ||| 2 ^ f).testBit i = (decide (i = f) || s.testBit i) := by
  rw [Nat.testBit_or, Nat.testBit_two_pow]
  by_cases e : i = f
  · subst e; simp
  · have : ¬ f = i := fun z => e z.symm
    simp [e, this]
theorem xor_lt {s f n : Nat} (hs : s < 2 ^ n) (h : s.testBit f = true) : s ^^^ 2 ^ f < 2 ^ n := Nat.xor_lt_two_pow hs (Nat.pow_lt_pow_right (by omega) (bit_lt hs h))
theorem cnt_0 : ∀ n, cnt (Nat.testBit 0) n = 0
  | 0 => rfl
  | n + 1 => by unfold cnt; rw [cnt_0 n, Nat.zero_testBit]; rfl
theorem cnt_more {p : Nat → Bool} {n : Nat} (h : ∀ i, n ≤ i → p i = false) : ∀ k, cnt p (n + k) = cnt p n
  | 0 => rfl
  | k + 1 => by
    have e := h (n + k) (by omega)
    show cnt p (n + k) + (if p (n + k) = true then 1 else 0) = _
    rw [cnt_more h k, e]
    rfl
def pop (s : Nat) : Nat := cnt s.testBit 10
theorem pop_n {s n : Nat} (hn : n ≤ 10) (hs : s < 2 ^ n) : cnt s.testBit n = pop s := by
  have := cnt_more (p := s.testBit) (n := n) (fun i hi => by
    cases e : s.testBit i with
    | false => rfl
    | true => have := bit_lt hs e; omega) (10 - n)
  rw [show n + (10 - n) = 10 by omega] at this
  exact this.symm
theorem hp_ch {W : Nat → Nat → Bool} {n : Nat} : ∀ {q : List Nat} {s f met : Nat}, hp W s f q → s < 2 ^ n → (∀ i, s.testBit i = true → met.testBit i = false) → met.testBit f = false ∧ f < n ∧ ch W n (met ||| 2 ^ f) f q ∧ cnt s.testBit n = q.length + 1
  | [], s, f, met, h, hs, hd => by
    have h1 : s.testBit f = true := hp_bit h
    have hf := bit_lt hs h1
    refine ⟨hd f h1, hf, trivial, ?_⟩
    have h2 := cnt_or (m := 0) (g := f) (Nat.zero_testBit f) hf
    rw [Nat.zero_or, cnt_0] at h2
    rw [show s = 2 ^ f from h, h2]
    rfl
  | g :: q, s, f, met, h, hs, hd => by
    obtain ⟨h1, h2, h3⟩ := h
    have hf := bit_lt hs h1
    obtain ⟨a, b, c, e⟩ := hp_ch (met := met ||| 2 ^ f) h3 (xor_lt hs h1) (fun i hi => by
      rw [xor_bit h1, Bool.and_eq_true, decide_eq_true_eq] at hi
      rw [or_bit, hd i hi.2]
      simp [hi.1])
    refine ⟨hd f h1, hf, ⟨b, a, h2, c⟩, ?_⟩
    have h4 := cnt_or (m := s ^^^ 2 ^ f) (g := f) (by rw [xor_bit h1]; simp) hf
    rw [or_xor h1, e] at h4
    rw [h4]
    rfl
theorem ch_hp {W : Nat → Nat → Bool} {n : Nat} : ∀ {q : List Nat} {f met : Nat}, met.testBit f = false → f < n → ch W n (met ||| 2 ^ f) f q → ∃ s, s < 2 ^ n ∧ (∀ i, s.testBit i = true → met.testBit i = false) ∧ hp W s f q
  | [], f, met, hm, hf, _ => by
    refine ⟨2 ^ f, Nat.pow_lt_pow_right (by omega) hf, fun i hi => ?_, rfl⟩
    rw [Nat.testBit_two_pow] at hi
    obtain rfl : f = i := by simpa using hi
    exact hm
  | g :: q, f, met, hm, hf, h => by
    obtain ⟨h1, h2, h3, h4⟩ := h
    obtain ⟨s, a, b, c⟩ := ch_hp h2 h1 h4
    have hsf : s.testBit f = false := by
      cases e : s.testBit f with
      | false => rfl
      | true =>
        have := b f e
        rw [or_bit] at this
        simp at this
    refine ⟨s ||| 2 ^ f, Nat.or_lt_two_pow a (Nat.pow_lt_pow_right (by omega) hf), fun i hi => ?_, ?_, h3, ?_⟩
    · rw [or_bit, Bool.or_eq_true, decide_eq_true_eq] at hi
      rcases hi with rfl | hi
      · exact hm
      · have := b i hi
        rw [or_bit] at this
        simp at this
        exact this.2
    · rw [or_bit]; simp
    · rw [xor_or hsf]; exact c
noncomputable def st (h : Nat → Nat) (s : Nat) : Nat := bs (fun f => pd (∃ q, hp (wB h) s f q)) 10
theorem st_bit {h : Nat → Nat} {s f : Nat} (hs : s < 1024) : (st h s).testBit f = true ↔ ∃ q, hp (wB h) s f q := by
  unfold st
  rw [bs_bit, Bool.and_eq_true, decide_eq_true_eq, pd_iff]
  constructor
  · exact fun z => z.2
  · rintro ⟨q, hq⟩
    exact ⟨bit_lt (n := 10) hs (hp_bit hq), q, hq⟩
theorem st_lt (h : Nat → Nat) (s : Nat) : st h s < 1024 := bs_lt _ 10
theorem single : ∀ s, s < 1024 → s ≠ 0 → s &&& (s - 1) = 0 → s = 2 ^ s.log2 := by decide +kernel
theorem single2 : ∀ k, k < 10 → 2 ^ k &&& (2 ^ k - 1) = 0 := by decide
theorem st_single {h : Nat → Nat} {s : Nat} (hs : s < 1024) (h0 : s ≠ 0) (h1 : s &&& (s - 1) = 0) : st h s = s := Nat.eq_of_testBit_eq (fun i => by
  have e := single s hs h0 h1
  apply Bool.eq_iff_iff.mpr
  rw [st_bit hs]
  constructor
  · rintro ⟨q, hq⟩; exact hp_bit hq
  · intro hi
    rw [e, Nat.testBit_two_pow] at hi
    have hi2 : s.log2 = i := by simpa using hi
    exact ⟨[], by rw [hi2] at e; exact e⟩)
theorem st_step {h : Nat → Nat} {s f : Nat} (hs : s < 1024) (h1 : s &&& (s - 1) ≠ 0) : (st h s).testBit f = (s.testBit f && decide (h f &&& st h (s ^^^ 2 ^ f) ≠ 0)) := by
  apply Bool.eq_iff_iff.mpr
  rw [st_bit hs, Bool.and_eq_true, decide_eq_true_eq, and_ne]
  constructor
  · rintro ⟨q, hq⟩
    have hb := hp_bit hq
    refine ⟨hb, ?_⟩
    cases q with
    | nil =>
      have e : s = 2 ^ f := hq
      rw [e] at h1
      exact absurd (single2 f (bit_lt (n := 10) hs hb)) h1
    | cons g q => exact ⟨g, hq.2.1, (st_bit (xor_lt (n := 10) hs hb)).mpr ⟨q, hq.2.2⟩⟩
  · rintro ⟨hb, g, hg, h3⟩
    obtain ⟨q, hq⟩ := (st_bit (xor_lt (n := 10) hs hb)).mp h3
    exact ⟨g :: q, hb, hg, hq⟩
theorem st_within {h : Nat → Nat} {s n : Nat} (hn : n ≤ 10) (hs : s < 2 ^ n) (h1 : s &&& (s - 1) ≠ 0) : bs (fun f => s.testBit f && decide (h f &&& st h (s ^^^ 2 ^ f) ≠ 0)) n = st h s := Nat.eq_of_testBit_eq (fun i => by
  have hs2 : s < 1024 := Nat.lt_of_lt_of_le hs (show 2 ^ n ≤ 2 ^ 10 from Nat.pow_le_pow_right (by omega) hn)
  rw [bs_bit, st_step hs2 h1]
  cases e : s.testBit i with
  | false => simp
  | true => rw [decide_eq_true (bit_lt hs e)]; rfl)
def cS (h : Nat → Nat) (a s : Nat) : Prop := s.testBit a = false ∧ h a &&& st h s ≠ 0
/-- what mostSteps finds -/
theorem most_is {h : Nat → Nat} {n a m : Nat} (hn : n ≤ 10) (ha : a < n) (hb : ∀ f i, f < n → (h f).testBit i = true → i < n)
    (hx : ∀ s, 0 < s → s < 2 ^ n → cS h a s → pop s ≤ m) (he : m = 0 ∨ ∃ s, 0 < s ∧ s < 2 ^ n ∧ cS h a s ∧ pop s = m) :
    (∀ q, ch (wB h) n (2 ^ a) a q → q.length ≤ m) ∧ ∃ q, ch (wB h) n (2 ^ a) a q ∧ q.length = m := by
  have p10 : 2 ^ n ≤ 1024 := show 2 ^ n ≤ 2 ^ 10 from Nat.pow_le_pow_right (by omega) hn
  have dis : ∀ s : Nat, s.testBit a = false → ∀ i, s.testBit i = true → (2 ^ a).testBit i = false := fun s h0 i hi => by
    rw [Nat.testBit_two_pow]
    have : a ≠ i := fun e => by rw [e, hi] at h0; cases h0
    simp [this]
  constructor
  · intro q hq
    cases q with
    | nil => exact Nat.zero_le _
    | cons g q =>
      obtain ⟨h1, h2, h3, h4⟩ := hq
      obtain ⟨s, a1, b1, c1⟩ := ch_hp h2 h1 h4
      have hg := hp_bit c1
      have hs0 : 0 < s := Nat.pos_of_ne_zero (fun e => by rw [e, Nat.zero_testBit] at hg; cases hg)
      have hsa : s.testBit a = false := by
        cases e : s.testBit a with
        | false => rfl
        | true => have := b1 a e; rw [Nat.testBit_two_pow] at this; simp at this
      have := hx s hs0 a1 ⟨hsa, and_ne.mpr ⟨g, h3, (st_bit (by omega)).mpr ⟨q, c1⟩⟩⟩
      have h5 := (hp_ch c1 a1 b1).2.2.2
      rw [pop_n hn a1] at h5
      simp only [List.length_cons]
      omega
  · rcases he with rfl | ⟨s, h0, h1, ⟨h2, h3⟩, h4⟩
    · exact ⟨[], trivial, rfl⟩
    · obtain ⟨g, h5, h6⟩ := and_ne.mp h3
      obtain ⟨q, hq⟩ := (st_bit (by omega)).mp h6
      obtain ⟨a1, b1, c1, d1⟩ := hp_ch hq h1 (dis s h2)
      rw [pop_n hn h1] at d1
      exact ⟨g :: q, ⟨b1, a1, h5, c1⟩, by simp only [List.length_cons]; omega⟩
/-- what startsApart finds, till the set i -/
noncomputable def sa (h : Nat → Nat) (met c i : Nat) : Nat := bs (fun f => pd (∃ s, 0 < s ∧ s < i ∧ s &&& met = 0 ∧ pop s = c ∧ (st h s).testBit f = true)) 10
theorem sa_lt (h : Nat → Nat) (met c i : Nat) : sa h met c i < 1024 := bs_lt _ 10
theorem sa_1 (h : Nat → Nat) (met c : Nat) : sa h met c 1 = 0 := Nat.eq_of_testBit_eq (fun i => by
  unfold sa
  rw [bs_bit, Nat.zero_testBit, pd_f (by rintro ⟨s, h1, h2, -⟩; omega)]
  simp)
theorem sa_t {h : Nat → Nat} {met c i : Nat} (hi : 0 < i) (h1 : i &&& met = 0) (h2 : pop i = c) : sa h met c (i + 1) = sa h met c i ||| st h i := Nat.eq_of_testBit_eq (fun f => by
  unfold sa
  rw [Nat.testBit_or, bs_bit, bs_bit]
  apply Bool.eq_iff_iff.mpr
  simp only [Bool.and_eq_true, Bool.or_eq_true, decide_eq_true_eq, pd_iff]
  constructor
  · rintro ⟨a, s, b1, b2, b3, b4, b5⟩
    rcases Nat.lt_succ_iff_lt_or_eq.mp b2 with b2 | rfl
    · exact Or.inl ⟨a, s, b1, b2, b3, b4, b5⟩
    · exact Or.inr b5
  · rintro (⟨a, s, b1, b2, b3, b4, b5⟩ | b5)
    · exact ⟨a, s, b1, by omega, b3, b4, b5⟩
    · exact ⟨bit_lt (n := 10) (st_lt h i) b5, i, hi, by omega, h1, h2, b5⟩)
theorem sa_f {h : Nat → Nat} {met c i : Nat} (h1 : ¬ (i &&& met = 0 ∧ pop i = c)) : sa h met c (i + 1) = sa h met c i := Nat.eq_of_testBit_eq (fun f => by
  unfold sa
  rw [bs_bit, bs_bit]
  apply Bool.eq_iff_iff.mpr
  simp only [Bool.and_eq_true, decide_eq_true_eq, pd_iff]
  constructor
  · rintro ⟨a, s, b1, b2, b3, b4, b5⟩
    rcases Nat.lt_succ_iff_lt_or_eq.mp b2 with b2 | rfl
    · exact ⟨a, s, b1, b2, b3, b4, b5⟩
    · exact absurd ⟨b3, b4⟩ h1
  · rintro ⟨a, s, b1, b2, b3, b4, b5⟩
    exact ⟨a, s, b1, by omega, b3, b4, b5⟩)
theorem sa_bit {h : Nat → Nat} {met c n f : Nat} (hn : n ≤ 10) : (sa h met c (2 ^ n)).testBit f = true ↔ met.testBit f = false ∧ f < n ∧ ∃ q, q.length + 1 = c ∧ ch (wB h) n (met ||| 2 ^ f) f q := by
  have p10 : 2 ^ n ≤ 1024 := show 2 ^ n ≤ 2 ^ 10 from Nat.pow_le_pow_right (by omega) hn
  unfold sa
  rw [bs_bit, Bool.and_eq_true, decide_eq_true_eq, pd_iff]
  constructor
  · rintro ⟨a, s, b1, b2, b3, b4, b5⟩
    obtain ⟨q, hq⟩ := (st_bit (by omega)).mp b5
    obtain ⟨a1, a2, a3, a4⟩ := hp_ch (met := met) hq b2 (fun i hi => by
      cases e : met.testBit i with
      | false => rfl
      | true => exact absurd b3 (and_ne.mpr ⟨i, hi, e⟩))
    rw [pop_n hn b2] at a4
    exact ⟨a1, a2, q, by omega, a3⟩
  · rintro ⟨h1, h2, q, h3, h4⟩
    obtain ⟨s, a1, b1, c1⟩ := ch_hp h1 h2 h4
    have hg := hp_bit c1
    refine ⟨by omega, s, Nat.pos_of_ne_zero (fun e => by rw [e, Nat.zero_testBit] at hg; cases hg), a1, ?_, ?_, (st_bit (by omega)).mpr ⟨q, c1⟩⟩
    · rcases Nat.eq_zero_or_pos (s &&& met) with e | e
      · exact e
      · obtain ⟨i, i1, i2⟩ := and_ne.mp (Nat.ne_of_gt e)
        rw [b1 i i1] at i2
        cases i2
    · have h5 := (hp_ch c1 a1 b1).2.2.2
      rw [pop_n hn a1] at h5
      omega
/-- the class's way on, r more from f -/
noncomputable def gc (h : Nat → Nat) (n : Nat) : Nat → Nat → Nat → List Nat
  | 0, _, _ => []
  | r + 1, f, met => lst (h f &&& sa h met (r + 1) (2 ^ n)) :: gc h n r (lst (h f &&& sa h met (r + 1) (2 ^ n))) (met ||| 2 ^ lst (h f &&& sa h met (r + 1) (2 ^ n)))
theorem gc_len (h : Nat → Nat) (n : Nat) : ∀ r f met, (gc h n r f met).length = r
  | 0, _, _ => rfl
  | r + 1, f, met => by unfold gc; rw [List.length_cons, gc_len h n r]
theorem gc_is {h : Nat → Nat} {n : Nat} (hn : n ≤ 10) (hb : ∀ f i, f < n → (h f).testBit i = true → i < n) : ∀ {r f met : Nat}, f < n → (∃ q, q.length = r ∧ ch (wB h) n met f q) → ch (wB h) n met f (gc h n r f met) ∧ ∀ q2, q2.length = r → ch (wB h) n met f q2 → lx (gc h n r f met) q2
  | 0, f, met, hf, _ => ⟨trivial, fun _ _ _ => trivial⟩
  | r + 1, f, met, hf, hx => by
    have h1 : h f &&& sa h met (r + 1) (2 ^ n) ≠ 0 := by
      obtain ⟨q, hq, hl⟩ := hx
      cases q with
      | nil => cases hq
      | cons g q => exact and_ne.mpr ⟨g, hl.2.2.1, (sa_bit hn).mpr ⟨hl.2.1, hl.1, q, hq, hl.2.2.2⟩⟩
    obtain ⟨h2, h3⟩ := lst_is h1 (fun i hi => by
      rw [Nat.testBit_and, Bool.and_eq_true] at hi
      have := hb f i hf hi.1
      omega)
    rw [Nat.testBit_and, Bool.and_eq_true] at h2
    obtain ⟨h4, h5, q, h6, h7⟩ := (sa_bit hn).mp h2.2
    obtain ⟨h8, h9⟩ := gc_is (r := r) hn hb h5 ⟨q, by omega, h7⟩
    refine ⟨⟨h5, h4, h2.1, h8⟩, fun q2 hq2 hl2 => ?_⟩
    cases q2 with
    | nil => cases hq2
    | cons g2 q2 =>
      have h10 := h3 g2 (by
        rw [Nat.testBit_and, Bool.and_eq_true]
        exact ⟨hl2.2.2.1, (sa_bit hn).mpr ⟨hl2.2.1, hl2.1, q2, hq2, hl2.2.2.2⟩⟩)
      rcases Nat.lt_or_ge (lst (h f &&& sa h met (r + 1) (2 ^ n))) g2 with hh | hh
      · exact Or.inl hh
      · have e : lst (h f &&& sa h met (r + 1) (2 ^ n)) = g2 := by omega
        refine Or.inr ⟨e, ?_⟩
        rw [e] at h9 ⊢
        exact h9 q2 (by simpa using hq2) hl2.2.2.2
/-- the longest chain from a, the first of them -/
def lwR (h : Nat → Nat) (n a : Nat) : List Nat := gOn (wB h) n n a (2 ^ a) [a] []
theorem lw_is {h : Nat → Nat} {n a m : Nat} (hn : n ≤ 10) (ha : a < n) (hb : ∀ f i, f < n → (h f).testBit i = true → i < n)
    (h1 : ∀ q, ch (wB h) n (2 ^ a) a q → q.length ≤ m) (h2 : ∃ q, ch (wB h) n (2 ^ a) a q ∧ q.length = m) : lwR h n a = a :: gc h n m a (2 ^ a) := by
  have hc := cnt_or (m := 0) (g := a) (Nat.zero_testBit a) ha
  rw [Nat.zero_or, cnt_0] at hc
  have g0 := gOn_is (wB h) n (n - 1) a (2 ^ a) [a] [] (by omega)
  rw [show n - 1 + 1 = n by omega] at g0
  obtain ⟨q, hq1, hq2⟩ := h2
  obtain ⟨g1, g2⟩ := gc_is hn hb (met := 2 ^ a) ha ⟨q, hq2, hq1⟩
  have gl := gc_len h n m a (2 ^ a)
  refine Bst.uniq (X := ch (wB h) n (2 ^ a) a) (p := [a]) trivial (by simp) g0 (Or.inr ⟨gc h n m a (2 ^ a), g1, rfl, by simp only [List.length_cons, List.length_nil]; omega, fun q2 hx => ?_⟩)
  rw [gl]
  have := h1 q2 hx
  rcases Nat.lt_or_ge q2.length m with h5 | h5
  · exact Or.inl h5
  · exact Or.inr ⟨by omega, g2 q2 (by omega) hx⟩
