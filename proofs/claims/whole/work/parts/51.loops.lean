/-! rings, pure: the shortest, the first of them -/
def lx : List Nat → List Nat → Prop
  | a :: l, b :: m => a < b ∨ (a = b ∧ lx l m)
  | [], _ => True
  | _ :: _, [] => False
theorem lx_anti : ∀ {l m : List Nat}, lx l m → lx m l → l = m
  | [], [], _, _ => rfl
  | [], _ :: _, _, h => h.elim
  | _ :: _, [], h, _ => h.elim
  | a :: l, b :: m, h1, h2 => by
    rcases h1 with h1 | ⟨rfl, h1⟩
    · rcases h2 with h2 | ⟨rfl, h2⟩ <;> omega
    · rcases h2 with h2 | ⟨-, h2⟩
      · omega
      · rw [lx_anti h1 h2]
/-- q leads on from f and back to s, along greater ones -/
def lp (W : Nat → Nat → Bool) (n s : Nat) : Nat → List Nat → Prop
  | f, [] => W f s = true
  | f, g :: q => (s < g ∧ g < n) ∧ W f g = true ∧ lp W n s g q
/-- the same, meeting none twice -/
def lr (W : Nat → Nat → Bool) (n s : Nat) : Nat → Nat → List Nat → Prop
  | _, f, [] => W f s = true
  | met, f, g :: q => (s < g ∧ g < n) ∧ met.testBit g = false ∧ W f g = true ∧ lr W n s (met ||| 2 ^ g) g q
theorem lr_lp {W : Nat → Nat → Bool} {n s : Nat} : ∀ {q : List Nat} {met f : Nat}, lr W n s met f q → lp W n s f q
  | [], _, _, h => h
  | _ :: _, _, _, h => ⟨h.1, h.2.2.1, lr_lp h.2.2.2⟩
theorem lp_lr {W : Nat → Nat → Bool} {n s : Nat} : ∀ {q : List Nat} {met f : Nat}, lp W n s f q → q.Nodup → (∀ x, x ∈ q → met.testBit x = false) → lr W n s met f q
  | [], _, _, h, _, _ => h
  | g :: q, met, f, h, hd, hm => by
    rw [List.nodup_cons] at hd
    refine ⟨h.1, hm g (List.mem_cons_self), h.2.1, lp_lr h.2.2 hd.2 (fun x hx => ?_)⟩
    rw [Nat.testBit_or, hm x (List.mem_cons_of_mem _ hx), Nat.testBit_two_pow]
    have : g ≠ x := fun e => hd.1 (e ▸ hx)
    simp [this]
theorem lp_gt {W : Nat → Nat → Bool} {n s : Nat} : ∀ {q : List Nat} {f : Nat}, lp W n s f q → ∀ x, x ∈ q → s < x ∧ x < n
  | [], _, _, x, hx => by cases hx
  | g :: q, f, h, x, hx => by
    rcases List.mem_cons.mp hx with rfl | hx
    · exact h.1
    · exact lp_gt h.2.2 x hx
theorem lp_drop {W : Nat → Nat → Bool} {n s : Nat} : ∀ {a : List Nat} {f x : Nat} {c : List Nat}, lp W n s f (a ++ x :: c) → lp W n s x c
  | [], _, _, _, h => h.2.2
  | _ :: _, _, _, _, h => lp_drop h.2.2
theorem lp_join {W : Nat → Nat → Bool} {n s : Nat} : ∀ {a : List Nat} {f x : Nat} {b c : List Nat}, lp W n s f (a ++ x :: b) → lp W n s x c → lp W n s f (a ++ x :: c)
  | [], _, _, _, _, h, h2 => ⟨h.1, h.2.1, h2⟩
  | _ :: _, _, _, _, _, h, h2 => ⟨h.1, h.2.1, lp_join h.2.2 h2⟩
theorem nd_or : ∀ q : List Nat, q.Nodup ∨ ∃ a x b c, q = a ++ x :: (b ++ x :: c)
  | [] => Or.inl List.nodup_nil
  | y :: q => by
    by_cases h : y ∈ q
    · obtain ⟨s, t, rfl⟩ := List.append_of_mem h
      exact Or.inr ⟨[], y, s, t, rfl⟩
    · rcases nd_or q with h2 | ⟨a, x, b, c, rfl⟩
      · exact Or.inl (List.nodup_cons.mpr ⟨h, h2⟩)
      · exact Or.inr ⟨y :: a, x, b, c, rfl⟩
/-- a shortest way round meets none twice -/
theorem lp_short {W : Nat → Nat → Bool} {n s f : Nat} {q : List Nat} (h : lp W n s f q) (hm : ∀ q2, lp W n s f q2 → q.length ≤ q2.length) : q.Nodup := by
  rcases nd_or q with h2 | ⟨a, x, b, c, rfl⟩
  · exact h2
  · have h3 := hm _ (lp_join h (lp_drop (lp_drop h)))
    simp only [List.length_append, List.length_cons] at h3
    omega
theorem lp_shr {W : Nat → Nat → Bool} {n s : Nat} {q : List Nat} (h : lp W n s s q) (hm : ∀ q2, lp W n s s q2 → q.length ≤ q2.length) : lr W n s (2 ^ s) s q :=
  lp_lr h (lp_short h hm) (fun x hx => by
    rw [Nat.testBit_two_pow]
    have := (lp_gt h x hx).1
    simp
    omega)
/-- the first of F i, F (i + 1) .. that is there -/
def ff {α : Type} (F : Nat → Option α) : Nat → Nat → Option α
  | 0, _ => none
  | k + 1, i => match F i with
    | some q => some q
    | none => ff F k (i + 1)
theorem ff_some {α : Type} {F : Nat → Option α} : ∀ {k i : Nat} {q : α}, ff F k i = some q → ∃ j, i ≤ j ∧ j < i + k ∧ F j = some q ∧ ∀ j2, i ≤ j2 → j2 < j → F j2 = none
  | 0, _, _, h => by cases h
  | k + 1, i, q, h => by
    unfold ff at h
    split at h
    · next q2 e =>
      cases h
      exact ⟨i, by omega, by omega, e, fun j2 h1 h2 => by omega⟩
    · next e =>
      obtain ⟨j, h1, h2, h3, h4⟩ := ff_some h
      refine ⟨j, by omega, by omega, h3, fun j2 h5 h6 => ?_⟩
      rcases Nat.lt_or_ge i j2 with h7 | h7
      · exact h4 j2 (by omega) h6
      · obtain rfl : i = j2 := by omega
        exact e
theorem ff_none {α : Type} {F : Nat → Option α} : ∀ {k i : Nat}, ff F k i = none → ∀ j, i ≤ j → j < i + k → F j = none
  | 0, _, _, _, h1, h2 => by omega
  | k + 1, i, h, j, h1, h2 => by
    unfold ff at h
    split at h
    · cases h
    · next e =>
      rcases Nat.lt_or_ge i j with h7 | h7
      · exact ff_none h j (by omega) (by omega)
      · obtain rfl : i = j := by omega
        exact e
theorem ff_no {α : Type} {F : Nat → Option α} : ∀ {k i : Nat}, (∀ j, i ≤ j → j < i + k → F j = none) → ff F k i = none
  | 0, _, _ => rfl
  | k + 1, i, h => by
    unfold ff
    rw [h i (by omega) (by omega)]
    exact ff_no (fun j h1 h2 => h j (by omega) (by omega))
theorem ff_is {α : Type} {F : Nat → Option α} {q : α} : ∀ {k i j : Nat}, i ≤ j → j < i + k → F j = some q → (∀ j2, i ≤ j2 → j2 < j → F j2 = none) → ff F k i = some q
  | 0, _, _, h1, h2, _, _ => by omega
  | k + 1, i, j, h1, h2, h3, h4 => by
    unfold ff
    rcases Nat.lt_or_ge i j with h7 | h7
    · rw [h4 i (by omega) h7]
      exact ff_is (by omega) (by omega) h3 (fun j2 h5 h6 => h4 j2 (by omega) h6)
    · obtain rfl : i = j := by omega
      rw [h3]
/-- the reference's search: r more, from f, those of met are met -/
def clo (W : Nat → Nat → Bool) (n s : Nat) : Nat → Nat → Nat → Option (List Nat)
  | 0, f, _ => if W f s = true then some [] else none
  | r + 1, f, met => ff (fun g => if met.testBit g = true ∨ W f g = false then none else (clo W n s r g (met ||| 2 ^ g)).map (g :: ·)) (n - (s + 1)) (s + 1)
theorem clo_none {W : Nat → Nat → Bool} {n s : Nat} : ∀ {r f met : Nat}, clo W n s r f met = none → ∀ q, q.length = r → ¬ lr W n s met f q
  | 0, f, met, h, q, hq, hl => by
    obtain rfl := List.eq_nil_of_length_eq_zero hq
    unfold clo at h
    rw [if_pos (show W f s = true from hl)] at h
    cases h
  | r + 1, f, met, h, q, hq, hl => by
    cases q with
    | nil => cases hq
    | cons g q =>
      obtain ⟨h1, h2, h3, h4⟩ := hl
      have h5 := ff_none h g (by omega) (by omega)
      rw [if_neg (by rw [h2, h3]; simp)] at h5
      rw [Option.map_eq_none_iff] at h5
      exact clo_none h5 q (by simpa using hq) h4
theorem clo_some {W : Nat → Nat → Bool} {n s : Nat} : ∀ {r f met : Nat} {q : List Nat}, clo W n s r f met = some q → q.length = r ∧ lr W n s met f q ∧ ∀ q2, q2.length = r → lr W n s met f q2 → lx q q2
  | 0, f, met, q, h => by
    unfold clo at h
    split at h
    · next e => cases h; exact ⟨rfl, e, fun _ _ _ => trivial⟩
    · cases h
  | r + 1, f, met, q, h => by
    obtain ⟨g, h1, h2, h3, h4⟩ := ff_some h
    split at h3
    · cases h3
    · next e =>
      rw [Option.map_eq_some_iff] at h3
      obtain ⟨q3, h5, rfl⟩ := h3
      obtain ⟨a, b, c⟩ := clo_some h5
      have e1 : met.testBit g = false := by cases hh : met.testBit g with | false => rfl | true => exact absurd (Or.inl hh) e
      have e2 : W f g = true := by cases hh : W f g with | true => rfl | false => exact absurd (Or.inr hh) e
      refine ⟨by simp [a], ⟨⟨by omega, by omega⟩, e1, e2, b⟩, fun q2 hq2 hl2 => ?_⟩
      cases q2 with
      | nil => cases hq2
      | cons g2 q2 =>
        obtain ⟨k1, k2, k3, k4⟩ := hl2
        rcases Nat.lt_trichotomy g g2 with hh | rfl | hh
        · exact Or.inl hh
        · exact Or.inr ⟨rfl, c q2 (by simpa using hq2) k4⟩
        · have h6 := h4 g2 (by omega) hh
          rw [if_neg (by rw [k2, k3]; simp), Option.map_eq_none_iff] at h6
          exact absurd k4 (clo_none h6 q2 (by simpa using hq2))
/-- the class's sets -/
theorem bfm_iff {h : Nat → Nat} {n s : Nat} (hb : ∀ f i, f < n → (h f).testBit i = true → i < n) : ∀ k g, (bfm h n s (k + 1)).testBit g = true ↔ (s < g ∧ g < n) ∧ ∃ q, q.length = k ∧ lp (fun a b => (h a).testBit b) n s g q
  | 0, g => by
    show (bs _ n).testBit g = true ↔ _
    rw [bs_bit]
    simp only [Bool.and_eq_true, decide_eq_true_eq]
    constructor
    · rintro ⟨h1, h2, h3⟩
      obtain ⟨i, h4, h5⟩ := and_ne.mp h3
      have : bfm h n s 0 = 2 ^ s := rfl
      rw [this, Nat.testBit_two_pow] at h5
      obtain rfl : s = i := by simpa using h5
      exact ⟨⟨h2, h1⟩, [], rfl, h4⟩
    · rintro ⟨⟨h1, h2⟩, q, hq, hl⟩
      obtain rfl := List.eq_nil_of_length_eq_zero hq
      refine ⟨h2, h1, and_ne.mpr ⟨s, hl, ?_⟩⟩
      show (2 ^ s).testBit s = true
      rw [Nat.testBit_two_pow]; simp
  | k + 1, g => by
    show (bs _ n).testBit g = true ↔ _
    rw [bs_bit]
    simp only [Bool.and_eq_true, decide_eq_true_eq]
    constructor
    · rintro ⟨h1, h2, h3⟩
      obtain ⟨i, h4, h5⟩ := and_ne.mp h3
      obtain ⟨h6, q, h7, h8⟩ := (bfm_iff hb k i).mp h5
      exact ⟨⟨h2, h1⟩, i :: q, by simp [h7], h6, h4, h8⟩
    · rintro ⟨⟨h1, h2⟩, q, hq, hl⟩
      cases q with
      | nil => cases hq
      | cons i q =>
        exact ⟨h2, h1, and_ne.mpr ⟨i, hl.2.1, (bfm_iff hb k i).mpr ⟨hl.1, q, by simpa using hq, hl.2.2⟩⟩⟩
theorem meet_iff {h : Nat → Nat} {n s : Nat} (hb : ∀ f i, f < n → (h f).testBit i = true → i < n) (f : Nat) : ∀ L, h f &&& bfm h n s L ≠ 0 ↔ ∃ q, q.length = L ∧ lp (fun a b => (h a).testBit b) n s f q
  | 0 => by
    rw [and_ne]
    constructor
    · rintro ⟨i, h4, h5⟩
      have : bfm h n s 0 = 2 ^ s := rfl
      rw [this, Nat.testBit_two_pow] at h5
      obtain rfl : s = i := by simpa using h5
      exact ⟨[], rfl, h4⟩
    · rintro ⟨q, hq, hl⟩
      obtain rfl := List.eq_nil_of_length_eq_zero hq
      refine ⟨s, hl, ?_⟩
      show (2 ^ s).testBit s = true
      rw [Nat.testBit_two_pow]; simp
  | L + 1 => by
    rw [and_ne]
    constructor
    · rintro ⟨i, h4, h5⟩
      obtain ⟨h6, q, h7, h8⟩ := (bfm_iff hb L i).mp h5
      exact ⟨i :: q, by simp [h7], h6, h4, h8⟩
    · rintro ⟨q, hq, hl⟩
      cases q with
      | nil => cases hq
      | cons i q => exact ⟨i, hl.2.1, (bfm_iff hb L i).mpr ⟨hl.1, q, by simpa using hq, hl.2.2⟩⟩
/-- the class's way round, r more from f -/
def gr (h : Nat → Nat) (n s : Nat) : Nat → Nat → List Nat
  | 0, _ => []
  | r + 1, f => lst (h f &&& bfm h n s (r + 1)) :: gr h n s r (lst (h f &&& bfm h n s (r + 1)))
theorem gr_len (h : Nat → Nat) (n s : Nat) : ∀ r f, (gr h n s r f).length = r
  | 0, _ => rfl
  | r + 1, f => by simp [gr, gr_len h n s r]
theorem lst_is {m : Nat} (h : m ≠ 0) (hm : ∀ i, m.testBit i = true → i < 10) : m.testBit (lst m) = true ∧ ∀ j, m.testBit j = true → lst m ≤ j := by
  obtain ⟨i, hi⟩ := Nat.exists_testBit_of_ne_zero h
  unfold lst
  cases e : fnd m.testBit 10 with
  | none => have := fnd_no e i (hm i hi); rw [hi] at this; cases this
  | some j =>
    refine ⟨(fnd_lt e).2, fun j2 h2 => ?_⟩
    show j ≤ j2
    rcases Nat.lt_or_ge j2 j with h3 | h3
    · obtain ⟨j3, hj3, hl⟩ : ∃ j3, m.testBit j3 = true ∧ j3 < j ∧ ∀ k, k < j3 → m.testBit k = false := by
        have : ∀ x, x < j → m.testBit x = true → ∃ j3, m.testBit j3 = true ∧ j3 < j ∧ ∀ k, k < j3 → m.testBit k = false := by
          intro x
          induction x using Nat.strongRecOn with
          | ind x ih =>
            intro hx ht
            by_cases hc : ∃ y, y < x ∧ m.testBit y = true
            · obtain ⟨y, hy, hty⟩ := hc
              exact ih y hy (by omega) hty
            · exact ⟨x, ht, hx, fun k hk => by
                cases hh : m.testBit k with
                | false => rfl
                | true => exact absurd ⟨k, hk, hh⟩ hc⟩
        exact this j2 h3 h2
      have := fnd_first hj3 hl.2 (n := 10) (hm j3 hj3)
      rw [e] at this
      cases this
      omega
    · exact h3
theorem gr_is {h : Nat → Nat} {n s : Nat} (hn : n ≤ 10) (hb : ∀ f i, f < n → (h f).testBit i = true → i < n) : ∀ {r f : Nat}, f < n → (∃ q, q.length = r ∧ lp (fun a b => (h a).testBit b) n s f q) → lp (fun a b => (h a).testBit b) n s f (gr h n s r f) ∧ ∀ q2, q2.length = r → lp (fun a b => (h a).testBit b) n s f q2 → lx (gr h n s r f) q2
  | 0, f, hf, ⟨q, hq, hl⟩ => by
    obtain rfl := List.eq_nil_of_length_eq_zero hq
    exact ⟨hl, fun _ _ _ => trivial⟩
  | r + 1, f, hf, hx => by
    have h1 := (meet_iff hb f (r + 1)).mpr hx
    obtain ⟨h2, h3⟩ := lst_is h1 (fun i hi => by
      rw [Nat.testBit_and, Bool.and_eq_true] at hi
      have := hb f i hf hi.1
      omega)
    rw [Nat.testBit_and, Bool.and_eq_true] at h2
    obtain ⟨h4, q, h5, h6⟩ := (bfm_iff hb r _).mp h2.2
    obtain ⟨h7, h8⟩ := gr_is hn hb h4.2 ⟨q, h5, h6⟩
    refine ⟨⟨h4, h2.1, h7⟩, fun q2 hq2 hl2 => ?_⟩
    cases q2 with
    | nil => cases hq2
    | cons g2 q2 =>
      have h9 := h3 g2 (by
        rw [Nat.testBit_and, Bool.and_eq_true]
        exact ⟨hl2.2.1, (bfm_iff hb r g2).mpr ⟨hl2.1, q2, by simpa using hq2, hl2.2.2⟩⟩)
      rcases Nat.lt_or_ge (lst (h f &&& bfm h n s (r + 1))) g2 with hh | hh
      · exact Or.inl hh
      · have e : lst (h f &&& bfm h n s (r + 1)) = g2 := by omega
        refine Or.inr ⟨e, ?_⟩
        rw [e] at h8 ⊢
        exact h8 q2 (by simpa using hq2) hl2.2.2
def wB (h : Nat → Nat) (a b : Nat) : Bool := (h a).testBit b
/-- the first of the shortest rings -/
def blR (h : Nat → Nat) (n : Nat) : Option (List Nat) := ff (fun m => ff (fun s => (clo (wB h) n s (m - 1) s (2 ^ s)).map (s :: ·)) n 0) (n - 1) 2
theorem ln_0 {h : Nat → Nat} {n s : Nat} (hb : ∀ f i, f < n → (h f).testBit i = true → i < n) (e : lnF h n s = 0) : ∀ q, q.length < n → ¬ lp (wB h) n s s q := by
  intro q hq hl
  unfold lnF at e
  split at e
  · omega
  · next e2 =>
    have := fnd_no e2 q.length hq
    rw [decide_eq_false_iff_not] at this
    exact this ((meet_iff hb s q.length).mpr ⟨q, rfl, hl⟩)
theorem ln_s {h : Nat → Nat} {n s L : Nat} (hb : ∀ f i, f < n → (h f).testBit i = true → i < n) (e : lnF h n s = L + 1) : L < n ∧ (∃ q, q.length = L ∧ lp (wB h) n s s q) ∧ ∀ q, lp (wB h) n s s q → L ≤ q.length := by
  unfold lnF at e
  split at e
  · next L2 e2 =>
    obtain rfl : L2 = L := by omega
    have h1 := fnd_lt e2
    refine ⟨h1.1, (meet_iff hb s L2).mp (by simpa using h1.2), fun q hl => ?_⟩
    rcases Nat.lt_or_ge q.length L2 with h2 | h2
    · exfalso
      have h3 : decide (h s &&& bfm h n s q.length ≠ 0) = true := decide_eq_true ((meet_iff hb s q.length).mpr ⟨q, rfl, hl⟩)
      cases e3 : fnd (fun L => decide (h s &&& bfm h n s L ≠ 0)) q.length with
      | none =>
        have := fnd_first (p := fun L => decide (h s &&& bfm h n s L ≠ 0)) h3 (fnd_no e3) (n := n) (by omega)
        rw [e2] at this
        cases this
        omega
      | some j =>
        have h4 := fnd_lt e3
        have h5 := fnd_first (p := fun L => decide (h s &&& bfm h n s L ≠ 0)) h4.2 (fun k hk => by
          cases hh : decide (h s &&& bfm h n s k ≠ 0) with
          | false => rfl
          | true =>
            exfalso
            have : ∀ x, x < j → decide (h s &&& bfm h n s x ≠ 0) = true → False := by
              intro x
              induction x using Nat.strongRecOn with
              | ind x ih =>
                intro hx ht
                by_cases hc : ∃ y, y < x ∧ decide (h s &&& bfm h n s y ≠ 0) = true
                · obtain ⟨y, hy, hty⟩ := hc
                  exact ih y hy (by omega) hty
                · have h6 := fnd_first (p := fun L => decide (h s &&& bfm h n s L ≠ 0)) ht (fun k hk => by
                    cases hh : decide (h s &&& bfm h n s k ≠ 0) with
                    | false => rfl
                    | true => exact absurd ⟨k, hk, hh⟩ hc) (n := q.length) (by omega)
                  rw [e3] at h6
                  cases h6
                  omega
            exact this k hk hh) (n := n) (by omega)
        rw [e2] at h5
        cases h5
        omega
    · exact h2
  · cases e
theorem bl_none {h : Nat → Nat} {n : Nat} (hb : ∀ f i, f < n → (h f).testBit i = true → i < n) (h0 : ∀ s, s < n → lnF h n s = 0) : blR h n = none := by
  refine ff_no (fun m h1 h2 => ff_no (fun s h3 h4 => ?_))
  rw [Option.map_eq_none_iff]
  cases e : clo (wB h) n s (m - 1) s (2 ^ s) with
  | none => rfl
  | some q =>
    obtain ⟨a, b, -⟩ := clo_some e
    exact absurd (lr_lp b) (ln_0 hb (h0 s (by omega)) q (by omega))
theorem bl_some {h : Nat → Nat} {n s m : Nat} (hn : n ≤ 10) (hd : ∀ f, f < n → (h f).testBit f = false) (hb : ∀ f i, f < n → (h f).testBit i = true → i < n) (hs : s < n) (hm : lnF h n s = m) (m0 : 0 < m)
    (h1 : ∀ j, j < n → lnF h n j = 0 ∨ m ≤ lnF h n j) (h2 : ∀ j, j < s → lnF h n j = 0 ∨ m < lnF h n j) : blR h n = some (s :: gr h n s (m - 1) s) := by
  obtain ⟨L, rfl⟩ : ∃ L, m = L + 1 := ⟨m - 1, by omega⟩
  obtain ⟨hL, hx, hmin⟩ := ln_s hb hm
  have hL0 : 1 ≤ L := by
    rcases Nat.eq_zero_or_pos L with e | e
    · subst e
      obtain ⟨q, hq, hl⟩ := hx
      obtain rfl := List.eq_nil_of_length_eq_zero hq
      have := hd s hs
      rw [show (h s).testBit s = true from hl] at this
      cases this
    · exact e
  have no : ∀ j q, j < n → lp (wB h) n j j q → q.length < n → lnF h n j ≠ 0 ∧ lnF h n j ≤ q.length + 1 := by
    intro j q hj hl hq
    have a : lnF h n j ≠ 0 := fun e => ln_0 hb e q hq hl
    obtain ⟨L2, e2⟩ : ∃ L2, lnF h n j = L2 + 1 := ⟨lnF h n j - 1, by omega⟩
    have := (ln_s hb e2).2.2 q hl
    omega
  refine ff_is (j := L + 1) (by omega) (by omega) (ff_is (j := s) (by omega) (by omega) ?_ (fun j2 _ h6 => ?_)) (fun m2 h5 h6 => ff_no (fun j2 _ h8 => ?_))
  · obtain ⟨g1, g2⟩ := gr_is hn hb hs hx
    have gl := gr_len h n s L s
    have g3 := lp_shr g1 (fun q2 hq2 => by rw [gl]; exact hmin q2 hq2)
    show (clo (wB h) n s L s (2 ^ s)).map (s :: ·) = some (s :: gr h n s L s)
    cases e : clo (wB h) n s L s (2 ^ s) with
    | none => exact absurd g3 (clo_none e _ gl)
    | some q =>
      obtain ⟨a, b, c⟩ := clo_some e
      rw [lx_anti (c _ gl g3) (g2 q a (lr_lp b))]
      rfl
  · rw [Option.map_eq_none_iff]
    cases e : clo (wB h) n j2 (L + 1 - 1) j2 (2 ^ j2) with
    | none => rfl
    | some q =>
      obtain ⟨a, b, -⟩ := clo_some e
      have := no j2 q (by omega) (lr_lp b) (by omega)
      have := h2 j2 h6
      omega
  · rw [Option.map_eq_none_iff]
    cases e : clo (wB h) n j2 (m2 - 1) j2 (2 ^ j2) with
    | none => rfl
    | some q =>
      obtain ⟨a, b, -⟩ := clo_some e
      have := no j2 q (by omega) (lr_lp b) (by omega)
      have := h1 j2 (by omega)
      omega
theorem gr_nth (h : Nat → Nat) (n s : Nat) : ∀ i r f, i < r → (f :: gr h n s r f).getD (i + 1) 0 = lst (h ((f :: gr h n s r f).getD i 0) &&& bfm h n s (r - i))
  | 0, r + 1, f, _ => rfl
  | i + 1, r + 1, f, hi => by
    have := gr_nth h n s i r (lst (h f &&& bfm h n s (r + 1))) (by omega)
    rw [show r + 1 - (i + 1) = r - i by omega]
    exact this
theorem bl_len {h : Nat → Nat} {n : Nat} {q : List Nat} (e : blR h n = some q) : 2 ≤ q.length ∧ q.length ≤ n ∧ ∀ x, x ∈ q → x < n := by
  obtain ⟨m, h1, h2, h3, -⟩ := ff_some e
  obtain ⟨s, h4, h5, h6, -⟩ := ff_some h3
  rw [Option.map_eq_some_iff] at h6
  obtain ⟨q3, h7, rfl⟩ := h6
  obtain ⟨a, b, -⟩ := clo_some h7
  refine ⟨by simp only [List.length_cons]; omega, by simp only [List.length_cons]; omega, fun x hx => ?_⟩
  rcases List.mem_cons.mp hx with rfl | hx
  · omega
  · exact (lp_gt (lr_lp b) x hx).2
theorem getD_lt {q : List Nat} {n i : Nat} (hq : ∀ x, x ∈ q → x < n) (hi : i < q.length) : q.getD i 0 < n := by
  rw [List.getD_eq_getElem?_getD, List.getElem?_eq_getElem hi]
  exact hq _ (List.getElem_mem hi)
