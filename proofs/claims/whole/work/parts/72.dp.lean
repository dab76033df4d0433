/-! the class's search, pure: scores, paths, rings -/
def sumI (h : Nat → Int) : Nat → Int
  | 0 => 0
  | n + 1 => sumI h n + h n
theorem sumI_agree {p q : Nat → Int} : ∀ {n : Nat}, (∀ i, i < n → p i = q i) → sumI p n = sumI q n
  | 0, _ => rfl
  | n + 1, h => by
    show sumI p n + p n = sumI q n + q n
    rw [sumI_agree (fun i hi => h i (by omega)), h n (by omega)]
theorem sumI_add (p q : Nat → Int) : ∀ n, sumI (fun i => p i + q i) n = sumI p n + sumI q n
  | 0 => rfl
  | n + 1 => by
    have ih := sumI_add p q n
    show sumI (fun i => p i + q i) n + (p n + q n) = sumI p n + p n + (sumI q n + q n)
    omega
theorem sumI_0 : ∀ n, sumI (fun _ => 0) n = 0
  | 0 => rfl
  | n + 1 => by
    show sumI (fun _ => 0) n + 0 = 0
    rw [sumI_0 n]
    rfl
theorem sumI_or {h : Nat → Int} {A x : Nat} (hA : A.testBit x = false) : ∀ {n : Nat}, sumI (fun f => if (A ||| 2 ^ x).testBit f = true then h f else 0) n = sumI (fun f => if A.testBit f = true then h f else 0) n + (if x < n then h x else 0)
  | 0 => by rw [if_neg (Nat.not_lt_zero x)]; rfl
  | n + 1 => by
    have ih := sumI_or (h := h) hA (n := n)
    show sumI _ n + (if (A ||| 2 ^ x).testBit n = true then h n else 0) = sumI _ n + (if A.testBit n = true then h n else 0) + _
    rw [ih, or_bit]
    by_cases e : n = x
    · subst e
      rw [hA, if_neg (Nat.lt_irrefl n), if_pos (Nat.lt_succ_self n)]
      simp
    · have e2 : decide (n = x) = false := decide_eq_false e
      rw [e2, Bool.false_or]
      by_cases e3 : x < n
      · rw [if_pos e3, if_pos (show x < n + 1 by omega)]; omega
      · rw [if_neg e3, if_neg (show ¬ x < n + 1 by omega)]; omega
/-- what f's going to g scores; g = f: it stays -/
def cc (S : GS) (k : Bool) (f g : Nat) : Int := if g = f then -((10 * 11 ^ (9 - f) : Nat) : Int) else (eM S k f g : Int) * 25937424601 - ((g * 11 ^ (9 - f) : Nat) : Int)
def sc (S : GS) (k : Bool) (t : Nat → Nat) : Int := sumI (fun f => cc S k f (t f)) (s_n S)
theorem nm_s {t : Nat → Nat} {i : Nat} (hi : i ≤ 9) : nm t (i + 1) * 11 ^ (10 - (i + 1)) = nm t i * 11 ^ (10 - i) + dgt t i * 11 ^ (9 - i) := by
  rw [show 10 - (i + 1) = 9 - i by omega, show 10 - i = (9 - i) + 1 by omega, Nat.pow_succ]
  show (11 * nm t i + dgt t i) * 11 ^ (9 - i) = _
  rw [Nat.add_mul, Nat.mul_comm 11 (nm t i), Nat.mul_assoc, Nat.mul_comm 11 (11 ^ (9 - i))]
theorem sc_i {S : GS} {k : Bool} {t : Nat → Nat} : ∀ i, i ≤ 10 → sumI (fun f => cc S k f (t f)) i = (sumF (eT S k t) i : Int) * 25937424601 - ((nm t i * 11 ^ (10 - i) : Nat) : Int)
  | 0, _ => by simp [sumI, sumF, nm]
  | i + 1, hi => by
    have ih := sc_i (S := S) (k := k) (t := t) i (by omega)
    have e := nm_s (t := t) (i := i) (by omega)
    show sumI (fun f => cc S k f (t f)) i + cc S k i (t i) = ((sumF (eT S k t) i + eT S k t i : Nat) : Int) * 25937424601 - _
    rw [e, ih]
    unfold cc
    have e1 : eT S k t i = if t i = i then 0 else eM S k i (t i) := rfl
    have e2 : dgt t i = if t i = i then 10 else t i := rfl
    rw [e1, e2]
    by_cases h : t i = i
    · rw [if_pos h, if_pos h, if_pos h]
      generalize nm t i * 11 ^ (10 - i) = A
      generalize 10 * 11 ^ (9 - i) = B
      omega
    · rw [if_neg h, if_neg h, if_neg h]
      generalize nm t i * 11 ^ (10 - i) = A
      generalize t i * 11 ^ (9 - i) = B
      omega
theorem nm_lt_pow {t : Nat → Nat} : ∀ {i : Nat}, (∀ j, j < i → dgt t j ≤ 10) → nm t i < 11 ^ i
  | 0, _ => Nat.one_pos
  | i + 1, h => by
    have ih := nm_lt_pow (t := t) (i := i) (fun j hj => h j (by omega))
    have := h i (by omega)
    rw [Nat.pow_succ]
    show 11 * nm t i + dgt t i < 11 ^ i * 11
    omega
theorem num_lt {t : Nat → Nat} {n : Nat} (hn : n ≤ 10) (h : ∀ j, j < n → dgt t j ≤ 10) : nm t n * 11 ^ (10 - n) < 25937424601 := by
  have h1 := nm_lt_pow h
  have h2 : nm t n * 11 ^ (10 - n) < 11 ^ n * 11 ^ (10 - n) := Nat.mul_lt_mul_of_pos_right h1 (Nat.pow_pos (by decide))
  rw [← Nat.pow_add, show n + (10 - n) = 10 by omega] at h2
  exact h2
theorem VP.dg {S : GS} (w : WF S) {t : Nat → Nat} (h : VP S t) : ∀ j, j < s_n S → dgt t j ≤ 10 := fun j hj => dgt_le (by have := (h j hj).1; have := w.1.1; omega)
theorem sc_bt {S : GS} (w : WF S) {k : Bool} {t u : Nat → Nat} (ht : VP S t) (hu : VP S u) (h : sc S k u ≤ sc S k t) : bt S k u t := by
  have hn := w.1.1
  have a1 := sc_i (S := S) (k := k) (t := t) (s_n S) hn
  have a2 := sc_i (S := S) (k := k) (t := u) (s_n S) hn
  have b1 := num_lt hn (ht.dg w)
  have b2 := num_lt hn (hu.dg w)
  unfold sc at h
  rw [a1, a2] at h
  have hp : 0 < 11 ^ (10 - s_n S) := Nat.pow_pos (by decide)
  unfold bt mer
  by_cases e : nm t (s_n S) ≤ nm u (s_n S)
  · generalize nm t (s_n S) * 11 ^ (10 - s_n S) = A at *
    generalize nm u (s_n S) * 11 ^ (10 - s_n S) = B at *
    generalize sumF (eT S k t) (s_n S) = X at *
    generalize sumF (eT S k u) (s_n S) = Y at *
    rcases Nat.lt_trichotomy Y X with q | q | q
    · exact Or.inl q
    · exact Or.inr ⟨q, e⟩
    · omega
  · have e2 : nm u (s_n S) * 11 ^ (10 - s_n S) < nm t (s_n S) * 11 ^ (10 - s_n S) := Nat.mul_lt_mul_of_pos_right (by omega) hp
    generalize nm t (s_n S) * 11 ^ (10 - s_n S) = A at *
    generalize nm u (s_n S) * 11 ^ (10 - s_n S) = B at *
    generalize sumF (eT S k t) (s_n S) = X at *
    generalize sumF (eT S k u) (s_n S) = Y at *
    exact Or.inl (by omega)
def geO (o : Option Int) (v : Int) : Prop := ∃ x, o = some x ∧ v ≤ x
theorem geO.le {o : Option Int} {v x : Int} (h : geO o v) (hx : x ≤ v) : geO o x := by
  obtain ⟨y, e, hy⟩ := h
  exact ⟨y, e, by omega⟩
/-- a way of m steps from s along greater ones, meeting none twice -/
def Pth (S : GS) (s m : Nat) (p : Nat → Nat) : Prop := p 0 = s ∧ (∀ i, 1 ≤ i → i ≤ m → s < p i ∧ p i < s_n S) ∧ (∀ i j, i < j → j ≤ m → p i ≠ p j) ∧ ∀ i, i < m → s_tk S (p i) (p (i + 1)) = true
def pS (S : GS) (k : Bool) (p : Nat → Nat) (m : Nat) : Int := sumI (fun i => cc S k (p i) (p (i + 1))) m
def mkF (s : Nat) (p : Nat → Nat) : Nat → Nat
  | 0 => 0
  | m + 1 => mkF s p m ||| 2 ^ (p (m + 1) - (s + 1))
def amF (p : Nat → Nat) : Nat → Nat
  | 0 => 2 ^ p 0
  | m + 1 => amF p m ||| 2 ^ p (m + 1)
theorem amF_bit (p : Nat → Nat) : ∀ m x, (amF p m).testBit x = true ↔ ∃ i, i ≤ m ∧ p i = x
  | 0, x => by
    show (2 ^ p 0).testBit x = true ↔ _
    rw [Nat.testBit_two_pow]
    constructor
    · intro h; exact ⟨0, Nat.le_refl 0, by simpa using h⟩
    · rintro ⟨i, hi, e⟩; rw [show i = 0 by omega] at e; simp [e]
  | m + 1, x => by
    show (amF p m ||| 2 ^ p (m + 1)).testBit x = true ↔ _
    rw [or_bit, Bool.or_eq_true, decide_eq_true_eq, amF_bit p m x]
    constructor
    · rintro (h | ⟨i, hi, e⟩)
      · exact ⟨m + 1, Nat.le_refl _, h.symm⟩
      · exact ⟨i, by omega, e⟩
    · rintro ⟨i, hi, e⟩
      rcases Nat.lt_or_ge i (m + 1) with h | h
      · exact Or.inr ⟨i, by omega, e⟩
      · rw [show i = m + 1 by omega] at e; exact Or.inl e.symm
theorem mkF_bit {s : Nat} {p : Nat → Nat} : ∀ {m : Nat}, (∀ i, 1 ≤ i → i ≤ m → s < p i) → ∀ x, (mkF s p m).testBit x = true ↔ ∃ i, 1 ≤ i ∧ i ≤ m ∧ p i = s + 1 + x
  | 0, _, x => by
    show (0 : Nat).testBit x = true ↔ _
    rw [Nat.zero_testBit]
    exact ⟨(fun h => by cases h), fun ⟨i, h1, h2, _⟩ => by omega⟩
  | m + 1, h, x => by
    show (mkF s p m ||| 2 ^ (p (m + 1) - (s + 1))).testBit x = true ↔ _
    rw [or_bit, Bool.or_eq_true, decide_eq_true_eq, mkF_bit (fun i h1 h2 => h i h1 (by omega)) x]
    have := h (m + 1) (by omega) (Nat.le_refl _)
    constructor
    · rintro (h2 | ⟨i, h1, hi, e⟩)
      · exact ⟨m + 1, by omega, Nat.le_refl _, by omega⟩
      · exact ⟨i, h1, by omega, e⟩
    · rintro ⟨i, h1, hi, e⟩
      rcases Nat.lt_or_ge i (m + 1) with h2 | h2
      · exact Or.inr ⟨i, h1, by omega, e⟩
      · rw [show i = m + 1 by omega] at e; exact Or.inl (by omega)
theorem Pth.pre {S : GS} {s m : Nat} {p : Nat → Nat} (h : Pth S s (m + 1) p) : Pth S s m p := ⟨h.1, fun i a b => h.2.1 i a (by omega), fun i j a b => h.2.2.1 i j a (by omega), fun i a => h.2.2.2 i (by omega)⟩
theorem am_mk {S : GS} {s m : Nat} {p : Nat → Nat} (h : Pth S s m p) : mkF s p m * 2 ^ (s + 1) ||| 2 ^ s = amF p m := Nat.eq_of_testBit_eq (fun x => by
  apply Bool.eq_iff_iff.mpr
  rw [or_bit, Bool.or_eq_true, decide_eq_true_eq, Nat.testBit_mul_two_pow, Bool.and_eq_true, decide_eq_true_eq, mkF_bit (fun i a b => (h.2.1 i a b).1), amF_bit]
  constructor
  · rintro (e | ⟨a, i, h1, h2, e⟩)
    · exact ⟨0, Nat.zero_le _, by rw [h.1, e]⟩
    · exact ⟨i, h2, by omega⟩
  · rintro ⟨i, hi, e⟩
    rcases Nat.eq_zero_or_pos i with rfl | hp
    · exact Or.inl (by rw [← e, h.1])
    · have := (h.2.1 i hp hi).1
      exact Or.inr ⟨by omega, i, hp, hi, by omega⟩)
theorem mkF_new {S : GS} {s m : Nat} {p : Nat → Nat} (h : Pth S s (m + 1) p) : (mkF s p m).testBit (p (m + 1) - (s + 1)) = false := by
  cases e : (mkF s p m).testBit (p (m + 1) - (s + 1)) with
  | false => rfl
  | true =>
    obtain ⟨i, h1, h2, e2⟩ := (mkF_bit (fun i a b => (h.2.1 i a (by omega)).1) _).mp e
    have := (h.2.1 (m + 1) (by omega) (Nat.le_refl _)).1
    exact absurd (show p i = p (m + 1) by omega) (h.2.2.1 i (m + 1) (by omega) (Nat.le_refl _))
theorem mkF_pop {S : GS} {s : Nat} {p : Nat → Nat} (hn : s_n S ≤ 10) : ∀ {m : Nat}, Pth S s m p → pop (mkF s p m) = m ∧ mkF s p m < 2 ^ (s_n S - (s + 1))
  | 0, _ => ⟨cnt_0 10, Nat.two_pow_pos _⟩
  | m + 1, h => by
    obtain ⟨a, b⟩ := mkF_pop hn h.pre
    have h1 := h.2.1 (m + 1) (by omega) (Nat.le_refl _)
    refine ⟨?_, Nat.or_lt_two_pow b (Nat.pow_lt_pow_right (by omega) (by omega))⟩
    show cnt (mkF s p m ||| 2 ^ (p (m + 1) - (s + 1))).testBit 10 = m + 1
    rw [cnt_or (mkF_new h) (by omega)]
    show pop (mkF s p m) + 1 = m + 1
    omega
/-- the tables: open ways from s, rings -/
def SndO (S : GS) (k : Bool) (s : Nat) (O : Nat → Nat → Option Int) : Prop := ∀ A j v, O A j = some v → ∃ m p, 1 ≤ m ∧ Pth S s m p ∧ p m = s + 1 + j ∧ mkF s p m = A ∧ v = pS S k p m
def SndR (S : GS) (k : Bool) (R : Nat → Option Int) : Prop := ∀ X v, R X = some v → ∃ s m p, s < s_n S ∧ 1 ≤ m ∧ m + 1 ≤ s_mo S ∧ Pth S s m p ∧ s_tk S (p m) s = true ∧ amF p m = X ∧ v = pS S k p m + cc S k (p m) s
def IniO (S : GS) (k : Bool) (s : Nat) (O : Nat → Nat → Option Int) : Prop := ∀ j, s + 1 + j < s_n S → s_tk S s (s + 1 + j) = true → geO (O (2 ^ j) j) (cc S k s (s + 1 + j))
def PrO (S : GS) (k : Bool) (s : Nat) (O : Nat → Nat → Option Int) (R : Nat → Option Int) (A j : Nat) : Prop := ∀ v, O A j = some v → pop A + 1 ≤ s_mo S → (s_tk S (s + 1 + j) s = true → geO (R (A * 2 ^ (s + 1) ||| 2 ^ s)) (v + cc S k (s + 1 + j) s)) ∧ (pop A + 1 < s_mo S → ∀ j2, s + 1 + j2 < s_n S → A.testBit j2 = false → s_tk S (s + 1 + j) (s + 1 + j2) = true → geO (O (A ||| 2 ^ j2) j2) (v + cc S k (s + 1 + j) (s + 1 + j2)))
def CmR (S : GS) (k : Bool) (R : Nat → Option Int) (s : Nat) : Prop := ∀ m p, 1 ≤ m → m + 1 ≤ s_mo S → Pth S s m p → s_tk S (p m) s = true → geO (R (amF p m)) (pS S k p m + cc S k (p m) s)
theorem cmO {S : GS} {k : Bool} {s : Nat} {O : Nat → Nat → Option Int} {R : Nat → Option Int} (hn : s_n S ≤ 10) (hI : IniO S k s O) (hP : ∀ A j, 0 < A → A < 2 ^ (s_n S - (s + 1)) → s + 1 + j < s_n S → PrO S k s O R A j) : ∀ {m : Nat} {p : Nat → Nat}, Pth S s (m + 1) p → m + 2 ≤ s_mo S → geO (O (mkF s p (m + 1)) (p (m + 1) - (s + 1))) (pS S k p (m + 1))
  | 0, p, h, hm => by
    have h1 := h.2.1 1 (Nat.le_refl 1) (Nat.le_refl 1)
    have h2 := h.2.2.2 0 (by omega)
    rw [h.1] at h2
    have h3 := hI (p 1 - (s + 1)) (by omega) (by rw [show s + 1 + (p 1 - (s + 1)) = p 1 by omega]; exact h2)
    rw [show s + 1 + (p 1 - (s + 1)) = p 1 by omega] at h3
    have e : pS S k p 1 = cc S k s (p 1) := by
      show (0 : Int) + cc S k (p 0) (p 1) = _
      rw [h.1, Int.zero_add]
    rw [e]
    show geO (O (0 ||| 2 ^ (p 1 - (s + 1))) _) _
    rw [Nat.zero_or]
    exact h3
  | m + 1, p, h, hm => by
    have ih := cmO hn hI hP h.pre (by omega)
    obtain ⟨v, e, hv⟩ := ih
    have a := mkF_pop hn h.pre
    have h1 := h.2.1 (m + 1) (by omega) (by omega)
    have h2 := h.2.1 (m + 2) (by omega) (Nat.le_refl _)
    have hA : 0 < mkF s p (m + 1) := Nat.pos_of_ne_zero (fun z => by rw [z] at a; have := a.1; rw [show pop 0 = 0 from cnt_0 10] at this; omega)
    have hq := (hP _ (p (m + 1) - (s + 1)) hA a.2 (by omega) v e (by omega)).2 (by omega) (p (m + 2) - (s + 1)) (by omega) (mkF_new h) (by
      rw [show s + 1 + (p (m + 1) - (s + 1)) = p (m + 1) by omega, show s + 1 + (p (m + 2) - (s + 1)) = p (m + 2) by omega]
      exact h.2.2.2 (m + 1) (by omega))
    rw [show s + 1 + (p (m + 1) - (s + 1)) = p (m + 1) by omega, show s + 1 + (p (m + 2) - (s + 1)) = p (m + 2) by omega] at hq
    refine hq.le ?_
    show pS S k p (m + 1) + cc S k (p (m + 1)) (p (m + 2)) ≤ _
    omega
theorem cmR {S : GS} {k : Bool} {s : Nat} {O : Nat → Nat → Option Int} {R : Nat → Option Int} (hn : s_n S ≤ 10) (hI : IniO S k s O) (hP : ∀ A j, 0 < A → A < 2 ^ (s_n S - (s + 1)) → s + 1 + j < s_n S → PrO S k s O R A j) : CmR S k R s := fun m p m1 hm h ht => by
  obtain ⟨m, rfl⟩ : ∃ m2, m = m2 + 1 := ⟨m - 1, by omega⟩
  obtain ⟨v, e, hv⟩ := cmO hn hI hP h (by omega)
  have a := mkF_pop hn h
  have h1 := h.2.1 (m + 1) (by omega) (by omega)
  have hA : 0 < mkF s p (m + 1) := Nat.pos_of_ne_zero (fun z => by rw [z] at a; have := a.1; rw [show pop 0 = 0 from cnt_0 10] at this; omega)
  have hq := (hP _ (p (m + 1) - (s + 1)) hA a.2 (by omega) v e (by omega)).1 (by rw [show s + 1 + (p (m + 1) - (s + 1)) = p (m + 1) by omega]; exact ht)
  rw [show s + 1 + (p (m + 1) - (s + 1)) = p (m + 1) by omega, am_mk h] at hq
  exact hq.le (by omega)
