/-! the class's settling, pure -/
theorem low_all : ∀ X, X < 1024 → X ≠ 0 → X ^^^ (X &&& (X - 1)) = 2 ^ lst X ∧ (X &&& (X - 1)) ||| 2 ^ lst X = X ∧ (X &&& (X - 1)).testBit (lst X) = false ∧ pop (2 ^ lst X - 1) = lst X ∧ X &&& (X - 1) < X ∧ lst X < 10 := by decide +kernel
def PVP (S : GS) (X : Nat) (t : Nat → Nat) : Prop := ∀ f, f < s_n S → X.testBit f = false → t f < s_n S ∧ X.testBit (t f) = false ∧ (t f ≠ f → s_tk S f (t f) = true) ∧ ∃ m, 1 ≤ m ∧ m ≤ s_mo S ∧ itN t f m = f
def scL (S : GS) (k : Bool) (X : Nat) (t : Nat → Nat) : Int := sumI (fun f => if X.testBit f = true then 0 else cc S k f (t f)) (s_n S)
def SndS (S : GS) (k : Bool) (D : Nat → Option Int) : Prop := ∀ X v, X < 2 ^ s_n S → D X = some v → ∃ t, PVP S X t ∧ v = scL S k X t
def PrS (D R : Nat → Option Int) (X : Nat) : Prop := ∀ v, D X = some v → geO (D (X &&& (X - 1))) (v - ((10 * 11 ^ (9 - lst X) : Nat) : Int)) ∧ ∀ W, W ≠ 0 → (∀ i, W.testBit i = true → (X &&& (X - 1)).testBit i = true) → ∀ r, R (W ||| 2 ^ lst X) = some r → geO (D ((X &&& (X - 1)) ^^^ W)) (v + r)
theorem it_out {t u : Nat → Nat} {n X : Nat} (h1 : ∀ x, x < n → X.testBit x = false → t x < n ∧ X.testBit (t x) = false) (h2 : ∀ x, x < n → X.testBit x = false → u x = t x) {f : Nat} (hf : f < n) (hX : X.testBit f = false) : ∀ m, itN u f m = itN t f m ∧ itN t f m < n ∧ X.testBit (itN t f m) = false
  | 0 => ⟨rfl, hf, hX⟩
  | m + 1 => by
    obtain ⟨a, b, c⟩ := it_out h1 h2 hf hX m
    refine ⟨?_, h1 _ b c⟩
    show u (itN u f m) = t (itN t f m)
    rw [a, h2 _ b c]
theorem rst_bit {X : Nat} (hX : X < 1024) (h0 : X ≠ 0) (f : Nat) : (X &&& (X - 1)).testBit f = (X.testBit f && decide (f ≠ lst X)) := by
  obtain ⟨-, a, b, -⟩ := low_all X hX h0
  by_cases e : f = lst X
  · rw [e, b]; simp
  · have h := congrArg (fun z => Nat.testBit z f) a
    simp only [or_bit, decide_eq_false e, Bool.false_or] at h
    rw [h]
    simp [e]
theorem low_bit {X : Nat} (hX : X < 1024) (h0 : X ≠ 0) : X.testBit (lst X) = true ∧ ∀ j, X.testBit j = true → lst X ≤ j := lst_is h0 (fun i hi => bit_lt (n := 10) hX hi)
theorem sum_one {h : Nat → Int} {x n : Nat} (hx : x < n) : sumI (fun f => if (2 ^ x).testBit f = true then h f else 0) n = h x := by
  have := sumI_or (h := h) (A := 0) (x := x) (Nat.zero_testBit x) (n := n)
  rw [Nat.zero_or, if_pos hx] at this
  rw [this, show sumI (fun f => if (0 : Nat).testBit f = true then h f else 0) n = sumI (fun _ => 0) n from sumI_agree (fun i _ => by rw [Nat.zero_testBit]; rfl), sumI_0, Int.zero_add]
/-- the sum over a part more -/
theorem scL_more {S : GS} {k : Bool} {X Y X1 : Nat} {t u : Nat → Nat} (h1 : ∀ f, f < s_n S → X1.testBit f = (X.testBit f && !Y.testBit f)) (h2 : ∀ f, f < s_n S → Y.testBit f = true → X.testBit f = true) (h3 : ∀ f, f < s_n S → X.testBit f = false → u f = t f) : scL S k X1 u = scL S k X t + sumI (fun f => if Y.testBit f = true then cc S k f (u f) else 0) (s_n S) := by
  unfold scL
  rw [← sumI_add]
  refine sumI_agree (fun f hf => ?_)
  rw [h1 f hf]
  cases e : X.testBit f with
  | false =>
    have : Y.testBit f = false := by
      cases e2 : Y.testBit f with
      | false => rfl
      | true => rw [h2 f hf e2] at e; cases e
    rw [this, h3 f hf e]
    simp
  | true => cases e2 : Y.testBit f <;> simp
theorem stay_snd {S : GS} {k : Bool} {X : Nat} {t : Nat → Nat} (w : WF S) (hX : X < 2 ^ s_n S) (h0 : X ≠ 0) (h : PVP S X t) : ∃ u, PVP S (X &&& (X - 1)) u ∧ scL S k X t - ((10 * 11 ^ (9 - lst X) : Nat) : Int) = scL S k (X &&& (X - 1)) u := by
  have hn := w.1.1
  have hm := w.1.2.2.2.2.1
  have pp := p10 hn
  obtain ⟨l1, l2⟩ := low_bit (show X < 1024 by omega) h0
  have hs := bit_lt hX l1
  have rb := rst_bit (show X < 1024 by omega) h0
  have hne : ∀ x, X.testBit x = false → x ≠ lst X := fun x hx e => by rw [e, l1] at hx; cases hx
  refine ⟨upt t (lst X) (lst X), fun f hf hr => ?_, ?_⟩
  · by_cases e : f = lst X
    · rw [e, upt_at]
      exact ⟨hs, by rw [rb]; simp, fun z => absurd rfl z, 1, Nat.le_refl 1, by omega, upt_at _ _ _⟩
    · have hXf : X.testBit f = false := by
        rw [rb, decide_eq_true e, Bool.and_true] at hr
        exact hr
      obtain ⟨a, b, c, m, m1, m2, m3⟩ := h f hf hXf
      rw [upt_ne e]
      refine ⟨a, by rw [rb, b]; rfl, c, m, m1, m2, ?_⟩
      rw [(it_out (X := X) (fun x h1 h2 => ⟨(h x h1 h2).1, (h x h1 h2).2.1⟩) (fun x _ h2 => upt_ne (hne x h2)) hf hXf m).1]
      exact m3
  · have e1 := scL_more (S := S) (k := k) (X := X) (Y := 2 ^ lst X) (X1 := X &&& (X - 1)) (t := t) (u := upt t (lst X) (lst X)) (fun f hf => by
      rw [rb, Nat.testBit_two_pow]
      by_cases e : f = lst X
      · simp [e]
      · have : ¬ lst X = f := fun z => e z.symm
        simp [e, this]) (fun f hf hy => by
      rw [Nat.testBit_two_pow] at hy
      have : lst X = f := by simpa using hy
      rw [← this]; exact l1) (fun f hf hx => upt_ne (hne f hx))
    rw [e1, sum_one hs, upt_at]
    have e2 : cc S k (lst X) (lst X) = -((10 * 11 ^ (9 - lst X) : Nat) : Int) := if_pos rfl
    rw [e2]
    omega
/-- one further on the ring -/
def rho (p : Nat → Nat) (m x : Nat) : Nat := match fnd (fun i => decide (p i = x)) (m + 1) with
  | some i => if i = m then p 0 else p (i + 1)
  | none => x
theorem rho_at {p : Nat → Nat} {m i : Nat} (h : ∀ i j, i < j → j ≤ m → p i ≠ p j) (hi : i ≤ m) : rho p m (p i) = if i = m then p 0 else p (i + 1) := by
  unfold rho
  rw [fnd_first (i := i) (by simp) (fun j hj => decide_eq_false (fun e => h j i hj hi e)) (by omega)]
theorem sumY {h : Nat → Int} {n : Nat} {p : Nat → Nat} : ∀ {m : Nat}, (∀ i j, i < j → j ≤ m → p i ≠ p j) → (∀ i, i ≤ m → p i < n) → sumI (fun f => if (amF p m).testBit f = true then h f else 0) n = sumI (fun i => h (p i)) (m + 1)
  | 0, _, hn => by
    rw [show amF p 0 = 2 ^ p 0 from rfl, sum_one (hn 0 (Nat.le_refl 0))]
    show h (p 0) = 0 + h (p 0)
    rw [Int.zero_add]
  | m + 1, hi, hn => by
    have ih := sumY (h := h) (m := m) (fun i j a b => hi i j a (by omega)) (fun i a => hn i (by omega))
    rw [show amF p (m + 1) = amF p m ||| 2 ^ p (m + 1) from rfl, sumI_or (by
      cases e : (amF p m).testBit (p (m + 1)) with
      | false => rfl
      | true =>
        obtain ⟨i, h1, h2⟩ := (amF_bit p m _).mp e
        exact absurd h2 (hi i (m + 1) (by omega) (Nat.le_refl _))), if_pos (hn (m + 1) (Nat.le_refl _)), ih]
    rfl
theorem ring_sum {S : GS} {k : Bool} {p u : Nat → Nat} {s m : Nat} (hp : Pth S s m p) (hs : s < s_n S) (hu : ∀ i, i ≤ m → u (p i) = if i = m then s else p (i + 1)) : sumI (fun f => if (amF p m).testBit f = true then cc S k f (u f) else 0) (s_n S) = pS S k p m + cc S k (p m) s := by
  rw [sumY hp.2.2.1 (fun i hi => by
    rcases Nat.eq_zero_or_pos i with rfl | h1
    · rw [hp.1]; exact hs
    · exact (hp.2.1 i h1 hi).2)]
  show sumI (fun i => cc S k (p i) (u (p i))) m + cc S k (p m) (u (p m)) = _
  rw [hu m (Nat.le_refl m), if_pos rfl]
  congr 1
  refine sumI_agree (fun i hi => ?_)
  show cc S k (p i) (u (p i)) = cc S k (p i) (p (i + 1))
  rw [hu i (by omega), if_neg (by omega)]
theorem ring_snd {S : GS} {k : Bool} {X X1 s m : Nat} {t p : Nat → Nat} (h : PVP S X t) (hp : Pth S s m p) (hs : s < s_n S) (m1 : 1 ≤ m) (hm : m + 1 ≤ s_mo S) (ht : s_tk S (p m) s = true) (hY : ∀ f, f < s_n S → (amF p m).testBit f = true → X.testBit f = true) (hX1 : ∀ f, f < s_n S → X1.testBit f = (X.testBit f && !(amF p m).testBit f)) : ∃ u, PVP S X1 u ∧ scL S k X t + (pS S k p m + cc S k (p m) s) = scL S k X1 u := by
  have pn : ∀ i, i ≤ m → p i < s_n S := fun i hi => by
    rcases Nat.eq_zero_or_pos i with rfl | h1
    · rw [hp.1]; exact hs
    · exact (hp.2.1 i h1 hi).2
  have hu : ∀ i, i ≤ m → (if (amF p m).testBit (p i) = true then rho p m (p i) else t (p i)) = if i = m then s else p (i + 1) := fun i hi => by
    rw [if_pos ((amF_bit p m _).mpr ⟨i, hi, rfl⟩), rho_at hp.2.2.1 hi, hp.1]
  have out : ∀ x, x < s_n S → X.testBit x = false → (if (amF p m).testBit x = true then rho p m x else t x) = t x := fun x h1 h2 => if_neg (fun z => by rw [hY x h1 z] at h2; cases h2)
  refine ⟨fun x => if (amF p m).testBit x = true then rho p m x else t x, fun f hf hr => ?_, ?_⟩
  · by_cases e : (amF p m).testBit f = true
    · obtain ⟨i, hi, rfl⟩ := (amF_bit p m f).mp e
      have hui := hu i hi
      have fwd : ∀ j, j ≤ m → itN (fun x => if (amF p m).testBit x = true then rho p m x else t x) (p 0) j = p j := by
        intro j
        induction j with
        | zero => intro _; rfl
        | succ j ih =>
          intro hj
          show (fun x => if (amF p m).testBit x = true then rho p m x else t x) (itN _ (p 0) j) = p (j + 1)
          rw [ih (by omega)]
          show (if (amF p m).testBit (p j) = true then rho p m (p j) else t (p j)) = p (j + 1)
          rw [hu j (by omega), if_neg (by omega)]
      have per : itN (fun x => if (amF p m).testBit x = true then rho p m x else t x) (p 0) (m + 1) = p 0 := by
        show (fun x => if (amF p m).testBit x = true then rho p m x else t x) (itN _ (p 0) m) = p 0
        rw [fwd m (Nat.le_refl m)]
        show (if (amF p m).testBit (p m) = true then rho p m (p m) else t (p m)) = p 0
        rw [hu m (Nat.le_refl m), if_pos rfl, hp.1]
      have ret : itN (fun x => if (amF p m).testBit x = true then rho p m x else t x) (p i) (m + 1) = p i := by
        have e5 := itN_per per i
        rw [← itN_add, fwd i hi] at e5
        exact e5
      show (if (amF p m).testBit (p i) = true then rho p m (p i) else t (p i)) < s_n S ∧ _
      refine ⟨?_, ?_, fun _ => ?_, m + 1, by omega, hm, ret⟩
      · rw [hui]
        by_cases e3 : i = m
        · rw [if_pos e3]; exact hs
        · rw [if_neg e3]; exact pn (i + 1) (by omega)
      · show X1.testBit (if (amF p m).testBit (p i) = true then rho p m (p i) else t (p i)) = false
        rw [hui]
        by_cases e3 : i = m
        · rw [if_pos e3, hX1 s hs, (amF_bit p m s).mpr ⟨0, Nat.zero_le _, hp.1⟩]; simp
        · rw [if_neg e3, hX1 _ (pn (i + 1) (by omega)), (amF_bit p m _).mpr ⟨i + 1, by omega, rfl⟩]; simp
      · show s_tk S (p i) (if (amF p m).testBit (p i) = true then rho p m (p i) else t (p i)) = true
        rw [hui]
        by_cases e3 : i = m
        · rw [if_pos e3, e3]; exact ht
        · rw [if_neg e3]; exact hp.2.2.2 i (by omega)
    · have hXf : X.testBit f = false := by
        rw [hX1 f hf] at hr
        cases e2 : X.testBit f with
        | false => rfl
        | true => rw [e2] at hr; simp at hr; exact absurd hr e
      obtain ⟨a, b, c, j, j1, j2, j3⟩ := h f hf hXf
      show (if (amF p m).testBit f = true then rho p m f else t f) < s_n S ∧ X1.testBit (if (amF p m).testBit f = true then rho p m f else t f) = false ∧ ((if (amF p m).testBit f = true then rho p m f else t f) ≠ f → s_tk S f (if (amF p m).testBit f = true then rho p m f else t f) = true) ∧ _
      rw [if_neg e]
      refine ⟨a, by rw [hX1 _ a, b]; rfl, c, j, j1, j2, ?_⟩
      rw [(it_out (X := X) (fun x h1 h2 => ⟨(h x h1 h2).1, (h x h1 h2).2.1⟩) out hf hXf j).1]
      exact j3
  · rw [scL_more (t := t) hX1 hY out, ring_sum hp hs hu]
def Cl (S : GS) (u : Nat → Nat) (X : Nat) : Prop := ∀ f, X.testBit f = true → X.testBit (u f) = true
theorem least_of {q : Nat → Prop} : ∀ m, q m → ∃ c, q c ∧ c ≤ m ∧ ∀ i, i < c → ¬ q i := by
  intro m
  induction m using Nat.strongRecOn with
  | ind m ih =>
    intro h
    by_cases hc : ∃ y, y < m ∧ q y
    · obtain ⟨y, hy, hq⟩ := hc
      obtain ⟨c, h1, h2, h3⟩ := ih y hy hq
      exact ⟨c, h1, by omega, h3⟩
    · exact ⟨m, h, Nat.le_refl m, fun i hi hq => hc ⟨i, hi, hq⟩⟩
/-- the ring of the least one left -/
theorem ring_of {S : GS} {u : Nat → Nat} {X : Nat} (hn : s_n S ≤ 10) (hu : VP S u) (hX : X < 2 ^ s_n S) (h0 : X ≠ 0) (hc : Cl S u X) (hs : u (lst X) ≠ lst X) : ∃ m, 1 ≤ m ∧ m + 1 ≤ s_mo S ∧ Pth S (lst X) m (itN u (lst X)) ∧ u (itN u (lst X) m) = lst X ∧ s_tk S (itN u (lst X) m) (lst X) = true ∧ ∀ i, X.testBit (itN u (lst X) i) = true := by
  have pp := p10 hn
  obtain ⟨l1, l2⟩ := low_bit (show X < 1024 by omega) h0
  have sn := bit_lt hX l1
  have inX : ∀ i, X.testBit (itN u (lst X) i) = true := by
    intro i
    induction i with
    | zero => exact l1
    | succ i ih => exact hc _ ih
  have bn : ∀ i, itN u (lst X) i < s_n S := fun i => bit_lt hX (inX i)
  obtain ⟨m0, q1, q2, q3⟩ := (hu (lst X) sn).2.2
  obtain ⟨c, ⟨c1, c2⟩, c3, c4⟩ := least_of (q := fun c => 1 ≤ c ∧ itN u (lst X) c = lst X) m0 ⟨q1, q3⟩
  have c2' : 2 ≤ c := by
    rcases Nat.lt_or_ge 1 c with h | h
    · exact h
    · rw [show c = 1 by omega] at c2; exact absurd c2 hs
  obtain ⟨m, rfl⟩ : ∃ m, c = m + 1 := ⟨c - 1, by omega⟩
  have dist : ∀ i j, i < j → j ≤ m → itN u (lst X) i ≠ itN u (lst X) j := by
    intro i
    induction i with
    | zero => intro j h1 h2 e; exact c4 j (by omega) ⟨by omega, e.symm⟩
    | succ i ih =>
      intro j h1 h2 e
      obtain ⟨j, rfl⟩ : ∃ j2, j = j2 + 1 := ⟨j - 1, by omega⟩
      exact ih j (by omega) (by omega) (hu.inj (bn i) (bn j) e)
  have tk : ∀ i, u (itN u (lst X) i) ≠ itN u (lst X) i → s_tk S (itN u (lst X) i) (u (itN u (lst X) i)) = true := fun i h => (hu _ (bn i)).2.1 h
  refine ⟨m, by omega, by omega, ⟨rfl, fun i h1 h2 => ⟨?_, bn i⟩, dist, fun i hi => tk i (fun e => dist i (i + 1) (by omega) (by omega) e.symm)⟩, c2, ?_, inX⟩
  · have := l2 _ (inX i)
    have : itN u (lst X) 0 ≠ itN u (lst X) i := dist 0 i (by omega) h2
    have : itN u (lst X) 0 = lst X := rfl
    omega
  · have h := tk m (fun e => by
      have e2 : u (itN u (lst X) m) = lst X := c2
      rw [e2] at e
      exact dist 0 m (by omega) (Nat.le_refl m) e)
    have e2 : u (itN u (lst X) m) = lst X := c2
    rw [e2] at h
    exact h
theorem settle_cm {S : GS} {k : Bool} {D R : Nat → Option Int} {u : Nat → Nat} (w : WF S) (hu : VP S u) (hR : ∀ s, s < s_n S → CmR S k R s) (hP : ∀ X, X ≠ 0 → X < 2 ^ s_n S → PrS D R X) : ∀ X, X < 2 ^ s_n S → Cl S u X → geO (D X) (scL S k X u) → geO (D 0) (scL S k 0 u) := by
  have hn := w.1.1
  have pp := p10 hn
  intro X
  induction X using Nat.strongRecOn with
  | ind X ih =>
    intro hX hc hg
    by_cases h0 : X = 0
    · rw [h0] at hg; exact hg
    · obtain ⟨v, e, hv⟩ := hg
      obtain ⟨p1, p2⟩ := hP X h0 hX v e
      obtain ⟨l1, l2⟩ := low_bit (show X < 1024 by omega) h0
      have sn := bit_lt hX l1
      have rb := rst_bit (show X < 1024 by omega) h0
      obtain ⟨-, lo2, lo3, -, lo5, -⟩ := low_all X (by omega) h0
      by_cases hs : u (lst X) = lst X
      · refine ih (X &&& (X - 1)) lo5 (by omega) (fun f hf => ?_) ?_
        · rw [rb, Bool.and_eq_true, decide_eq_true_eq] at hf
          rw [rb, hc f hf.1, decide_eq_true (show u f ≠ lst X from fun z => hf.2 (hu.inj (bit_lt hX hf.1) sn (by rw [z, hs])))]
          rfl
        · have e1 := scL_more (S := S) (k := k) (X := X) (Y := 2 ^ lst X) (X1 := X &&& (X - 1)) (t := u) (u := u) (fun f hf => by
            rw [rb, Nat.testBit_two_pow]
            by_cases e : f = lst X
            · simp [e]
            · have : ¬ lst X = f := fun z => e z.symm
              simp [e, this]) (fun f hf hy => by
            rw [Nat.testBit_two_pow] at hy
            have : lst X = f := by simpa using hy
            rw [← this]; exact l1) (fun f hf hx => rfl)
          have e2 : cc S k (lst X) (lst X) = -((10 * 11 ^ (9 - lst X) : Nat) : Int) := if_pos rfl
          rw [e1, sum_one sn, hs, e2]
          exact p1.le (by omega)
      · obtain ⟨m, m1, m2, m3, m4, m5, m6⟩ := ring_of hn hu hX h0 hc hs
        obtain ⟨r, e2, hr⟩ := hR (lst X) sn m _ m1 m2 m3 m5
        have yb := amF_bit (itN u (lst X)) m
        have yX : ∀ f, (amF (itN u (lst X)) m).testBit f = true → X.testBit f = true := fun f hf => by
          obtain ⟨i, -, rfl⟩ := (yb f).mp hf
          exact m6 i
        have yl : amF (itN u (lst X)) m < 2 ^ s_n S := Nat.lt_pow_two_of_testBit _ (fun i hi => by
          cases e3 : (amF (itN u (lst X)) m).testBit i with
          | false => rfl
          | true => have := bit_lt hX (yX i e3); omega)
        have ys : (amF (itN u (lst X)) m).testBit (lst X) = true := (yb _).mpr ⟨0, Nat.zero_le _, rfl⟩
        have wb : ∀ f, f < 10 → (rmB (amF (itN u (lst X)) m) (lst X)).testBit f = ((amF (itN u (lst X)) m).testBit f && decide (f ≠ lst X)) := fun f hf => rmB_bit hf
        have wl : rmB (amF (itN u (lst X)) m) (lst X) < 2 ^ s_n S := rmB_lt yl
        have wsub : ∀ i, (rmB (amF (itN u (lst X)) m) (lst X)).testBit i = true → (X &&& (X - 1)).testBit i = true := fun i hi => by
          have i10 : i < 10 := by have := bit_lt wl hi; omega
          rw [wb i i10, Bool.and_eq_true] at hi
          rw [rb, yX i hi.1, hi.2]
          rfl
        have w0 : rmB (amF (itN u (lst X)) m) (lst X) ≠ 0 := fun z => by
          have h1 := m3.2.1 1 (Nat.le_refl 1) m1
          have h2 : (rmB (amF (itN u (lst X)) m) (lst X)).testBit (itN u (lst X) 1) = true := by
            rw [wb _ (by omega), (yb _).mpr ⟨1, m1, rfl⟩, decide_eq_true (by omega)]
            rfl
          rw [z, Nat.zero_testBit] at h2
          cases h2
        have q := p2 _ w0 wsub r (by rw [rmB_or (by omega) ys]; exact e2)
        have xb : ∀ f, ((X &&& (X - 1)) ^^^ rmB (amF (itN u (lst X)) m) (lst X)).testBit f = (X.testBit f && !(amF (itN u (lst X)) m).testBit f) := fun f => by
          rw [Nat.testBit_xor]
          by_cases f10 : f < 10
          · rw [wb f f10, rb]
            by_cases e3 : f = lst X
            · rw [e3, ys]; simp
            · cases e4 : (amF (itN u (lst X)) m).testBit f with
              | false => simp [e3]
              | true => rw [yX f e4]; simp [e3]
          · have a1 : X.testBit f = false := by
              cases e3 : X.testBit f with
              | false => rfl
              | true => have := bit_lt hX e3; omega
            have a2 : (rmB (amF (itN u (lst X)) m) (lst X)).testBit f = false := by
              cases e3 : (rmB (amF (itN u (lst X)) m) (lst X)).testBit f with
              | false => rfl
              | true => have := bit_lt wl e3; omega
            rw [rb, a1, a2]
            simp
        have xl : (X &&& (X - 1)) ^^^ rmB (amF (itN u (lst X)) m) (lst X) < X := by
          have sub : ∀ i, ((X &&& (X - 1)) ^^^ rmB (amF (itN u (lst X)) m) (lst X)).testBit i = true → (X &&& (X - 1)).testBit i = true := fun i hi => by
            rw [Nat.testBit_xor] at hi
            cases e3 : (X &&& (X - 1)).testBit i with
            | true => rfl
            | false =>
              rw [e3, Bool.false_xor] at hi
              rw [wsub i hi] at e3
              cases e3
          have : ((X &&& (X - 1)) ^^^ rmB (amF (itN u (lst X)) m) (lst X)) &&& (X &&& (X - 1)) = (X &&& (X - 1)) ^^^ rmB (amF (itN u (lst X)) m) (lst X) := Nat.eq_of_testBit_eq (fun i => by
            rw [Nat.testBit_and]
            cases e3 : ((X &&& (X - 1)) ^^^ rmB (amF (itN u (lst X)) m) (lst X)).testBit i with
            | false => rfl
            | true => rw [sub i e3]; rfl)
          have := Nat.and_le_right (n := (X &&& (X - 1)) ^^^ rmB (amF (itN u (lst X)) m) (lst X)) (m := X &&& (X - 1))
          omega
        refine ih _ xl (by omega) (fun f hf => ?_) ?_
        · rw [xb, Bool.and_eq_true] at hf
          rw [xb, hc f hf.1, Bool.true_and]
          have hfn := bit_lt hX hf.1
          cases e4 : (amF (itN u (lst X)) m).testBit (u f) with
          | false => rfl
          | true =>
            exfalso
            obtain ⟨i, i1, i2⟩ := (yb _).mp e4
            have inY : (amF (itN u (lst X)) m).testBit f = true := by
              rcases Nat.eq_zero_or_pos i with rfl | hp
              · have : itN u (lst X) m = f := hu.inj (bit_lt hX (m6 m)) hfn (by rw [m4]; exact i2)
                exact (yb f).mpr ⟨m, Nat.le_refl m, this⟩
              · obtain ⟨j, rfl⟩ : ∃ j, i = j + 1 := ⟨i - 1, by omega⟩
                have : itN u (lst X) j = f := hu.inj (bit_lt hX (m6 j)) hfn i2
                exact (yb f).mpr ⟨j, by omega, this⟩
            rw [inY] at hf
            simp at hf
        · rw [scL_more (S := S) (k := k) (X := X) (Y := amF (itN u (lst X)) m) (t := u) (u := u) (fun f _ => xb f) (fun f _ hf => yX f hf) (fun _ _ _ => rfl), ring_sum m3 sn (fun i hi => by
            by_cases e3 : i = m
            · rw [if_pos e3, e3]; exact m4
            · rw [if_neg e3]; rfl)]
          exact q.le (by omega)
/-- all settled: the best plan -/
theorem settle_best {S : GS} {k : Bool} {D R : Nat → Option Int} (w : WF S) (hR : ∀ s, s < s_n S → CmR S k R s) (hP : ∀ X, X ≠ 0 → X < 2 ^ s_n S → PrS D R X) (hS : SndS S k D) (h0 : geO (D (2 ^ s_n S - 1)) 0) : ∃ b, IsB S k b ∧ D 0 = some (sc S k b) := by
  have hn := w.1.1
  have p0 : 0 < 2 ^ s_n S := Nat.two_pow_pos _
  have e0 : ∀ u, scL S k 0 u = sc S k u := fun u => sumI_agree (fun i _ => by rw [Nat.zero_testBit]; rfl)
  have cm : ∀ u, VP S u → geO (D 0) (sc S k u) := fun u hu => by
    rw [← e0]
    refine settle_cm w hu hR hP (2 ^ s_n S - 1) (by omega) (fun f hf => ?_) ?_
    · rw [Nat.testBit_two_pow_sub_one, decide_eq_true_eq] at hf ⊢
      exact (hu f hf).1
    · refine h0.le ?_
      have : scL S k (2 ^ s_n S - 1) u = sumI (fun _ => 0) (s_n S) := sumI_agree (fun i hi => by rw [Nat.testBit_two_pow_sub_one, decide_eq_true hi]; rfl)
      rw [this, sumI_0]
      exact Int.le_refl 0
  obtain ⟨v, e, -⟩ := cm _ (id_VP w)
  obtain ⟨b, hb, hv⟩ := hS 0 v p0 e
  have hvp : VP S b := fun f hf => by
    obtain ⟨a1, -, a3, a4⟩ := hb f hf (Nat.zero_testBit f)
    exact ⟨a1, a3, a4⟩
  rw [e0] at hv
  refine ⟨b, ⟨hvp, fun t ht => ?_⟩, by rw [e, hv]⟩
  obtain ⟨x, e2, hx⟩ := cm t ht
  rw [e] at e2
  cases e2
  exact sc_bt w hvp ht (by omega)
theorem sub_next : ∀ (n W Y r : Nat), Y < 2 ^ n → (∀ i, Y.testBit i = true → r.testBit i = true) → (∀ i, W.testBit i = true → r.testBit i = true) → W < Y → W ≤ (Y - 1) &&& r := by
  intro n
  induction n with
  | zero => intro W Y r hY _ _ h; simp at hY; omega
  | succ n ih =>
    intro W Y r hY hy hw h
    have hp : 2 ^ (n + 1) = 2 * 2 ^ n := by rw [Nat.pow_succ, Nat.mul_comm]
    have d1 : ((Y - 1) &&& r) / 2 = (Y - 1) / 2 &&& r / 2 := Nat.and_div_two
    have s1 : ∀ i, (Y / 2).testBit i = true → (r / 2).testBit i = true := fun i hi => by
      rw [Nat.testBit_div_two] at hi ⊢
      exact hy _ hi
    have s2 : ∀ i, (W / 2).testBit i = true → (r / 2).testBit i = true := fun i hi => by
      rw [Nat.testBit_div_two] at hi ⊢
      exact hw _ hi
    rcases Nat.mod_two_eq_zero_or_one Y with b | b
    · have e1 : (Y - 1) / 2 = Y / 2 - 1 := by omega
      have hi := ih (W / 2) (Y / 2) (r / 2) (by omega) s1 s2 (by omega)
      rw [← e1, ← d1] at hi
      have bit : W % 2 ≤ ((Y - 1) &&& r) % 2 := by
        rcases Nat.mod_two_eq_zero_or_one W with c | c
        · omega
        · have h1 : W.testBit 0 = true := by rw [Nat.testBit_zero]; exact decide_eq_true c
          have h2 := hw 0 h1
          have h3 : ((Y - 1) &&& r).testBit 0 = true := by
            rw [Nat.testBit_and, h2, Nat.testBit_zero, decide_eq_true (show (Y - 1) % 2 = 1 by omega)]
            rfl
          rw [Nat.testBit_zero, decide_eq_true_eq] at h3
          omega
      omega
    · have e1 : (Y - 1) / 2 = Y / 2 := by omega
      have e2 : Y / 2 &&& r / 2 = Y / 2 := Nat.eq_of_testBit_eq (fun i => by
        rw [Nat.testBit_and]
        cases c : (Y / 2).testBit i with
        | false => rfl
        | true => rw [s1 i c]; rfl)
      rw [e1, e2] at d1
      omega
