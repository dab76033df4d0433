/-! plans: t f = f says that f stays. What is asked for: the most merit, then the least number. -/
def dgt (t : Nat → Nat) (f : Nat) : Nat := if t f = f then 10 else t f
def nm (t : Nat → Nat) : Nat → Nat
  | 0 => 0
  | i + 1 => 11 * nm t i + dgt t i
def eM (S : GS) (k : Bool) (f g : Nat) : Nat := 100 - s_rk S f g + (if k = true ∧ s_pl S f = some g then 1000 else 0)
def eT (S : GS) (k : Bool) (t : Nat → Nat) (f : Nat) : Nat := if t f = f then 0 else eM S k f (t f)
def mer (S : GS) (k : Bool) (t : Nat → Nat) : Nat := sumF (eT S k t) (s_n S)
def VP (S : GS) (t : Nat → Nat) : Prop := ∀ f, f < s_n S → t f < s_n S ∧ (t f ≠ f → s_tk S f (t f) = true) ∧ ∃ m, 1 ≤ m ∧ m ≤ s_mo S ∧ itN t f m = f
def bt (S : GS) (k : Bool) (t b : Nat → Nat) : Prop := mer S k t < mer S k b ∨ (mer S k t = mer S k b ∧ nm b (s_n S) ≤ nm t (s_n S))
def IsB (S : GS) (k : Bool) (b : Nat → Nat) : Prop := VP S b ∧ ∀ t, VP S t → bt S k t b
theorem nm_agree {t u : Nat → Nat} : ∀ {n : Nat}, (∀ i, i < n → t i = u i) → nm t n = nm u n
  | 0, _ => rfl
  | n + 1, h => by
    show 11 * nm t n + dgt t n = 11 * nm u n + dgt u n
    rw [nm_agree (fun i hi => h i (by omega))]
    unfold dgt
    rw [h n (by omega)]
theorem nm_lt {t u : Nat → Nat} {f : Nat} (h : ∀ i, i < f → t i = u i) (hd : dgt t f < dgt u f) : ∀ k, (∀ i, i < f + 1 + k → dgt t i ≤ 10) → nm t (f + 1 + k) < nm u (f + 1 + k)
  | 0, hb => by
    show 11 * nm t f + dgt t f < 11 * nm u f + dgt u f
    rw [nm_agree h]
    omega
  | k + 1, hb => by
    have ih := nm_lt h hd k (fun i hi => hb i (by omega))
    have := hb (f + 1 + k) (by omega)
    show 11 * nm t (f + 1 + k) + dgt t (f + 1 + k) < 11 * nm u (f + 1 + k) + dgt u (f + 1 + k)
    omega
theorem nm_inj {t u : Nat → Nat} : ∀ {n : Nat}, (∀ i, i < n → dgt t i ≤ 10) → (∀ i, i < n → dgt u i ≤ 10) → nm t n = nm u n → ∀ i, i < n → dgt t i = dgt u i
  | 0, _, _, _, i, hi => absurd hi (Nat.not_lt_zero i)
  | n + 1, h1, h2, h, i, hi => by
    have h : 11 * nm t n + dgt t n = 11 * nm u n + dgt u n := h
    have a := h1 n (by omega)
    have b := h2 n (by omega)
    rcases Nat.lt_succ_iff_lt_or_eq.mp hi with hi | rfl
    · exact nm_inj (fun i hi => h1 i (by omega)) (fun i hi => h2 i (by omega)) (by omega) i hi
    · omega
theorem dgt_le {t : Nat → Nat} {f : Nat} (h : t f < 10) : dgt t f ≤ 10 := by unfold dgt; split <;> omega
theorem dgt_eq {t u : Nat → Nat} {f : Nat} (h1 : t f < 10) (h2 : u f < 10) (h : dgt t f = dgt u f) : t f = u f := by
  unfold dgt at h
  split at h <;> split at h <;> omega
theorem IsB.uniq {S : GS} (w : WF S) {k : Bool} {b c : Nat → Nat} (hb : IsB S k b) (hc : IsB S k c) : ∀ f, f < s_n S → b f = c f := by
  have hn := w.1.1
  have lb : ∀ f, f < s_n S → b f < 10 := fun f hf => by have := (hb.1 f hf).1; omega
  have lc : ∀ f, f < s_n S → c f < 10 := fun f hf => by have := (hc.1 f hf).1; omega
  have e : nm b (s_n S) = nm c (s_n S) := by
    rcases hb.2 c hc.1 with h | h <;> rcases hc.2 b hb.1 with h2 | h2 <;> omega
  intro f hf
  exact dgt_eq (lb f hf) (lc f hf) (nm_inj (fun i hi => dgt_le (lb i hi)) (fun i hi => dgt_le (lc i hi)) e f hf)
/-- the best plan -/
noncomputable def bp (S : GS) (k : Bool) : Nat → Nat := @Classical.epsilon (Nat → Nat) ⟨fun _ => 0⟩ (IsB S k)
theorem bp_is {S : GS} (w : WF S) {k : Bool} {b : Nat → Nat} (hb : IsB S k b) : ∀ f, f < s_n S → bp S k f = b f := by
  have h : IsB S k (bp S k) := @Classical.epsilon_spec (Nat → Nat) (IsB S k) ⟨b, hb⟩
  exact h.uniq w hb
def pv (n : Nat) (t : Nat → Nat) (f : Nat) : Option Nat := if f < n then (if t f = f then none else some (t f)) else none
theorem pv_c {n : Nat} {t u : Nat → Nat} (h : ∀ f, f < n → t f = u f) : pv n t = pv n u := by
  funext f
  unfold pv
  by_cases hf : f < n
  · rw [if_pos hf, if_pos hf, h f hf]
  · rw [if_neg hf, if_neg hf]
/-- how many go, keep theirs; the sum of ranks: of the first i -/
def goT (t : Nat → Nat) (i : Nat) : Nat := cnt (fun f => decide (t f ≠ f)) i
def kpT (S : GS) (t : Nat → Nat) (i : Nat) : Nat := cnt (fun f => decide (t f ≠ f ∧ s_pl S f = some (t f))) i
def rkT (S : GS) (t : Nat → Nat) (i : Nat) : Nat := sumF (fun f => if t f = f then 0 else s_rk S f (t f)) i
noncomputable def o_best (S : GS) : Int32 × GS := (nI (goT (bp S false) (s_n S)), plG (gC S) (pv (s_n S) (bp S false)))
noncomputable def o_mend (S : GS) : Int32 × GS := (nI (kpT S (bp S true) (s_n S)), plG (gC S) (pv (s_n S) (bp S true)))
theorem mer_eq {S : GS} (w : WF S) {k : Bool} {t : Nat → Nat} : ∀ i, i ≤ 10 → sumF (eT S k t) i + rkT S t i = 100 * goT t i + (if k = true then 1000 * kpT S t i else 0)
  | 0, _ => by cases k <;> rfl
  | i + 1, hi => by
    have ih := mer_eq (k := k) w (t := t) i (by omega)
    have h9 := w.rk9 (f := i) (by omega) (t i)
    show sumF (eT S k t) i + eT S k t i + (rkT S t i + (if t i = i then 0 else s_rk S i (t i))) = 100 * (goT t i + (if decide (t i ≠ i) = true then 1 else 0)) + (if k = true then 1000 * (kpT S t i + (if decide (t i ≠ i ∧ s_pl S i = some (t i)) = true then 1 else 0)) else 0)
    have e0 : eT S k t i = if t i = i then 0 else 100 - s_rk S i (t i) + (if k = true ∧ s_pl S i = some (t i) then 1000 else 0) := rfl
    rw [e0]
    generalize sumF (eT S k t) i = X at ih ⊢
    by_cases e : t i = i
    · rw [if_pos e, if_pos e, decide_eq_false (fun z => z e), decide_eq_false (fun z => z.1 e)]
      cases k <;> simp at ih ⊢ <;> omega
    · rw [if_neg e, if_neg e, decide_eq_true e]
      by_cases e2 : s_pl S i = some (t i)
      · rw [decide_eq_true ⟨e, e2⟩]
        cases k <;> simp [e2] at ih ⊢ <;> omega
      · rw [decide_eq_false (fun z => e2 z.2)]
        cases k <;> simp [e2] at ih ⊢ <;> omega
theorem rkT_le {S : GS} (w : WF S) {t : Nat → Nat} : ∀ i, i ≤ 10 → rkT S t i ≤ 9 * goT t i
  | 0, _ => Nat.le_refl _
  | i + 1, hi => by
    have ih := rkT_le w (t := t) i (by omega)
    have h9 := w.rk9 (f := i) (by omega) (t i)
    show rkT S t i + (if t i = i then 0 else s_rk S i (t i)) ≤ 9 * (goT t i + (if decide (t i ≠ i) = true then 1 else 0))
    by_cases e : t i = i
    · rw [if_pos e, decide_eq_false (fun z => z e)]; simp; omega
    · rw [if_neg e, decide_eq_true e]; simp; omega
/-- from the first f on: what goes, what is kept, what it ranks -/
theorem goT_more (t : Nat → Nat) (f : Nat) : ∀ k, goT t (f + k) ≤ goT t f + k
  | 0 => Nat.le_refl _
  | k + 1 => by
    have ih := goT_more t f k
    show goT t (f + k) + (if decide (t (f + k) ≠ f + k) = true then 1 else 0) ≤ _
    split <;> omega
theorem kpT_more (S : GS) (t : Nat → Nat) (f : Nat) : ∀ k, kpT S t (f + k) + cnt (s_go S) f ≤ kpT S t f + cnt (s_go S) (f + k)
  | 0 => Nat.le_refl _
  | k + 1 => by
    have ih := kpT_more S t f k
    show kpT S t (f + k) + (if decide (t (f + k) ≠ f + k ∧ s_pl S (f + k) = some (t (f + k))) = true then 1 else 0) + cnt (s_go S) f ≤ kpT S t f + (cnt (s_go S) (f + k) + (if s_go S (f + k) = true then 1 else 0))
    by_cases e : t (f + k) ≠ f + k ∧ s_pl S (f + k) = some (t (f + k))
    · rw [decide_eq_true e, go_t (by rw [e.2]; exact fun h => by cases h)]
      simp
      omega
    · rw [decide_eq_false e]
      simp
      omega
theorem rkT_more {S : GS} {t : Nat → Nat} (h : VP S t) (f : Nat) : ∀ k, f + k ≤ s_n S → rkT S t f + goT t (f + k) ≤ rkT S t (f + k) + goT t f
  | 0, _ => Nat.le_refl _
  | k + 1, hk => by
    have ih := rkT_more h f k (by omega)
    show rkT S t f + (goT t (f + k) + (if decide (t (f + k) ≠ f + k) = true then 1 else 0)) ≤ rkT S t (f + k) + (if t (f + k) = f + k then 0 else s_rk S (f + k) (t (f + k))) + goT t f
    by_cases e : t (f + k) = f + k
    · rw [if_pos e, decide_eq_false (fun z => z e)]; simp; omega
    · have := tk_rk ((h (f + k) (by omega)).2.1 e)
      rw [if_neg e, decide_eq_true e]; simp; omega
theorem goT_agree {t u : Nat → Nat} {f : Nat} (h : ∀ i, i < f → t i = u i) : goT t f = goT u f := cnt_agree (fun i hi => by rw [h i hi])
theorem kpT_agree {S : GS} {t u : Nat → Nat} {f : Nat} (h : ∀ i, i < f → t i = u i) : kpT S t f = kpT S u f := cnt_agree (fun i hi => by rw [h i hi])
theorem sumF_agree {p q : Nat → Nat} : ∀ {n : Nat}, (∀ i, i < n → p i = q i) → sumF p n = sumF q n
  | 0, _ => rfl
  | n + 1, h => by
    show sumF p n + p n = sumF q n + q n
    rw [sumF_agree (fun i hi => h i (by omega)), h n (by omega)]
theorem rkT_agree {S : GS} {t u : Nat → Nat} {f : Nat} (h : ∀ i, i < f → t i = u i) : rkT S t f = rkT S u f := sumF_agree (fun i hi => by rw [h i hi])
theorem mer_agree {S : GS} {k : Bool} {t u : Nat → Nat} (h : ∀ i, i < s_n S → t i = u i) : mer S k t = mer S k u := sumF_agree (fun i hi => by unfold eT; rw [h i hi])
/-- no plan that begins like this one is better than the best till now -/
theorem prune {S : GS} (w : WF S) {k : Bool} {t b u : Nat → Nat} {f : Nat} (hf : f ≤ s_n S) (ht : VP S t) (hu : ∀ i, i < f → t i = u i)
    (h : (k = true ∧ kpT S u f + cnt (s_go S) (s_n S) < kpT S b (s_n S) + cnt (s_go S) f) ∨ ((k = true → kpT S u f + cnt (s_go S) (s_n S) = kpT S b (s_n S) + cnt (s_go S) f) ∧ (goT u f + (s_n S - f) < goT b (s_n S) ∨ (goT u f + (s_n S - f) = goT b (s_n S) ∧ rkT S b (s_n S) ≤ rkT S u f + (s_n S - f))))) :
    mer S k t ≤ mer S k b := by
  have hn := w.1.1
  have a1 := mer_eq (k := k) w (t := t) (s_n S) hn
  have a2 := mer_eq (k := k) w (t := b) (s_n S) hn
  have a3 := rkT_le w (t := t) (s_n S) hn
  have a4 := rkT_le w (t := b) (s_n S) hn
  have b1 := goT_more t f (s_n S - f)
  have b2 := kpT_more S t f (s_n S - f)
  have b3 := rkT_more ht f (s_n S - f) (by omega)
  rw [show f + (s_n S - f) = s_n S by omega] at b1 b2 b3
  rw [goT_agree hu] at b1 b3
  rw [kpT_agree hu] at b2
  rw [rkT_agree hu] at b3
  have c1 : goT t (s_n S) ≤ s_n S := cnt_le _ _
  have c2 : goT b (s_n S) ≤ s_n S := cnt_le _ _
  show sumF (eT S k t) (s_n S) ≤ sumF (eT S k b) (s_n S)
  cases k with
  | false => simp at a1 a2 h; omega
  | true => simp at a1 a2 h; omega
theorem better {S : GS} (w : WF S) {k : Bool} {t b : Nat → Nat} (ht : VP S t) (hb : VP S b) : mer S k b < mer S k t ↔ (k = true ∧ kpT S b (s_n S) < kpT S t (s_n S)) ∨ ((k = true → kpT S t (s_n S) = kpT S b (s_n S)) ∧ (goT b (s_n S) < goT t (s_n S) ∨ (goT t (s_n S) = goT b (s_n S) ∧ rkT S t (s_n S) < rkT S b (s_n S)))) := by
  have hn := w.1.1
  have a1 := mer_eq (k := k) w (t := t) (s_n S) hn
  have a2 := mer_eq (k := k) w (t := b) (s_n S) hn
  have a3 := rkT_le w (t := t) (s_n S) hn
  have a4 := rkT_le w (t := b) (s_n S) hn
  have c1 : goT t (s_n S) ≤ s_n S := cnt_le _ _
  have c2 : goT b (s_n S) ≤ s_n S := cnt_le _ _
  have d1 := rkT_more ht 0 (s_n S) (by omega)
  have d2 := rkT_more hb 0 (s_n S) (by omega)
  rw [Nat.zero_add] at d1 d2
  have d3 : rkT S t 0 = 0 := rfl
  have d4 : rkT S b 0 = 0 := rfl
  have d5 : goT t 0 = 0 := rfl
  have d6 : goT b 0 = 0 := rfl
  unfold mer
  cases k with
  | false => simp at a1 a2 ⊢; omega
  | true => simp at a1 a2 ⊢; omega
/-- the ways within the first f + 1: when they come back to f, then soon -/
def CLx (S : GS) (t : Nat → Nat) (f : Nat) : Prop := ∀ m, 1 ≤ m → (∀ i, i < m → itN t f i ≤ f) → itN t f m = f → ∃ m2, 1 ≤ m2 ∧ m2 ≤ s_mo S ∧ itN t f m2 = f
theorem itN_agree {t u : Nat → Nat} {x f : Nat} (h : ∀ g, g ≤ f → t g = u g) : ∀ {m : Nat}, (∀ i, i < m → itN u x i ≤ f) → itN t x m = itN u x m
  | 0, _ => rfl
  | m + 1, hm => by
    show t (itN t x m) = u (itN u x m)
    rw [itN_agree h (fun i hi => hm i (by omega)), h _ (hm m (by omega))]
theorem itN_per {t : Nat → Nat} {x m : Nat} (h : itN t x m = x) (j : Nat) : itN t x (j + m) = itN t x j := by
  rw [Nat.add_comm, ← itN_add, h]
/-- a way on of j steps that leaves the first f + 1, a way of k steps to f: too long for any plan -/
theorem too_long {S : GS} {t u : Nat → Nat} {x f k j : Nat} (hx : x < s_n S) (h : VP S t) (hu : ∀ g, g ≤ f → t g = u g) (h1 : ∀ i, i < k → itN u x i ≤ f) (h2 : itN u x k = f) (h3 : ∀ i, i < j → itN u f i ≤ f) (h4 : f < itN u f j) (hl : s_mo S ≤ k + j) : False := by
  have pos : ∀ i, i < k + j → itN u x i ≤ f := fun i hi => by
    rcases Nat.lt_or_ge i k with hk | hk
    · exact h1 i hk
    · have := h3 (i - k) (by omega)
      have e5 := itN_add u x k (i - k)
      rw [h2, show k + (i - k) = i by omega] at e5
      omega
  have e : itN t x (k + j) = itN u f j := by
    rw [itN_agree hu (fun i hi => pos i hi), ← itN_add, h2]
  obtain ⟨m, m1, m2, m3⟩ := (h x hx).2.2
  have p := itN_per m3 (k + j - m)
  rw [show k + j - m + m = k + j by omega, e] at p
  have q := itN_agree hu (x := x) (m := k + j - m) (fun i hi => pos i (by omega))
  have := pos (k + j - m) (by omega)
  omega
