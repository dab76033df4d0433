/-! Behind the constructors: the cells by their keys. pm: which cell (by the order of making) a key is. -/
def pm (i : Nat) : Nat := match i with
  | 0 => 0
  | 1 => 1
  | 2 => 2
  | 3 => 3
  | 4 => 4
  | 5 => 5
  | 6 => 6
  | 7 => 12
  | 8 => 13
  | 9 => 14
  | 10 => 15
  | 11 => 7
  | 12 => 8
  | 13 => 9
  | 14 => 10
  | 15 => 11
  | 20 => 16
  | 21 => 18
  | 22 => 20
  | 23 => 22
  | 24 => 24
  | 25 => 26
  | 26 => 28
  | 27 => 30
  | 28 => 32
  | 29 => 34
  | 30 => 17
  | 31 => 19
  | 32 => 21
  | 33 => 23
  | 34 => 25
  | 35 => 27
  | 36 => 29
  | 37 => 31
  | 38 => 33
  | 39 => 35
  | 40 => 36
  | 42 => 37
  | 43 => 38
  | 44 => 39
  | 45 => 40
  | 46 => 41
  | 47 => 42
  | 48 => 43
  | 49 => 44
  | 50 => 45
  | 51 => 46
  | 52 => 47
  | 53 => 48
  | 54 => 49
  | 55 => 50
  | 60 => 51
  | 61 => 52
  | 67 => 53
  | 68 => 54
  | 70 => 55
  | 71 => 56
  | 73 => 57
  | 75 => 58
  | 99 => 59
  | _ => 1000
theorem pm_inj : ∀ i, i < 100 → ∀ j, j < 100 → pm i < 60 → pm i = pm j → i = j := by decide +kernel
def T00 : Nat → Shp := fun _ => .inr (.inl (0, 0))
def T5 : Nat → Shp := sR (T4i (sR (Tc (T3i (sR T00 0 (.inl (3, fun _ => none)))) 10) 36 (.inl (4, fun _ => none)))) 59 (.inr (.inl (2, 1)))
def N5 : Mem := zM (N4i (zM (Nc (N3i (zM (fun _ _ => 0) 0)) 10) 36)) 59
def K5 (K : Mej) : Mej := zJ (K4i (zJ K 36)) 59
def S0 : GS := (fun a b => if a = 0 then (if b = 1 then 2 else if b = 2 then 10 else 0) else if a = 5 ∨ a = 7 then 51 else 0, fun a _ _ => decide (a = 1), fun _ _ _ => none, fun _ => 0)
theorem wf_S0 : WF S0 := by
  refine ⟨⟨by decide, by decide, by decide, by decide, by decide, by decide⟩, fun f hf => absurd hf (Nat.not_lt_zero f), fun f _ _ => ⟨rfl, rfl, rfl, rfl, rfl, rfl, rfl, rfl, fun g _ => ⟨rfl, rfl⟩⟩, fun f k _ hk => absurd hk (Nat.not_lt_zero k), (fun f g _ h => by cases h), fun y f g hy => absurd hy (Nat.not_lt_zero y), fun i hi => absurd hi (Nat.not_lt_zero i)⟩
theorem ch_S0 : CHk S0 := ch_off rfl
theorem big_ex (q : Nat → Nat) : ∀ n : Nat, ∃ B, ∀ j, j < n → q j < B
  | 0 => ⟨0, fun j h => absurd h (Nat.not_lt_zero j)⟩
  | n + 1 => by
    obtain ⟨B, hB⟩ := big_ex q n
    refine ⟨max B (q n + 1), fun j hj => ?_⟩
    rcases Nat.lt_succ_iff_lt_or_eq.mp hj with h | rfl
    · exact Nat.lt_of_lt_of_le (hB j h) (Nat.le_max_left _ _)
    · exact Nat.lt_of_lt_of_le (Nat.lt_succ_self _) (Nat.le_max_right _ _)
def qk (q : Nat → Nat) (B : Nat) (i : Nat) : Nat := if pm i < 60 then q (pm i) else B + i
theorem qk_inj {q : Nat → Nat} {B : Nat} (hq : ∀ i j, i < 60 → j < 60 → q i = q j → i = j) (hB : ∀ j, j < 60 → q j < B) : ∀ i j, i < 100 → j < 100 → qk q B i = qk q B j → i = j := by
  intro i j hi hj e
  unfold qk at e
  by_cases h1 : pm i < 60
  · rw [if_pos h1] at e
    by_cases h2 : pm j < 60
    · rw [if_pos h2] at e
      exact pm_inj i hi j hj h1 (hq _ _ h1 h2 e)
    · rw [if_neg h2] at e
      have := hB _ h1
      omega
  · rw [if_neg h1] at e
    by_cases h2 : pm j < 60
    · rw [if_pos h2] at e
      have := hB _ h2
      omega
    · rw [if_neg h2] at e
      omega
theorem qi_ex {g : Nat → Nat} (h : ∀ i j, i < 100 → j < 100 → g i = g j → i = j) : ∃ qi : Nat → Nat, (∀ i, i < 100 → qi (g i) = i) ∧ ∀ a, (qi a < 100 ∧ g (qi a) = a) ∨ qi a = a + 100 := by
  have hx : ∀ a, ∃ j, (j < 100 ∧ g j = a) ∨ ((∀ i, i < 100 → g i ≠ a) ∧ j = a + 100) := fun a => by
    by_cases hx : ∃ j, j < 100 ∧ g j = a
    · obtain ⟨j, hj⟩ := hx
      exact ⟨j, Or.inl hj⟩
    · exact ⟨a + 100, Or.inr ⟨fun i hi e => hx ⟨i, hi, e⟩, rfl⟩⟩
  refine ⟨fun a => Classical.choose (hx a), fun i hi => ?_, fun a => ?_⟩
  · rcases Classical.choose_spec (hx (g i)) with ⟨h1, h2⟩ | ⟨h1, -⟩
    · exact h _ _ h1 hi h2
    · exact absurd rfl (h1 i hi)
  · rcases Classical.choose_spec (hx a) with h1 | ⟨-, h1⟩
    · exact Or.inl h1
    · exact Or.inr h1
set_option maxRecDepth 100000 in
theorem tk_0 (q : Nat → Nat) (B : Nat) : shq q (T5 0) = shq (qk q B) (.inl (3, fun k => if k < 7 then some (k + 1) else none)) := by
  show (Sum.inl (3, fun k => ((va_up (va_up (va_up (va_up (va_up (va_up (va_up (fun _ => none) 0 (some 1)) 1 (some 2)) 2 (some 3)) 3 (some 4)) 4 (some 5)) 5 (some 6)) 6 (some 12)) k).map q) : Shp) = Sum.inl (3, fun k => ((fun k => if k < 7 then some (k + 1) else none) k).map (qk q B))
  congr 2
  funext k
  by_cases hk : k < 7
  · rcases (show k = 0 ∨ k = 1 ∨ k = 2 ∨ k = 3 ∨ k = 4 ∨ k = 5 ∨ k = 6 by omega) with rfl | rfl | rfl | rfl | rfl | rfl | rfl <;> rfl
  · have e1 : (va_up (va_up (va_up (va_up (va_up (va_up (va_up (fun _ => none) 0 (some 1)) 1 (some 2)) 2 (some 3)) 3 (some 4)) 4 (some 5)) 5 (some 6)) 6 (some 12)) k = none := by
      rw [va_up_ne _ _ (by omega), va_up_ne _ _ (by omega), va_up_ne _ _ (by omega), va_up_ne _ _ (by omega), va_up_ne _ _ (by omega), va_up_ne _ _ (by omega), va_up_ne _ _ (by omega)]
    have e3 : (if k < 7 then some (k + 1) else none : Option Nat) = none := if_neg (by omega)
    rw [e1]
    show none = Option.map _ (if _ then _ else _)
    rw [e3]
    rfl
set_option maxRecDepth 100000 in
theorem tk_6 (q : Nat → Nat) (B : Nat) : shq q (T5 6) = shq (qk q B) (.inl (1, fun k => if k < 5 then some (11 + k) else none)) := by
  show (Sum.inl (1, fun k => ((va_up (va_up (va_up (va_up (va_up (fun _ => none) 0 (some 7)) 1 (some 8)) 2 (some 9)) 3 (some 10)) 4 (some 11)) k).map q) : Shp) = Sum.inl (1, fun k => ((fun k => if k < 5 then some (11 + k) else none) k).map (qk q B))
  congr 2
  funext k
  by_cases hk : k < 5
  · rcases (show k = 0 ∨ k = 1 ∨ k = 2 ∨ k = 3 ∨ k = 4 by omega) with rfl | rfl | rfl | rfl | rfl <;> rfl
  · have e1 : (va_up (va_up (va_up (va_up (va_up (fun _ => none) 0 (some 7)) 1 (some 8)) 2 (some 9)) 3 (some 10)) 4 (some 11)) k = none := by
      rw [va_up_ne _ _ (by omega), va_up_ne _ _ (by omega), va_up_ne _ _ (by omega), va_up_ne _ _ (by omega), va_up_ne _ _ (by omega)]
    have e3 : (if k < 5 then some (11 + k) else none : Option Nat) = none := if_neg (by omega)
    rw [e1]
    show none = Option.map _ (if _ then _ else _)
    rw [e3]
    rfl
set_option maxRecDepth 100000 in
theorem tk_7 (q : Nat → Nat) (B : Nat) : shq q (T5 12) = shq (qk q B) (.inl (2, fun k => if k < 3 then some (8 + k) else none)) := by
  show (Sum.inl (2, fun k => ((va_up (va_up (va_up (fun _ => none) 0 (some 13)) 1 (some 14)) 2 (some 15)) k).map q) : Shp) = Sum.inl (2, fun k => ((fun k => if k < 3 then some (8 + k) else none) k).map (qk q B))
  congr 2
  funext k
  by_cases hk : k < 3
  · rcases (show k = 0 ∨ k = 1 ∨ k = 2 by omega) with rfl | rfl | rfl <;> rfl
  · have e1 : (va_up (va_up (va_up (fun _ => none) 0 (some 13)) 1 (some 14)) 2 (some 15)) k = none := by
      rw [va_up_ne _ _ (by omega), va_up_ne _ _ (by omega), va_up_ne _ _ (by omega)]
    have e3 : (if k < 3 then some (8 + k) else none : Option Nat) = none := if_neg (by omega)
    rw [e1]
    show none = Option.map _ (if _ then _ else _)
    rw [e3]
    rfl
set_option maxRecDepth 100000 in
theorem tk_20 (q : Nat → Nat) (B : Nat) : shq q (T5 16) = shq (qk q B) (.inl (0, fun k => if k = 0 then some (20 + 10) else none)) := by
  show (Sum.inl (0, fun k => ((va_up (fun _ => none) 0 (some 17)) k).map q) : Shp) = Sum.inl (0, fun k => ((fun k => if k = 0 then some (20 + 10) else none) k).map (qk q B))
  congr 2
  funext k
  by_cases hk : k < 1
  · obtain rfl : k = 0 := by omega
    rfl
  · have e1 : (va_up (fun _ => none) 0 (some 17)) k = none := by
      rw [va_up_ne _ _ (by omega)]
    have e3 : (if k = 0 then some (20 + 10) else none : Option Nat) = none := if_neg (by omega)
    rw [e1]
    show none = Option.map _ (if _ then _ else _)
    rw [e3]
    rfl
set_option maxRecDepth 100000 in
theorem tk_21 (q : Nat → Nat) (B : Nat) : shq q (T5 18) = shq (qk q B) (.inl (0, fun k => if k = 0 then some (21 + 10) else none)) := by
  show (Sum.inl (0, fun k => ((va_up (fun _ => none) 0 (some 19)) k).map q) : Shp) = Sum.inl (0, fun k => ((fun k => if k = 0 then some (21 + 10) else none) k).map (qk q B))
  congr 2
  funext k
  by_cases hk : k < 1
  · obtain rfl : k = 0 := by omega
    rfl
  · have e1 : (va_up (fun _ => none) 0 (some 19)) k = none := by
      rw [va_up_ne _ _ (by omega)]
    have e3 : (if k = 0 then some (21 + 10) else none : Option Nat) = none := if_neg (by omega)
    rw [e1]
    show none = Option.map _ (if _ then _ else _)
    rw [e3]
    rfl
set_option maxRecDepth 100000 in
theorem tk_22 (q : Nat → Nat) (B : Nat) : shq q (T5 20) = shq (qk q B) (.inl (0, fun k => if k = 0 then some (22 + 10) else none)) := by
  show (Sum.inl (0, fun k => ((va_up (fun _ => none) 0 (some 21)) k).map q) : Shp) = Sum.inl (0, fun k => ((fun k => if k = 0 then some (22 + 10) else none) k).map (qk q B))
  congr 2
  funext k
  by_cases hk : k < 1
  · obtain rfl : k = 0 := by omega
    rfl
  · have e1 : (va_up (fun _ => none) 0 (some 21)) k = none := by
      rw [va_up_ne _ _ (by omega)]
    have e3 : (if k = 0 then some (22 + 10) else none : Option Nat) = none := if_neg (by omega)
    rw [e1]
    show none = Option.map _ (if _ then _ else _)
    rw [e3]
    rfl
set_option maxRecDepth 100000 in
theorem tk_23 (q : Nat → Nat) (B : Nat) : shq q (T5 22) = shq (qk q B) (.inl (0, fun k => if k = 0 then some (23 + 10) else none)) := by
  show (Sum.inl (0, fun k => ((va_up (fun _ => none) 0 (some 23)) k).map q) : Shp) = Sum.inl (0, fun k => ((fun k => if k = 0 then some (23 + 10) else none) k).map (qk q B))
  congr 2
  funext k
  by_cases hk : k < 1
  · obtain rfl : k = 0 := by omega
    rfl
  · have e1 : (va_up (fun _ => none) 0 (some 23)) k = none := by
      rw [va_up_ne _ _ (by omega)]
    have e3 : (if k = 0 then some (23 + 10) else none : Option Nat) = none := if_neg (by omega)
    rw [e1]
    show none = Option.map _ (if _ then _ else _)
    rw [e3]
    rfl
set_option maxRecDepth 100000 in
theorem tk_24 (q : Nat → Nat) (B : Nat) : shq q (T5 24) = shq (qk q B) (.inl (0, fun k => if k = 0 then some (24 + 10) else none)) := by
  show (Sum.inl (0, fun k => ((va_up (fun _ => none) 0 (some 25)) k).map q) : Shp) = Sum.inl (0, fun k => ((fun k => if k = 0 then some (24 + 10) else none) k).map (qk q B))
  congr 2
  funext k
  by_cases hk : k < 1
  · obtain rfl : k = 0 := by omega
    rfl
  · have e1 : (va_up (fun _ => none) 0 (some 25)) k = none := by
      rw [va_up_ne _ _ (by omega)]
    have e3 : (if k = 0 then some (24 + 10) else none : Option Nat) = none := if_neg (by omega)
    rw [e1]
    show none = Option.map _ (if _ then _ else _)
    rw [e3]
    rfl
set_option maxRecDepth 100000 in
theorem tk_25 (q : Nat → Nat) (B : Nat) : shq q (T5 26) = shq (qk q B) (.inl (0, fun k => if k = 0 then some (25 + 10) else none)) := by
  show (Sum.inl (0, fun k => ((va_up (fun _ => none) 0 (some 27)) k).map q) : Shp) = Sum.inl (0, fun k => ((fun k => if k = 0 then some (25 + 10) else none) k).map (qk q B))
  congr 2
  funext k
  by_cases hk : k < 1
  · obtain rfl : k = 0 := by omega
    rfl
  · have e1 : (va_up (fun _ => none) 0 (some 27)) k = none := by
      rw [va_up_ne _ _ (by omega)]
    have e3 : (if k = 0 then some (25 + 10) else none : Option Nat) = none := if_neg (by omega)
    rw [e1]
    show none = Option.map _ (if _ then _ else _)
    rw [e3]
    rfl
set_option maxRecDepth 100000 in
theorem tk_26 (q : Nat → Nat) (B : Nat) : shq q (T5 28) = shq (qk q B) (.inl (0, fun k => if k = 0 then some (26 + 10) else none)) := by
  show (Sum.inl (0, fun k => ((va_up (fun _ => none) 0 (some 29)) k).map q) : Shp) = Sum.inl (0, fun k => ((fun k => if k = 0 then some (26 + 10) else none) k).map (qk q B))
  congr 2
  funext k
  by_cases hk : k < 1
  · obtain rfl : k = 0 := by omega
    rfl
  · have e1 : (va_up (fun _ => none) 0 (some 29)) k = none := by
      rw [va_up_ne _ _ (by omega)]
    have e3 : (if k = 0 then some (26 + 10) else none : Option Nat) = none := if_neg (by omega)
    rw [e1]
    show none = Option.map _ (if _ then _ else _)
    rw [e3]
    rfl
set_option maxRecDepth 100000 in
theorem tk_27 (q : Nat → Nat) (B : Nat) : shq q (T5 30) = shq (qk q B) (.inl (0, fun k => if k = 0 then some (27 + 10) else none)) := by
  show (Sum.inl (0, fun k => ((va_up (fun _ => none) 0 (some 31)) k).map q) : Shp) = Sum.inl (0, fun k => ((fun k => if k = 0 then some (27 + 10) else none) k).map (qk q B))
  congr 2
  funext k
  by_cases hk : k < 1
  · obtain rfl : k = 0 := by omega
    rfl
  · have e1 : (va_up (fun _ => none) 0 (some 31)) k = none := by
      rw [va_up_ne _ _ (by omega)]
    have e3 : (if k = 0 then some (27 + 10) else none : Option Nat) = none := if_neg (by omega)
    rw [e1]
    show none = Option.map _ (if _ then _ else _)
    rw [e3]
    rfl
set_option maxRecDepth 100000 in
theorem tk_28 (q : Nat → Nat) (B : Nat) : shq q (T5 32) = shq (qk q B) (.inl (0, fun k => if k = 0 then some (28 + 10) else none)) := by
  show (Sum.inl (0, fun k => ((va_up (fun _ => none) 0 (some 33)) k).map q) : Shp) = Sum.inl (0, fun k => ((fun k => if k = 0 then some (28 + 10) else none) k).map (qk q B))
  congr 2
  funext k
  by_cases hk : k < 1
  · obtain rfl : k = 0 := by omega
    rfl
  · have e1 : (va_up (fun _ => none) 0 (some 33)) k = none := by
      rw [va_up_ne _ _ (by omega)]
    have e3 : (if k = 0 then some (28 + 10) else none : Option Nat) = none := if_neg (by omega)
    rw [e1]
    show none = Option.map _ (if _ then _ else _)
    rw [e3]
    rfl
set_option maxRecDepth 100000 in
theorem tk_29 (q : Nat → Nat) (B : Nat) : shq q (T5 34) = shq (qk q B) (.inl (0, fun k => if k = 0 then some (29 + 10) else none)) := by
  show (Sum.inl (0, fun k => ((va_up (fun _ => none) 0 (some 35)) k).map q) : Shp) = Sum.inl (0, fun k => ((fun k => if k = 0 then some (29 + 10) else none) k).map (qk q B))
  congr 2
  funext k
  by_cases hk : k < 1
  · obtain rfl : k = 0 := by omega
    rfl
  · have e1 : (va_up (fun _ => none) 0 (some 35)) k = none := by
      rw [va_up_ne _ _ (by omega)]
    have e3 : (if k = 0 then some (29 + 10) else none : Option Nat) = none := if_neg (by omega)
    rw [e1]
    show none = Option.map _ (if _ then _ else _)
    rw [e3]
    rfl
set_option maxRecDepth 100000 in
theorem tk_40 (q : Nat → Nat) (B : Nat) : shq q (T5 36) = shq (qk q B) (.inl (4, fun k => if fr_isR 4 k = true then some (40 + k) else none)) := by
  show (Sum.inl (4, fun k => ((va_up (va_up (va_up (va_up (va_up (va_up (va_up (va_up (va_up (va_up (va_up (va_up (va_up (va_up (va_up (va_up (va_up (va_up (va_up (va_up (va_up (va_up (fun _ => none) 2 (some 37)) 3 (some 38)) 4 (some 39)) 5 (some 40)) 6 (some 41)) 7 (some 42)) 8 (some 43)) 9 (some 44)) 10 (some 45)) 11 (some 46)) 12 (some 47)) 13 (some 48)) 14 (some 49)) 15 (some 50)) 20 (some 51)) 21 (some 52)) 27 (some 53)) 28 (some 54)) 30 (some 55)) 31 (some 56)) 33 (some 57)) 35 (some 58)) k).map q) : Shp) = Sum.inl (4, fun k => ((fun k => if fr_isR 4 k = true then some (40 + k) else none) k).map (qk q B))
  congr 2
  funext k
  by_cases hk : k < 36
  · rcases (show k = 0 ∨ k = 1 ∨ k = 2 ∨ k = 3 ∨ k = 4 ∨ k = 5 ∨ k = 6 ∨ k = 7 ∨ k = 8 ∨ k = 9 ∨ k = 10 ∨ k = 11 ∨ k = 12 ∨ k = 13 ∨ k = 14 ∨ k = 15 ∨ k = 16 ∨ k = 17 ∨ k = 18 ∨ k = 19 ∨ k = 20 ∨ k = 21 ∨ k = 22 ∨ k = 23 ∨ k = 24 ∨ k = 25 ∨ k = 26 ∨ k = 27 ∨ k = 28 ∨ k = 29 ∨ k = 30 ∨ k = 31 ∨ k = 32 ∨ k = 33 ∨ k = 34 ∨ k = 35 by omega) with rfl | rfl | rfl | rfl | rfl | rfl | rfl | rfl | rfl | rfl | rfl | rfl | rfl | rfl | rfl | rfl | rfl | rfl | rfl | rfl | rfl | rfl | rfl | rfl | rfl | rfl | rfl | rfl | rfl | rfl | rfl | rfl | rfl | rfl | rfl | rfl <;> rfl
  · have e1 : (va_up (va_up (va_up (va_up (va_up (va_up (va_up (va_up (va_up (va_up (va_up (va_up (va_up (va_up (va_up (va_up (va_up (va_up (va_up (va_up (va_up (va_up (fun _ => none) 2 (some 37)) 3 (some 38)) 4 (some 39)) 5 (some 40)) 6 (some 41)) 7 (some 42)) 8 (some 43)) 9 (some 44)) 10 (some 45)) 11 (some 46)) 12 (some 47)) 13 (some 48)) 14 (some 49)) 15 (some 50)) 20 (some 51)) 21 (some 52)) 27 (some 53)) 28 (some 54)) 30 (some 55)) 31 (some 56)) 33 (some 57)) 35 (some 58)) k = none := by
      rw [va_up_ne _ _ (by omega), va_up_ne _ _ (by omega), va_up_ne _ _ (by omega), va_up_ne _ _ (by omega), va_up_ne _ _ (by omega), va_up_ne _ _ (by omega), va_up_ne _ _ (by omega), va_up_ne _ _ (by omega), va_up_ne _ _ (by omega), va_up_ne _ _ (by omega), va_up_ne _ _ (by omega), va_up_ne _ _ (by omega), va_up_ne _ _ (by omega), va_up_ne _ _ (by omega), va_up_ne _ _ (by omega), va_up_ne _ _ (by omega), va_up_ne _ _ (by omega), va_up_ne _ _ (by omega), va_up_ne _ _ (by omega), va_up_ne _ _ (by omega), va_up_ne _ _ (by omega), va_up_ne _ _ (by omega)]
    have e2 : fr_isR 4 k = false := by
      show ((decide (2 ≤ k) && decide (k ≤ 15)) || (k == 20 || (k == 21 || (k == 27 || (k == 28 || (k == 30 || (k == 31 || (k == 33 || k == 35)))))))) = false
      have n1 : decide (k ≤ 15) = false := decide_eq_false (by omega)
      have n2 : ∀ j, j < 36 → (k == j) = false := fun j hj => beq_false_of_ne (by omega)
      rw [n1, n2 20 (by decide), n2 21 (by decide), n2 27 (by decide), n2 28 (by decide), n2 30 (by decide), n2 31 (by decide), n2 33 (by decide), n2 35 (by decide), Bool.and_false]
      rfl
    have e3 : (if fr_isR 4 k = true then some (40 + k) else none : Option Nat) = none := by rw [e2]; rfl
    rw [e1]
    show none = Option.map _ (if _ then _ else _)
    rw [e3]
    rfl
set_option maxRecDepth 100000 in
theorem tk_1 (q : Nat → Nat) (B : Nat) : shq q (T5 1) = shq (qk q B) (.inr (.inr (10, fun k => if k < 10 then some (20 + k) else none))) := by
  show (Sum.inr (Sum.inr (10, fun k => (hf 10 k).map q)) : Shp) = Sum.inr (Sum.inr (10, fun k => (if k < 10 then some (20 + k) else none : Option Nat).map (qk q B)))
  congr 3
  funext k
  by_cases hk : k < 10
  · rcases (show k = 0 ∨ k = 1 ∨ k = 2 ∨ k = 3 ∨ k = 4 ∨ k = 5 ∨ k = 6 ∨ k = 7 ∨ k = 8 ∨ k = 9 by omega) with rfl | rfl | rfl | rfl | rfl | rfl | rfl | rfl | rfl | rfl <;> rfl
  · unfold hf
    rw [if_neg hk, if_neg hk]
    rfl
set_option maxRecDepth 100000 in
theorem wok_of {q : Nat → Nat} {N : Mem} {K : Mej} {L : List Nat} {Sh : Nat → Shp} {M : Mem} {J : Mej} (hA : AOK 60 q T5 N K L Sh M J) {B : Nat} {qi : Nat → Nat} (h1 : ∀ i, i < 100 → qi (qk q B i) = i) (h2 : ∀ a, (qi a < 100 ∧ qk q B (qi a) = a) ∨ qi a = a + 100) : WOK L Sh (qk q B) qi := by
  refine ⟨h1, fun a ha => ?_, ?_⟩
  · rcases h2 a with h | h
    · exact h.2
    · omega
  · have at' : ∀ j, j < 60 → fr_at L Sh (q j) (shq q (T5 j)) := fun j hj => (hA.1 j hj).1.1
    intro i s hs
    unfold sk at hs
    split at hs
    · next hi =>
      cases hs
      refine ⟨by omega, ?_⟩
      rcases (show i = 20 ∨ i = 21 ∨ i = 22 ∨ i = 23 ∨ i = 24 ∨ i = 25 ∨ i = 26 ∨ i = 27 ∨ i = 28 ∨ i = 29 by omega) with rfl | rfl | rfl | rfl | rfl | rfl | rfl | rfl | rfl | rfl
      · exact (tk_20 q B) ▸ at' 16 (by decide)
      · exact (tk_21 q B) ▸ at' 18 (by decide)
      · exact (tk_22 q B) ▸ at' 20 (by decide)
      · exact (tk_23 q B) ▸ at' 22 (by decide)
      · exact (tk_24 q B) ▸ at' 24 (by decide)
      · exact (tk_25 q B) ▸ at' 26 (by decide)
      · exact (tk_26 q B) ▸ at' 28 (by decide)
      · exact (tk_27 q B) ▸ at' 30 (by decide)
      · exact (tk_28 q B) ▸ at' 32 (by decide)
      · exact (tk_29 q B) ▸ at' 34 (by decide)
    · split at hs
      · next hi =>
        cases hs
        refine ⟨by omega, ?_⟩
        rcases (show i = 30 ∨ i = 31 ∨ i = 32 ∨ i = 33 ∨ i = 34 ∨ i = 35 ∨ i = 36 ∨ i = 37 ∨ i = 38 ∨ i = 39 by omega) with rfl | rfl | rfl | rfl | rfl | rfl | rfl | rfl | rfl | rfl
        · exact at' 17 (by decide)
        · exact at' 19 (by decide)
        · exact at' 21 (by decide)
        · exact at' 23 (by decide)
        · exact at' 25 (by decide)
        · exact at' 27 (by decide)
        · exact at' 29 (by decide)
        · exact at' 31 (by decide)
        · exact at' 33 (by decide)
        · exact at' 35 (by decide)
      · split at hs
        · cases hs; exact ⟨by decide, (tk_0 q B) ▸ at' 0 (by decide)⟩
        · cases hs; exact ⟨by decide, (tk_1 q B) ▸ at' 1 (by decide)⟩
        · cases hs; exact ⟨by decide, at' 2 (by decide)⟩
        · cases hs; exact ⟨by decide, at' 3 (by decide)⟩
        · cases hs; exact ⟨by decide, at' 4 (by decide)⟩
        · cases hs; exact ⟨by decide, at' 5 (by decide)⟩
        · cases hs; exact ⟨by decide, (tk_6 q B) ▸ at' 6 (by decide)⟩
        · cases hs; exact ⟨by decide, (tk_7 q B) ▸ at' 12 (by decide)⟩
        · cases hs; exact ⟨by decide, at' 13 (by decide)⟩
        · cases hs; exact ⟨by decide, at' 14 (by decide)⟩
        · cases hs; exact ⟨by decide, at' 15 (by decide)⟩
        · cases hs; exact ⟨by decide, at' 7 (by decide)⟩
        · cases hs; exact ⟨by decide, at' 8 (by decide)⟩
        · cases hs; exact ⟨by decide, at' 9 (by decide)⟩
        · cases hs; exact ⟨by decide, at' 10 (by decide)⟩
        · cases hs; exact ⟨by decide, at' 11 (by decide)⟩
        · cases hs; exact ⟨by decide, (tk_40 q B) ▸ at' 36 (by decide)⟩
        · cases hs; exact ⟨by decide, at' 37 (by decide)⟩
        · cases hs; exact ⟨by decide, at' 38 (by decide)⟩
        · cases hs; exact ⟨by decide, at' 39 (by decide)⟩
        · cases hs; exact ⟨by decide, at' 40 (by decide)⟩
        · cases hs; exact ⟨by decide, at' 41 (by decide)⟩
        · cases hs; exact ⟨by decide, at' 42 (by decide)⟩
        · cases hs; exact ⟨by decide, at' 43 (by decide)⟩
        · cases hs; exact ⟨by decide, at' 44 (by decide)⟩
        · cases hs; exact ⟨by decide, at' 45 (by decide)⟩
        · cases hs; exact ⟨by decide, at' 46 (by decide)⟩
        · cases hs; exact ⟨by decide, at' 47 (by decide)⟩
        · cases hs; exact ⟨by decide, at' 48 (by decide)⟩
        · cases hs; exact ⟨by decide, at' 49 (by decide)⟩
        · cases hs; exact ⟨by decide, at' 50 (by decide)⟩
        · cases hs; exact ⟨by decide, at' 51 (by decide)⟩
        · cases hs; exact ⟨by decide, at' 52 (by decide)⟩
        · cases hs; exact ⟨by decide, at' 53 (by decide)⟩
        · cases hs; exact ⟨by decide, at' 54 (by decide)⟩
        · cases hs; exact ⟨by decide, at' 55 (by decide)⟩
        · cases hs; exact ⟨by decide, at' 56 (by decide)⟩
        · cases hs; exact ⟨by decide, at' 57 (by decide)⟩
        · cases hs; exact ⟨by decide, at' 58 (by decide)⟩
        · cases hs
