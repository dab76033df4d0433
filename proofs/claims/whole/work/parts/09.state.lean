/-! The ghost state S: numbers, truths, maybe-numbers, points. RX: the class holds S; WF: S is in bounds. -/
abbrev GS : Type := (Nat → Nat → Nat) × (Nat → Nat → Nat → Bool) × (Nat → Nat → Nat → Option Nat) × (Nat → Int32)
def s_n (S : GS) : Nat := S.1 0 0
def s_st (S : GS) : Nat := S.1 0 1
def s_mo (S : GS) : Nat := S.1 0 2
def s_li (S : GS) : Nat := S.1 0 3
def s_yr (S : GS) : Nat := S.1 0 4
def s_tc (S : GS) : Nat := S.1 0 5
def s_kd (S : GS) (f : Nat) : Nat := S.1 1 f
def s_bd (S : GS) (f : Nat) : Nat := S.1 2 f
def s_ps (S : GS) (f : Nat) : Nat := S.1 3 f
def s_ff (S : GS) (f : Nat) : Nat := S.1 4 f
def s_ft (S : GS) (f : Nat) : Nat := S.1 5 f
def s_tf (S : GS) (f : Nat) : Nat := S.1 6 f
def s_tt (S : GS) (f : Nat) : Nat := S.1 7 f
def s_wc (S : GS) (f : Nat) : Nat := S.1 8 f
def s_td (S : GS) (i : Nat) : Nat := S.1 9 i
def s_wl (S : GS) (f : Nat) : Nat → Nat := S.1 (20 + f)
def s_pt (S : GS) (f : Nat) : Bool := S.2.1 0 f 0
def s_pr (S : GS) (f : Nat) : Bool := S.2.1 1 f 0
def s_br (S : GS) (f g : Nat) : Bool := S.2.1 2 f g
def s_ch (S : GS) : Bool := S.2.1 3 0 0
def s_pl (S : GS) (f : Nat) : Option Nat := S.2.2.1 0 f 0
def s_bk (S : GS) (y f : Nat) : Option Nat := S.2.2.1 1 y f
def s_po (S : GS) (f : Nat) : Int32 := S.2.2.2 f
/-- the rank of g in the first c of the wishes w: 1 and on; 0 if it isn't there -/
def rkF (w : Nat → Nat) : Nat → Nat → Nat
  | 0, _ => 0
  | c + 1, g => if rkF w c g = 0 then (if w c = g then c + 1 else 0) else rkF w c g
def s_rk (S : GS) (f g : Nat) : Nat := rkF (s_wl S f) (s_wc S f) g
theorem rkF_le (w : Nat → Nat) (g : Nat) : ∀ c, rkF w c g ≤ c
  | 0 => Nat.le_refl 0
  | c + 1 => by
    have := rkF_le w g c
    unfold rkF
    split
    · split <;> omega
    · omega
theorem rkF_some {w : Nat → Nat} {g : Nat} : ∀ {c : Nat}, 0 < rkF w c g → w (rkF w c g - 1) = g
  | 0, h => absurd h (Nat.lt_irrefl 0)
  | c + 1, h => by
    unfold rkF at h ⊢
    split
    · next e =>
      rw [if_pos e] at h
      split
      · next e2 => exact e2
      · next e2 => rw [if_neg e2] at h; omega
    · next e => exact rkF_some (Nat.pos_of_ne_zero e)
theorem rkF_none {w : Nat → Nat} {g : Nat} : ∀ {c : Nat}, rkF w c g = 0 → ∀ k, k < c → w k ≠ g
  | 0, _, k, h => absurd h (Nat.not_lt_zero k)
  | c + 1, h, k, hk => by
    unfold rkF at h
    split at h
    · next e =>
      split at h
      · omega
      · next e2 =>
        rcases Nat.lt_succ_iff_lt_or_eq.mp hk with hk | rfl
        · exact rkF_none e k hk
        · exact e2
    · next e => exact absurd h e
def pl11 (f : Nat) : Int64 := lN (11 ^ (9 - f))
def RX (S : GS) (N : Mem) (K : Mej) : Prop :=
  (N 0 7 = nI (s_n S) ∧ N 0 8 = nI (s_yr S) ∧ N 0 9 = nI (s_tc S) ∧ N 0 10 = nI (s_st S) ∧ N 0 11 = nI (s_mo S) ∧ N 0 12 = nI (s_li S) ∧ N 0 13 = bI (s_ch S)) ∧
  (∀ f, f < 10 → N (20 + f) 1 = nI (s_wc S f) ∧ N (20 + f) 2 = nI (s_kd S f) ∧ N (20 + f) 3 = nI (s_bd S f) ∧ N (20 + f) 4 = nI (s_ps S f) ∧ N (20 + f) 5 = bI (s_pt S f) ∧ N (20 + f) 6 = bI (s_pr S f) ∧ N (20 + f) 7 = nI (s_ff S f) ∧ N (20 + f) 8 = nI (s_ft S f) ∧ N (20 + f) 9 = nI (s_tf S f) ∧ N (20 + f) 10 = nI (s_tt S f) ∧ (∃ m, m < 1024 ∧ N (20 + f) 11 = nI m ∧ ∀ g, g < 10 → m.testBit g = s_br S f g) ∧ N (20 + f) 12 = s_po S f) ∧
  (∀ f g, f < 10 → g < 10 → N (30 + f) g = nI (s_rk S f g)) ∧
  (∀ f, f < 10 → N 2 f = oI (s_pl S f)) ∧
  (∀ y f, y < s_yr S → f < 10 → N 3 (y * 10 + f) = oI (s_bk S y f)) ∧
  (∀ i, i < s_tc S → N 4 i = nI (s_td S i)) ∧
  (∀ f, f < 10 → K 11 f = pl11 f)
def WF (S : GS) : Prop :=
  (s_n S ≤ 10 ∧ s_yr S ≤ 60 ∧ s_tc S ≤ 10 ∧ (1 ≤ s_st S ∧ s_st S ≤ 8) ∧ (2 ≤ s_mo S ∧ s_mo S ≤ 10) ∧ s_li S ≤ 500) ∧
  (∀ f, f < s_n S → s_kd S f < 4 ∧ (1 ≤ s_bd S f ∧ s_bd S f ≤ 9) ∧ (1 ≤ s_ps S f ∧ s_ps S f ≤ 9) ∧ s_ff S f ≤ 51 ∧ s_ft S f ≤ 51 ∧ s_tf S f ≤ 51 ∧ s_tt S f ≤ 51) ∧
  (∀ f, s_n S ≤ f → f < 10 → s_wc S f = 0 ∧ s_ff S f = 0 ∧ s_ft S f = 51 ∧ s_tf S f = 0 ∧ s_tt S f = 51 ∧ s_pr S f = true ∧ s_pl S f = none ∧ s_po S f = 0 ∧ ∀ g, g < 10 → s_br S f g = false ∧ s_br S g f = false) ∧
  (∀ f k, f < 10 → k < s_wc S f → s_wl S f k < s_n S ∧ s_wl S f k ≠ f ∧ ∀ j, j < k → s_wl S f j ≠ s_wl S f k) ∧
  (∀ f g, f < 10 → s_pl S f = some g → f < s_n S ∧ g < s_n S ∧ g ≠ f) ∧
  (∀ y f g, y < s_yr S → f < 10 → s_bk S y f = some g → f < s_n S ∧ g < s_n S ∧ g ≠ f) ∧
  (∀ i, i < s_tc S → s_td S i < s_n S)
theorem pigeon : ∀ (m n : Nat) (f : Nat → Nat), (∀ i, i < n → f i < m) → (∀ i j, i < j → j < n → f i ≠ f j) → n ≤ m
  | 0, n, f, h, _ => by
    rcases Nat.eq_zero_or_pos n with e | e
    · omega
    · exact absurd (h 0 e) (Nat.not_lt_zero _)
  | m + 1, n, f, h, hd => by
    rcases Nat.eq_zero_or_pos n with e | e
    · omega
    · by_cases hx : ∃ k, k < n ∧ f k = m
      · obtain ⟨k, hk, hfk⟩ := hx
        have := pigeon m (n - 1) (fun i => if i < k then f i else f (i + 1)) (fun i hi => by
          show (if i < k then f i else f (i + 1)) < m
          split
          · next h1 =>
            have h2 := h i (by omega)
            have h3 := hd i k h1 hk
            omega
          · next h1 =>
            have h2 := h (i + 1) (by omega)
            have h3 := hd k (i + 1) (by omega) (by omega)
            omega) (fun i j hij hj => by
          show (if i < k then f i else f (i + 1)) ≠ (if j < k then f j else f (j + 1))
          split <;> split
          · exact hd i j hij (by omega)
          · exact hd i (j + 1) (by omega) (by omega)
          · omega
          · exact hd (i + 1) (j + 1) (by omega) (by omega))
        omega
      · have := pigeon m n f (fun i hi => by
          have h1 := h i hi
          have h2 : f i ≠ m := fun e2 => hx ⟨i, hi, e2⟩
          omega) hd
        omega
theorem WF.wc {S : GS} (w : WF S) {f : Nat} (hf : f < 10) : s_wc S f ≤ 9 := by
  rcases Nat.lt_or_ge f (s_n S) with h | h
  · have hn := w.1.1
    have h2 := pigeon 10 (s_wc S f + 1) (fun k => if k < s_wc S f then s_wl S f k else f) (fun i hi => by
      show (if i < s_wc S f then s_wl S f i else f) < 10
      split
      · next h1 => have := (w.2.2.2.1 f i hf h1).1; omega
      · omega) (fun i j hij hj => by
      show (if i < s_wc S f then s_wl S f i else f) ≠ (if j < s_wc S f then s_wl S f j else f)
      rw [if_pos (by omega)]
      split
      · next h1 => exact (w.2.2.2.1 f j hf h1).2.2 i hij
      · exact (w.2.2.2.1 f i hf (by omega)).2.1)
    omega
  · rw [(w.2.2.1 f h hf).1]
    omega
theorem WF.rk9 {S : GS} (w : WF S) {f : Nat} (hf : f < 10) (g : Nat) : s_rk S f g ≤ 9 := Nat.le_trans (rkF_le _ _ _) (w.wc hf)
theorem WF.rkn {S : GS} (w : WF S) {f g : Nat} (hf : f < 10) (h : 0 < s_rk S f g) : f < s_n S ∧ g < s_n S ∧ g ≠ f := by
  have h1 := rkF_some h
  have h2 := rkF_le (s_wl S f) g (s_wc S f)
  have h3 : rkF (s_wl S f) (s_wc S f) g = s_rk S f g := rfl
  obtain ⟨a, b, -⟩ := w.2.2.2.1 f (rkF (s_wl S f) (s_wc S f) g - 1) hf (by omega)
  rw [h1] at a b
  refine ⟨?_, a, b⟩
  rcases Nat.lt_or_ge f (s_n S) with h | h
  · exact h
  · have := (w.2.2.1 f h hf).1
    omega
theorem WF.plb {S : GS} (w : WF S) {f : Nat} (hf : f < 10) : oB (s_pl S f) := by
  intro g hg
  have := (w.2.2.2.2.1 f g hf hg).2.1
  have := w.1.1
  omega
def s_sl (S : GS) (f : Nat) : Nat := vSl (s_kd S f) (s_bd S f)
def s_wo (S : GS) (f : Nat) : Nat := vWo (s_kd S f) (s_bd S f)
def s_hin (S : GS) (f g : Nat) : Nat :=
  if s_pr S f = false ∨ s_pr S g = false then 1
  else if s_br S f g = true then 2
  else if s_sl S g < s_ps S f then 3
  else if s_pt S f = true ∧ vPe (s_kd S g) = false then 4
  else if min (s_tt S f) (s_ft S g) + 1 < max (s_tf S f) (s_ff S g) + s_st S then 5
  else 0
def s_tk (S : GS) (f g : Nat) : Bool := decide (0 < s_rk S f g ∧ s_hin S f g = 0)
theorem vSl_le {kd bd : Nat} : vSl kd bd ≤ bd := by
  unfold vSl
  split <;> omega
theorem wk_le {a b c : Nat} (ha : a ≤ 100) (hb : b ≤ 100) (hc : c ≤ 100) : nI c ≤ nI a - nI b + nI 1 ↔ b + c ≤ a + 1 := by
  rw [Int32.le_iff_toInt_le, nI_toInt (by omega), Int32.toInt_add, Int32.toInt_sub, nI_toInt (by omega), nI_toInt (by omega), nI_toInt (by omega)]
  rw [Int.bmod_eq_of_le (n := ((a : Int) - b)) (by omega) (by omega), Int.bmod_eq_of_le (by omega) (by omega)]
  omega
def isF (n : Nat) (x : Int32) : Bool := decide (¬ x < 0 ∧ ¬ nI n ≤ x)
theorem isF_iff {n : Nat} (hn : n ≤ 10) {x : Int32} : isF n x = true ↔ ∃ f, f < n ∧ x = nI f := by
  simp only [isF, decide_eq_true_eq]
  constructor
  · rintro ⟨h1, h2⟩
    obtain ⟨j, hj, rfl⟩ := nI_of h1
    refine ⟨j, ?_, rfl⟩
    rw [nI_leI (by omega) hj] at h2
    omega
  · rintro ⟨f, hf, rfl⟩
    exact ⟨nI_pos (by omega), fun h => by rw [nI_leI (by omega) (by omega)] at h; omega⟩
theorem isF_nI {n f : Nat} (hn : n ≤ 10) (hf : f < 2 ^ 31) : isF n (nI f) = decide (f < n) := by
  by_cases h : f < n
  · rw [(isF_iff hn).mpr ⟨f, h, rfl⟩]; simp [h]
  · have : isF n (nI f) ≠ true := by
      intro e
      obtain ⟨g, hg, e2⟩ := (isF_iff hn).mp e
      rw [nI_eq hf (by omega)] at e2
      omega
    simp [h, this]
def two (n : Nat) (x y : Int32) : Bool := isF n x && isF n y && !decide (x = y)
theorem two_iff {n : Nat} (hn : n ≤ 10) {x y : Int32} : two n x y = true ↔ ∃ f g, f < n ∧ g < n ∧ f ≠ g ∧ x = nI f ∧ y = nI g := by
  simp only [two, Bool.and_eq_true, isF_iff hn, Bool.not_eq_true', decide_eq_false_iff_not]
  constructor
  · rintro ⟨⟨⟨f, hf, rfl⟩, g, hg, rfl⟩, h⟩
    exact ⟨f, g, hf, hg, fun e => h (by rw [e]), rfl, rfl⟩
  · rintro ⟨f, g, hf, hg, h, rfl, rfl⟩
    exact ⟨⟨⟨f, hf, rfl⟩, g, hg, rfl⟩, fun e => h ((nI_eq (by omega) (by omega)).mp e)⟩
