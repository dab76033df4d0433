/-! trade, pure: who is left (a number), the plan till now -/
def fo (S : GS) (L f : Nat) : Option Nat := (fnd (fun k => L.testBit (s_wl S f k) && s_tk S f (s_wl S f k)) (s_wc S f)).map (s_wl S f)
theorem tk_rk {S : GS} {f g : Nat} (h : s_tk S f g = true) : 0 < s_rk S f g := by
  unfold s_tk at h
  exact (of_decide_eq_true h).1
theorem rk_wl {S : GS} {f g : Nat} (h : 0 < s_rk S f g) : s_wl S f (s_rk S f g - 1) = g ∧ s_rk S f g ≤ s_wc S f := ⟨rkF_some h, rkF_le _ _ _⟩
theorem fnd_min {p : Nat → Bool} {n i j : Nat} (h : fnd p n = some i) (hp : p j = true) (hj : j < n) : i ≤ j := by
  rcases Nat.lt_or_ge j i with h1 | h1
  · exfalso
    have key : ∀ x, x < i → p x = true → False := by
      intro x
      induction x using Nat.strongRecOn with
      | ind x ih =>
        intro hx ht
        by_cases hc : ∃ y, y < x ∧ p y = true
        · obtain ⟨y, hy, hty⟩ := hc
          exact ih y hy (by omega) hty
        · have h6 := fnd_first ht (fun k hk => by
            cases hh : p k with
            | false => rfl
            | true => exact absurd ⟨k, hk, hh⟩ hc) (n := n) (by have := (fnd_lt h).1; omega)
          rw [h] at h6
          cases h6
          omega
    exact key j h1 hp
  · exact h1
theorem fo_some {S : GS} (w : WF S) {L f g : Nat} (hf : f < 10) (h : fo S L f = some g) : L.testBit g = true ∧ s_tk S f g = true ∧ ∀ g2, L.testBit g2 = true → s_tk S f g2 = true → s_rk S f g ≤ s_rk S f g2 := by
  unfold fo at h
  rw [Option.map_eq_some_iff] at h
  obtain ⟨k, hk, rfl⟩ := h
  obtain ⟨h1, h2⟩ := fnd_lt hk
  rw [Bool.and_eq_true] at h2
  refine ⟨h2.1, h2.2, fun g2 h3 h4 => ?_⟩
  have e1 : s_rk S f (s_wl S f k) = k + 1 := rkF_first rfl (fun j hj => (w.2.2.2.1 f k hf h1).2.2 j hj) h1
  have h5 := tk_rk h4
  obtain ⟨h6, h7⟩ := rk_wl h5
  have := fnd_min hk (j := s_rk S f g2 - 1) (by rw [h6, h3, h4]; rfl) (by omega)
  omega
theorem fo_none {S : GS} {L f : Nat} (h : fo S L f = none) (g : Nat) (h1 : L.testBit g = true) : s_tk S f g = false := by
  unfold fo at h
  rw [Option.map_eq_none_iff] at h
  cases e : s_tk S f g with
  | false => rfl
  | true =>
    obtain ⟨h6, h7⟩ := rk_wl (tk_rk e)
    have h8 := tk_rk e
    have := fnd_no h (s_rk S f g - 1) (by omega)
    rw [h6, h1, e] at this
    cases this
theorem fo_is {S : GS} (w : WF S) {L f g : Nat} (hf : f < 10) (h1 : L.testBit g = true) (h2 : s_tk S f g = true) (h3 : ∀ g2, L.testBit g2 = true → s_tk S f g2 = true → s_rk S f g ≤ s_rk S f g2) : fo S L f = some g := by
  cases e : fo S L f with
  | none => have := fo_none e g h1; rw [h2] at this; cases this
  | some g2 =>
    obtain ⟨a, b, c⟩ := fo_some w hf e
    have := c g h1 h2
    have := h3 g2 a b
    have e1 := (rk_wl (tk_rk b)).1
    have e2 := (rk_wl (tk_rk h2)).1
    rw [show s_rk S f g2 = s_rk S f g by omega] at e1
    rw [← e1, e2]
theorem fo_no {S : GS} {L f : Nat} (h : ∀ g, L.testBit g = true → s_tk S f g = false) : fo S L f = none := by
  unfold fo
  rw [Option.map_eq_none_iff]
  refine fnd_none (fun k _ => ?_)
  cases e : L.testBit (s_wl S f k) with
  | false => rfl
  | true => rw [h _ e]; rfl
def lv (S : GS) (L : Nat) : Option Nat := fnd (fun f => L.testBit f && (fo S L f).isNone) (s_n S)
def sf (S : GS) (L f : Nat) : Nat := (fo S L f).getD 0
def rd (s : Nat → Nat) (f : Nat) : Nat → Nat → Bool
  | 0, x => decide (x = f)
  | k + 1, x => if x = f then true else rd s f k (s x)
def rmB (L f : Nat) : Nat := bs (fun i => L.testBit i && decide (i ≠ f)) 10
def rwk (s : Nat → Nat) : Nat → Nat → Nat × (Nat → Option Nat) → Nat × (Nat → Option Nat)
  | 0, _, t => t
  | k + 1, x, t => if t.1.testBit x = true then rwk s k (s x) (rmB t.1 x, fun i => if i = x then some (s x) else t.2 i) else t
def rg (S : GS) (L : Nat) : Option Nat := fnd (fun f => L.testBit f && rd (sf S L) f (s_n S) (sf S L f)) (s_n S)
def stp (S : GS) (t : Nat × (Nat → Option Nat)) : Nat × (Nat → Option Nat) := match lv S t.1 with
  | some f => (rmB t.1 f, t.2)
  | none => match rg S t.1 with
    | none => t
    | some f => rwk (sf S t.1) (s_n S) f t
def itS (S : GS) : Nat → Nat × (Nat → Option Nat) → Nat × (Nat → Option Nat)
  | 0, t => t
  | k + 1, t => itS S k (stp S t)
theorem itS_add (S : GS) : ∀ (j k : Nat) (t : Nat × (Nat → Option Nat)), itS S (j + k) t = itS S k (itS S j t)
  | 0, k, t => by rw [Nat.zero_add]; rfl
  | j + 1, k, t => by
    rw [show j + 1 + k = (j + k) + 1 by omega]
    exact itS_add S j k (stp S t)
theorem stp_0 (S : GS) (p : Nat → Option Nat) : stp S (0, p) = (0, p) := by
  have h1 : lv S 0 = none := fnd_none (fun i _ => by rw [Nat.zero_testBit]; rfl)
  have h2 : rg S 0 = none := fnd_none (fun i _ => by rw [Nat.zero_testBit]; rfl)
  unfold stp
  rw [show lv S (0, p).1 = none from h1]
  show (match rg S 0 with | none => (0, p) | some f => rwk (sf S 0) (s_n S) f (0, p)) = (0, p)
  rw [h2]
theorem itS_0 (S : GS) (p : Nat → Option Nat) : ∀ k, itS S k (0, p) = (0, p)
  | 0 => rfl
  | k + 1 => by
    show itS S k (stp S (0, p)) = _
    rw [stp_0]
    exact itS_0 S p k
theorem itS_uniq {S : GS} {t : Nat × (Nat → Option Nat)} {j k : Nat} {p q : Nat → Option Nat} (h1 : itS S j t = (0, p)) (h2 : itS S k t = (0, q)) : p = q := by
  have e1 := itS_add S j k t
  have e2 := itS_add S k j t
  rw [h1, itS_0] at e1
  rw [h2, itS_0, Nat.add_comm] at e2
  rw [e2] at e1
  exact (Prod.mk.inj e1).2.symm
theorem rmB_bit {L f i : Nat} (hi : i < 10) : (rmB L f).testBit i = (L.testBit i && decide (i ≠ f)) := by
  unfold rmB
  rw [bs_bit, decide_eq_true hi]
  rfl
theorem rmB_lt {L f n : Nat} (hL : L < 2 ^ n) : rmB L f < 2 ^ n := by
  refine Nat.lt_pow_two_of_testBit _ (fun i hi => ?_)
  unfold rmB
  rw [bs_bit]
  cases e : L.testBit i with
  | false => simp
  | true => have := bit_lt hL e; omega
theorem rmB_or {L f : Nat} (hL : L < 1024) (h : L.testBit f = true) : rmB L f ||| 2 ^ f = L := Nat.eq_of_testBit_eq (fun i => by
  rw [or_bit]
  unfold rmB
  rw [bs_bit]
  by_cases e : i = f
  · rw [e, h]; simp
  · cases e2 : L.testBit i with
    | false => simp [e]
    | true => rw [decide_eq_true (bit_lt (n := 10) hL e2)]; simp [e])
theorem rmB_cnt {L f n : Nat} (hn : n ≤ 10) (hL : L < 2 ^ n) (h : L.testBit f = true) : cnt (rmB L f).testBit n + 1 = cnt L.testBit n := by
  have hf := bit_lt hL h
  have hL2 : L < 1024 := Nat.lt_of_lt_of_le hL (p10 hn)
  have := cnt_or (m := rmB L f) (g := f) (by rw [rmB_bit (by omega)]; simp) hf
  rw [rmB_or hL2 h] at this
  omega
theorem rwk_le {s : Nat → Nat} {n : Nat} (hn : n ≤ 10) : ∀ (k x : Nat) (t : Nat × (Nat → Option Nat)), t.1 < 2 ^ n → (rwk s k x t).1 < 2 ^ n ∧ cnt (rwk s k x t).1.testBit n ≤ cnt t.1.testBit n
  | 0, _, t, h => ⟨h, Nat.le_refl _⟩
  | k + 1, x, t, h => by
    unfold rwk
    split
    · next e =>
      have h1 := rwk_le (s := s) hn k (s x) (rmB t.1 x, fun i => if i = x then some (s x) else t.2 i) (rmB_lt h)
      have h2 := rmB_cnt hn h e
      exact ⟨h1.1, Nat.le_trans h1.2 (by show cnt (rmB t.1 x).testBit n ≤ _; omega)⟩
    · exact ⟨h, Nat.le_refl _⟩
theorem lv_none {S : GS} (w : WF S) {L f : Nat} (hL : L < 2 ^ s_n S) (h : lv S L = none) (hf : L.testBit f = true) : fo S L f = some (sf S L f) ∧ L.testBit (sf S L f) = true ∧ sf S L f < s_n S := by
  have hn := w.1.1
  have h1 := fnd_no h f (bit_lt hL hf)
  rw [hf, Bool.true_and] at h1
  cases e : fo S L f with
  | none => rw [e] at h1; cases h1
  | some g =>
    have := fo_some w (show f < 10 by have := bit_lt hL hf; omega) e
    have e2 : sf S L f = g := by unfold sf; rw [e]; rfl
    rw [e2]
    exact ⟨rfl, this.1, bit_lt hL this.1⟩
def itN (s : Nat → Nat) (x : Nat) : Nat → Nat
  | 0 => x
  | k + 1 => s (itN s x k)
theorem itN_s (s : Nat → Nat) (x : Nat) : ∀ k, itN s (s x) k = itN s x (k + 1)
  | 0 => rfl
  | k + 1 => by
    show s (itN s (s x) k) = s (itN s x (k + 1))
    rw [itN_s s x k]
theorem itN_add (s : Nat → Nat) (x i : Nat) : ∀ k, itN s (itN s x i) k = itN s x (i + k)
  | 0 => rfl
  | k + 1 => by
    show s (itN s (itN s x i) k) = s (itN s x (i + k))
    rw [itN_add s x i k]
theorem rd_is {s : Nat → Nat} {f : Nat} : ∀ (k m x : Nat), m ≤ k → itN s x m = f → rd s f k x = true
  | 0, m, x, hm, h => by
    obtain rfl : m = 0 := by omega
    exact decide_eq_true h
  | k + 1, m, x, hm, h => by
    unfold rd
    split
    · rfl
    · next e =>
      cases m with
      | zero => exact absurd h e
      | succ m => exact rd_is k m (s x) (by omega) (by rw [itN_s]; exact h)
theorem rg_some {S : GS} (w : WF S) {L : Nat} (hL : L < 2 ^ s_n S) (h0 : L ≠ 0) (h : lv S L = none) : ∃ f, rg S L = some f ∧ L.testBit f = true ∧ f < s_n S := by
  obtain ⟨x, hx⟩ := Nat.exists_testBit_of_ne_zero h0
  have cl : ∀ i, L.testBit (itN (sf S L) x i) = true := by
    intro i
    induction i with
    | zero => exact hx
    | succ i ih => exact (lv_none w hL h ih).2.1
  cases e : rg S L with
  | some f =>
    have := fnd_lt e
    rw [Bool.and_eq_true] at this
    exact ⟨f, rfl, this.2.1, this.1⟩
  | none =>
    exfalso
    have := pigeon (s_n S) (s_n S + 1) (fun i => itN (sf S L) x i) (fun i _ => bit_lt hL (cl i)) (fun i j hij hj heq => by
      have heq : itN (sf S L) x i = itN (sf S L) x j := heq
      have h1 := fnd_no e (itN (sf S L) x i) (bit_lt hL (cl i))
      rw [cl i, Bool.true_and] at h1
      rw [rd_is (s_n S) (j - i - 1) _ (by omega) (by rw [itN_s, itN_add, show i + (j - i - 1 + 1) = j by omega]; exact heq.symm)] at h1
      cases h1)
    omega
theorem stp_less {S : GS} (w : WF S) {t : Nat × (Nat → Option Nat)} (hL : t.1 < 2 ^ s_n S) (h0 : t.1 ≠ 0) : (stp S t).1 < 2 ^ s_n S ∧ cnt (stp S t).1.testBit (s_n S) < cnt t.1.testBit (s_n S) := by
  have hn := w.1.1
  unfold stp
  cases e : lv S t.1 with
  | some f =>
    have h1 := fnd_lt e
    rw [Bool.and_eq_true] at h1
    have := rmB_cnt hn hL h1.2.1
    exact ⟨rmB_lt hL, by show cnt (rmB t.1 f).testBit _ < _; omega⟩
  | none =>
    obtain ⟨f, h1, h2, h3⟩ := rg_some w hL h0 e
    show (match rg S t.1 with | none => t | some f => rwk (sf S t.1) (s_n S) f t).1 < _ ∧ cnt (match rg S t.1 with | none => t | some f => rwk (sf S t.1) (s_n S) f t).1.testBit _ < _
    rw [h1]
    show (rwk (sf S t.1) (s_n S) f t).1 < _ ∧ cnt (rwk (sf S t.1) (s_n S) f t).1.testBit _ < _
    obtain ⟨m, hm⟩ : ∃ m, s_n S = m + 1 := ⟨s_n S - 1, by omega⟩
    have e5 : rwk (sf S t.1) (s_n S) f t = rwk (sf S t.1) m (sf S t.1 f) (rmB t.1 f, fun i => if i = f then some (sf S t.1 f) else t.2 i) := by
      rw [hm]
      show (if t.1.testBit f = true then _ else _) = _
      rw [if_pos h2]
    rw [e5]
    have h4 := rwk_le (s := sf S t.1) hn m (sf S t.1 f) (rmB t.1 f, fun i => if i = f then some (sf S t.1 f) else t.2 i) (rmB_lt hL)
    have h5 := rmB_cnt hn hL h2
    exact ⟨h4.1, Nat.lt_of_le_of_lt h4.2 (by show cnt (rmB t.1 f).testBit _ < _; omega)⟩
theorem cnt_zero {L n : Nat} (hL : L < 2 ^ n) (h : cnt L.testBit n = 0) : L = 0 := by
  rcases Nat.eq_zero_or_pos L with e | e
  · exact e
  · exfalso
    obtain ⟨i, hi⟩ := Nat.exists_testBit_of_ne_zero (Nat.ne_of_gt e)
    have key : ∀ m, i < m → 0 < cnt L.testBit m := by
      intro m
      induction m with
      | zero => intro h; omega
      | succ m ih =>
        intro h
        unfold cnt
        rcases Nat.lt_succ_iff_lt_or_eq.mp h with h | rfl
        · have := ih h; omega
        · rw [hi]; simp
    have := key n (bit_lt hL hi)
    omega
theorem itS_end {S : GS} (w : WF S) : ∀ (k : Nat) (t : Nat × (Nat → Option Nat)), t.1 < 2 ^ s_n S → cnt t.1.testBit (s_n S) ≤ k → (itS S k t).1 = 0
  | 0, t, hL, hc => show t.1 = 0 from cnt_zero hL (by omega)
  | k + 1, t, hL, hc => by
    show (itS S k (stp S t)).1 = 0
    by_cases h0 : t.1 = 0
    · have e : t = (0, t.2) := by rw [← h0]
      rw [e, stp_0, itS_0]
    · have := stp_less w hL h0
      exact itS_end w k (stp S t) this.1 (by omega)
/-- the plan that trade makes -/
def trP (S : GS) : Nat → Option Nat := (itS S 10 (2 ^ s_n S - 1, fun _ => none)).2
theorem trP_is {S : GS} (w : WF S) {k : Nat} {q : Nat → Option Nat} (h : itS S k (2 ^ s_n S - 1, fun _ => none) = (0, q)) : trP S = q := by
  have hn := w.1.1
  have p0 : 0 < 2 ^ s_n S := Nat.two_pow_pos _
  have e := itS_end w 10 (2 ^ s_n S - 1, fun _ => none) (by show 2 ^ s_n S - 1 < _; omega) (Nat.le_trans (cnt_le _ _) hn)
  exact itS_uniq (t := (2 ^ s_n S - 1, fun _ => none)) (j := 10) (by rw [← e]; rfl) h
/-- another plan -/
def plG (S : GS) (q : Nat → Option Nat) : GS := (S.1, S.2.1, fun a b c => if a = 0 then q b else S.2.2.1 a b c, S.2.2.2)
def o_trade (S : GS) : Int32 × GS := (nI (cnt (fun f => (trP S f).isSome) (s_n S)), plG (gC S) (trP S))
theorem RX.plG {S : GS} {N N1 : Mem} {K K1 : Mej} (R : RX S N K) {q : Nat → Option Nat} (h : ∀ i, i < 5 ∨ (20 ≤ i ∧ i < 40) → i ≠ 2 → N1 i = N i) (h2 : ∀ f, f < 10 → N1 2 f = oI (q f)) (hK : ∀ f, f < 10 → K1 11 f = K 11 f) : RX (plG S q) N1 K1 := by
  obtain ⟨a, b, c, -, e, f, g⟩ := R
  refine ⟨?_, fun i hi => ?_, fun i j hi hj => ?_, h2, fun y j hy hj => ?_, fun i hi => ?_, fun i hi => ?_⟩
  · rw [h 0 (by omega) (by decide)]; exact a
  · rw [h (20 + i) (by omega) (by omega)]; exact b i hi
  · rw [h (30 + i) (by omega) (by omega)]; exact c i j hi hj
  · rw [h 3 (by omega) (by decide)]; exact e y j hy hj
  · rw [h 4 (by omega) (by decide)]; exact f i hi
  · rw [hK i hi]; exact g i hi
theorem RY.plG {S : GS} {N N1 : Mem} (R : RY S N) {q : Nat → Option Nat} (h0 : ∀ k, k ≠ 0 → k < 20 ∨ k = 29 ∨ k = 34 → N1 40 k = N 40 k) (h : ∀ i, (42 ≤ i ∧ i < 55) ∨ i = 70 ∨ i = 75 → N1 i = N i) (h2 : ∀ f, f < s_n S → N1 55 f = oI (q f)) : RY (plG S q) N1 := by
  obtain ⟨⟨a1, a2, a3, a4, a5, a6, a7⟩, b, c, d, e⟩ := R
  refine ⟨⟨(h0 1 (by decide) (by decide)).trans a1, (h0 16 (by decide) (by decide)).trans a2, (h0 17 (by decide) (by decide)).trans a3, (h0 18 (by decide) (by decide)).trans a4, (h0 19 (by decide) (by decide)).trans a5, (h0 29 (by decide) (by decide)).trans a6, (h0 34 (by decide) (by decide)).trans a7⟩, fun f hf => ?_, fun f hf => ?_, fun y f hy hf => ?_, fun i hi => ?_⟩
  · rw [h 42 (by decide), h 43 (by decide), h 44 (by decide), h 45 (by decide), h 46 (by decide), h 47 (by decide), h 48 (by decide), h 49 (by decide), h 51 (by decide)]
    obtain ⟨b1, b2, b3, b4, b5, b6, b7, b8, b9, -⟩ := b f hf
    exact ⟨b1, b2, b3, b4, b5, b6, b7, b8, b9, h2 f hf⟩
  · rw [h 50 (by decide), h 52 (by decide), h 53 (by decide), h 54 (by decide)]
    exact c f hf
  · rw [h 75 (by decide)]; exact d y f hy hf
  · rw [h 70 (by decide)]; exact e i hi
