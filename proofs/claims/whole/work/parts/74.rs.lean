/-! numbers of the class's search as longs: none is the least of them -/
def jO : Option Int → Int64
  | none => -4611686018427387904
  | some v => Int64.ofInt v
def jB (v : Int) : Prop := -1000000000000000000 < v ∧ v < 1000000000000000000
def jBo (o : Option Int) : Prop := ∀ v, o = some v → jB v
theorem jI_int {v : Int} (h : jB v) : (Int64.ofInt v).toInt = v := Int64.toInt_ofInt_of_le (by have := h.1; omega) (by have := h.2; omega)
theorem jO_min : (jO none).toInt = -4611686018427387904 := by decide
theorem jO_eq {o : Option Int} (h : jBo o) : jO o = -4611686018427387904 ↔ o = none := by
  cases o with
  | none => exact ⟨fun _ => rfl, fun _ => rfl⟩
  | some v =>
    constructor
    · intro e
      have e2 : Int64.ofInt v = jO none := e
      have := congrArg Int64.toInt e2
      rw [jI_int (h v rfl), jO_min] at this
      have := (h v rfl).1
      omega
    · intro e; cases e
def omx : Option Int → Option Int → Option Int
  | none, b => b
  | some a, none => some a
  | some a, some b => some (if a < b then b else a)
theorem mx_jO {a b : Option Int} (ha : jBo a) (hb : jBo b) : mxL (jO a) (jO b) = jO (omx a b) := by
  unfold mxL
  cases a with
  | none =>
    cases b with
    | none => rfl
    | some v =>
      rw [if_pos (by rw [Int64.lt_iff_toInt_lt, jO_min, show (jO (some v)).toInt = v from jI_int (hb v rfl)]; have := (hb v rfl).1; omega)]
      rfl
  | some u =>
    cases b with
    | none =>
      rw [if_neg (by rw [Int64.lt_iff_toInt_lt, jO_min, show (jO (some u)).toInt = u from jI_int (ha u rfl)]; have := (ha u rfl).1; omega)]
      rfl
    | some v =>
      have e : (jO (some u) < jO (some v)) ↔ u < v := by rw [Int64.lt_iff_toInt_lt, show (jO (some u)).toInt = u from jI_int (ha u rfl), show (jO (some v)).toInt = v from jI_int (hb v rfl)]
      show _ = Int64.ofInt (if u < v then v else u)
      by_cases h : u < v
      · rw [if_pos (e.mpr h), if_pos h]; rfl
      · rw [if_neg (fun z => h (e.mp z)), if_neg h]; rfl
theorem omx_or (a b : Option Int) : omx a b = a ∨ omx a b = b := by
  cases a with
  | none => exact Or.inr rfl
  | some u =>
    cases b with
    | none => exact Or.inl rfl
    | some v =>
      show some (if u < v then v else u) = _ ∨ some (if u < v then v else u) = _
      split
      · exact Or.inr rfl
      · exact Or.inl rfl
theorem omx_l {a b : Option Int} {v : Int} (h : geO a v) : geO (omx a b) v := by
  obtain ⟨x, rfl, hx⟩ := h
  cases b with
  | none => exact ⟨x, rfl, hx⟩
  | some y => exact ⟨_, rfl, by split <;> omega⟩
theorem omx_r {a : Option Int} {v : Int} : geO (omx a (some v)) v := by
  cases a with
  | none => exact ⟨v, rfl, Int.le_refl v⟩
  | some u => exact ⟨_, rfl, by split <;> omega⟩
theorem sJ_eq (J : Mej) (a k : Nat) (v : Int64) : sJ J a k v a k = v := by rw [sJ_at, if_pos ⟨rfl, rfl⟩]
theorem sJ_ne {J : Mej} {a k : Nat} {v : Int64} {b j : Nat} (h : b ≠ a ∨ j ≠ k) : sJ J a k v b j = J b j := by rw [sJ_at, if_neg (by omega)]
/-- the ways' scores as the class holds them -/
def ed (S : GS) (k : Bool) (f g : Nat) : Option Int := if s_tk S f g = true then some (cc S k f g) else none
theorem ed_t {S : GS} {k : Bool} {f g : Nat} (h : s_tk S f g = true) : ed S k f g = some (cc S k f g) := if_pos h
theorem ed_f {S : GS} {k : Bool} {f g : Nat} (h : s_tk S f g = false) : ed S k f g = none := if_neg (by rw [h]; decide)
theorem pow_le (f : Nat) : 11 ^ (9 - f) ≤ 2357947691 := show 11 ^ (9 - f) ≤ 11 ^ 9 from Nat.pow_le_pow_right (by decide) (by omega)
theorem cc_b {S : GS} {k : Bool} {f g : Nat} (hg : g < 10) : -30000000000000 ≤ cc S k f g ∧ cc S k f g ≤ 30000000000000 := by
  have hp := pow_le f
  have hm : g * 11 ^ (9 - f) ≤ 10 * 2357947691 := Nat.mul_le_mul (by omega) hp
  have he : eM S k f g ≤ 1100 := by unfold eM; split <;> omega
  unfold cc
  split
  · omega
  · generalize g * 11 ^ (9 - f) = B at *
    omega
theorem pS_b {S : GS} {k : Bool} {s : Nat} {p : Nat → Nat} (hn : s_n S ≤ 10) : ∀ {m : Nat}, Pth S s m p → -(30000000000000 * (m : Int)) ≤ pS S k p m ∧ pS S k p m ≤ 30000000000000 * (m : Int)
  | 0, _ => ⟨Int.le_refl _, Int.le_refl _⟩
  | m + 1, h => by
    have ih := pS_b (k := k) hn h.pre
    have h1 := h.2.1 (m + 1) (by omega) (Nat.le_refl _)
    have h2 := cc_b (S := S) (k := k) (f := p m) (g := p (m + 1)) (by omega)
    show _ ≤ pS S k p m + cc S k (p m) (p (m + 1)) ∧ pS S k p m + cc S k (p m) (p (m + 1)) ≤ _
    omega
theorem Pth.m9 {S : GS} {s m : Nat} {p : Nat → Nat} (hn : s_n S ≤ 10) (h : Pth S s m p) : m ≤ 10 := by
  have := (mkF_pop hn h).1
  have := pop_le (mkF s p m)
  omega
theorem SndO.b {S : GS} {k : Bool} {s : Nat} {O : Nat → Nat → Option Int} (hn : s_n S ≤ 10) (h : SndO S k s O) (A j : Nat) : ∀ v, O A j = some v → -300000000000000 ≤ v ∧ v ≤ 300000000000000 := fun v e => by
  obtain ⟨m, p, -, h2, -, -, rfl⟩ := h A j v e
  have := h2.m9 hn
  have := pS_b (k := k) hn h2
  omega
theorem SndR.b {S : GS} {k : Bool} {R : Nat → Option Int} (hn : s_n S ≤ 10) (h : SndR S k R) (X : Nat) : ∀ v, R X = some v → -330000000000000 ≤ v ∧ v ≤ 330000000000000 := fun v e => by
  obtain ⟨s, m, p, h1, -, -, h2, -, -, rfl⟩ := h X v e
  have := h2.m9 hn
  have := pS_b (k := k) hn h2
  have h2 := cc_b (S := S) (k := k) (f := p m) (g := s) (by omega)
  omega
theorem sumI_b {h : Nat → Int} {B : Int} (hB : 0 ≤ B) : ∀ {n : Nat}, (∀ i, i < n → -B ≤ h i ∧ h i ≤ B) → -(B * n) ≤ sumI h n ∧ sumI h n ≤ B * n
  | 0, _ => by simp [sumI]
  | n + 1, hi => by
    have ih := sumI_b hB (n := n) (fun i a => hi i (by omega))
    have := hi n (by omega)
    rw [show ((n + 1 : Nat) : Int) = (n : Int) + 1 by omega, Int.mul_add, Int.mul_one]
    show _ ≤ sumI h n + h n ∧ sumI h n + h n ≤ _
    omega
theorem SndS.b {S : GS} {k : Bool} {D : Nat → Option Int} (hn : s_n S ≤ 10) (h : SndS S k D) {X : Nat} (hX : X < 2 ^ s_n S) : ∀ v, D X = some v → -300000000000000 ≤ v ∧ v ≤ 300000000000000 := fun v e => by
  obtain ⟨t, h1, rfl⟩ := h X v hX e
  have := sumI_b (h := fun f => if X.testBit f = true then 0 else cc S k f (t f)) (B := 30000000000000) (by omega) (n := s_n S) (fun i hi => by
    show _ ≤ (if X.testBit i = true then 0 else cc S k i (t i)) ∧ (if X.testBit i = true then 0 else cc S k i (t i)) ≤ _
    cases e2 : X.testBit i with
    | true => simp
    | false =>
      have := cc_b (S := S) (k := k) (f := i) (g := t i) (by have := (h1 i hi e2).1; omega)
      simp
      exact this)
  unfold scL
  have : (s_n S : Int) ≤ 10 := by omega
  omega
theorem jB_of {v : Int} (h : -1000000000000000 ≤ v ∧ v ≤ 1000000000000000) : jB v := ⟨by omega, by omega⟩
def fillJ (K : Mej) (a i : Nat) (v : Int64) : Mej := fun b j => if b = a ∧ j < i then v else K b j
theorem fillJ_0 (K : Mej) (a : Nat) (v : Int64) : fillJ K a 0 v = K := by
  funext b j
  simp [fillJ]
theorem fillJ_s (K : Mej) (a i : Nat) (v : Int64) : sJ (fillJ K a i v) a i v = fillJ K a (i + 1) v := by
  funext b j
  rw [sJ_at]
  unfold fillJ
  by_cases hb : b = a
  · subst hb
    by_cases hj : j = i
    · subst hj; simp
    · by_cases h2 : j < i
      · rw [if_neg (by omega), if_pos ⟨rfl, h2⟩, if_pos ⟨rfl, by omega⟩]
      · rw [if_neg (by omega), if_neg (by omega), if_neg (by omega)]
  · simp [hb]
theorem l_X1_clear {d : Nat} {N : Mem} {K : Mej} {x : Int32} : ∀ k i : Nat, i + k = 100 → EK d mX1_clear (PX none N (fillJ K 12 100 (jO none))) 7 [(0, .ref 6), (1, .int x), (2, .int (nI i))] [] N (fillJ K 12 i (jO none))
  | 0, i, h => by
    obtain rfl : i = 100 := by omega
    refine K_iload_n dX1_clear_7 rfl rfl ?_
    refine K_aload_n dX1_clear_8 rfl rfl ?_
    refine K_getR (r := 12) dX1_clear_9 fl_X1_15 rfl rfl rfl rfl ?_
    refine K_alen dX1_clear_12 rfl rfl ?_
    refine K_icmp_geN (tgt := 31) dX1_clear_13 (by decide) rfl (by first | omega | fail) (by first | omega | fail) (fun c13 => ?_) (fun c13 => ?_)
    · refine K_ret dX1_clear_31 rfl ?_
      exact ⟨rfl, rfl, rfl⟩
    · omega
  | k + 1, i, h => by
    have ih := l_X1_clear (d := d) (N := N) (K := K) (x := x) k (i + 1) (by omega)
    refine K_iload_n dX1_clear_7 rfl rfl ?_
    refine K_aload_n dX1_clear_8 rfl rfl ?_
    refine K_getR (r := 12) dX1_clear_9 fl_X1_15 rfl rfl rfl rfl ?_
    refine K_alen dX1_clear_12 rfl rfl ?_
    refine K_icmp_geN (tgt := 31) dX1_clear_13 (by decide) rfl (by first | omega | fail) (by first | omega | fail) (fun c13 => ?_) (fun c13 => ?_)
    · omega
    · refine K_aload_n dX1_clear_16 rfl rfl ?_
      refine K_getR (r := 12) dX1_clear_17 fl_X1_15 rfl rfl rfl rfl ?_
      refine K_iload_n dX1_clear_20 rfl rfl ?_
      refine K_ldc2 dX1_clear_21 kl_X1_33 rfl ?_
      refine K_last dX1_clear_24 (by first | rfl | exact sk_rk (by omega) | exact sk_hh (by omega)) (by first | omega | fail) (by decide) rfl ?_
      first | refine K_incN (lv' := [(0, _), (1, _), (2, _)]) dX1_clear_25 rfl (by decide) rfl rfl ?_ | refine K_iinc (lv' := [(0, _), (1, _), (2, _)]) dX1_clear_25 rfl rfl (by decide) rfl rfl ?_
      refine K_goto (tgt := 7) dX1_clear_28 (by decide) ?_
      show EK d _ _ _ _ _ N (sJ (fillJ K 12 i (jO none)) 12 i (jO none))
      rw [fillJ_s]
      exact ih
set_option maxRecDepth 100000 in
theorem c_X1_clear {d : Nat} {N : Mem} {K : Mej} {x : Int32} : CK d mX1_clear [.ref 6, .int x] N K (PX none (sM N 6 5 x) (fillJ K 12 100 (jO none))) := by
  refine CK.start [(0, _), (1, _)] (plainFor_of_name (by decide)) (Nat.le_of_ble_eq_true rfl) rfl ?_
  refine K_aload_n dX1_clear_0 rfl rfl ?_
  refine K_iload_n dX1_clear_1 rfl rfl ?_
  refine K_putI dX1_clear_2 fl_X1_27 (by first | rfl | exact sk_rk (by omega) | exact sk_hh (by omega)) rfl rfl rfl rfl ?_
  refine K_iconst (v := nI 0) dX1_clear_5 (by decide) rfl ?_
  refine K_istore_n (lv' := [(0, _), (1, _), (2, _)]) dX1_clear_6 (by decide) rfl rfl ?_
  have h := l_X1_clear (d := d) (N := sM N 6 5 x) (K := K) (x := x) 100 0 rfl
  rw [fillJ_0] at h
  exact h
theorem nI_long {a : Nat} (h : a < 2 ^ 31) : (nI a).toInt64 = Int64.ofInt (a : Int) := by
  apply Int64.toInt_inj.mp
  rw [Int32.toInt_toInt64, nI_toInt h, Int64.toInt_ofInt_of_le (by omega) (by omega)]
theorem pl_int (f : Nat) : pl11 f = Int64.ofInt ((11 ^ (9 - f) : Nat) : Int) := by
  unfold pl11
  rfl
theorem al_eq {S : GS} {k : Bool} {f g : Nat} (hg : g < 10) (hne : g ≠ f) : (nI (eM S k f g)).toInt64 * 25937424601 - (nI g).toInt64 * pl11 f = jO (some (cc S k f g)) := by
  have he : eM S k f g ≤ 1100 := by unfold eM; split <;> omega
  rw [nI_long (by omega), nI_long (by omega), pl_int]
  show _ = Int64.ofInt (cc S k f g)
  unfold cc
  rw [if_neg hne, Int64.ofInt_sub, Int64.ofInt_mul, show ((g * 11 ^ (9 - f) : Nat) : Int) = (g : Int) * ((11 ^ (9 - f) : Nat) : Int) from Int.natCast_mul _ _, Int64.ofInt_mul]
  rfl
set_option maxRecDepth 100000 in
theorem c_X1_allow {d : Nat} {S : GS} {k : Bool} {N : Mem} {K : Mej} {f g : Nat} (hf : f < 10) (hg : g < 10) (hne : g ≠ f) (h11 : K 11 f = pl11 f) : CK d mX1_allow [.ref 6, .int (nI f), .int (nI g), .int (nI (eM S k f g))] N K (PX none N (sJ K 12 (f * 10 + g) (jO (some (cc S k f g))))) := by
  rw [← al_eq hg hne]
  refine CK.start [(0, _), (1, _), (2, _), (3, _)] (plainFor_of_name (by decide)) (Nat.le_of_ble_eq_true rfl) rfl ?_
  refine K_aload_n dX1_allow_0 rfl rfl ?_
  refine K_getR (r := 12) dX1_allow_1 fl_X1_15 rfl rfl rfl rfl ?_
  refine K_iload_n dX1_allow_4 rfl rfl ?_
  refine K_bipush (v := nI 10) dX1_allow_5 (by decide) rfl ?_
  refine K_mulN dX1_allow_7 rfl ?_
  refine K_iload_n dX1_allow_8 rfl rfl ?_
  refine K_addN dX1_allow_9 rfl ?_
  refine K_iload_n dX1_allow_10 rfl rfl ?_
  refine K_i2l dX1_allow_11 rfl ?_
  refine K_ldc2 dX1_allow_12 kl_X1_35 rfl ?_
  refine K_lmul dX1_allow_15 rfl ?_
  refine K_iload_n dX1_allow_16 rfl rfl ?_
  refine K_i2l dX1_allow_17 rfl ?_
  refine K_aload_n dX1_allow_18 rfl rfl ?_
  refine K_getR (r := 11) dX1_allow_19 fl_X1_9 rfl rfl rfl rfl ?_
  refine K_iload_n dX1_allow_22 rfl rfl ?_
  refine K_lald dX1_allow_23 (by first | rfl | exact sk_rk (by omega) | exact sk_hh (by omega)) (by first | omega | fail) (by decide) (by first | assumption | rfl) rfl ?_
  refine K_lmul dX1_allow_24 rfl ?_
  refine K_lsub dX1_allow_25 rfl ?_
  refine K_last dX1_allow_26 (by first | rfl | exact sk_rk (by omega) | exact sk_hh (by omega)) (by first | omega | fail) (by decide) rfl ?_
  refine K_ret dX1_allow_27 rfl ?_
  exact ⟨rfl, rfl, rfl⟩
