/-! sets of families as numbers; the class's Ways: clear, add, leastOf, lengthFrom, tellShortestRing -/
def bs (p : Nat → Bool) : Nat → Nat
  | 0 => 0
  | n + 1 => if p n = true then bs p n ||| 2 ^ n else bs p n
theorem bs_lt (p : Nat → Bool) : ∀ n, bs p n < 2 ^ n
  | 0 => Nat.one_pos
  | n + 1 => by
    have h := bs_lt p n
    have h2 : 2 ^ n < 2 ^ (n + 1) := Nat.pow_lt_pow_right (by omega) (by omega)
    unfold bs
    split
    · exact Nat.or_lt_two_pow (by omega) h2
    · omega
theorem bs_bit (p : Nat → Bool) : ∀ n i, (bs p n).testBit i = (decide (i < n) && p i)
  | 0, i => by simp [bs]
  | n + 1, i => by
    have h := bs_bit p n i
    unfold bs
    by_cases e : i = n
    · subst e
      split
      · next e => rw [Nat.testBit_or, h, Nat.testBit_two_pow]; simp [e]
      · next e => rw [h]; simp [e]
    · have e2 : ¬ n = i := fun z => e z.symm
      split
      · rw [Nat.testBit_or, h, Nat.testBit_two_pow]
        simp only [e2, decide_false, Bool.or_false]
        congr 1
        apply decide_eq_decide.mpr
        omega
      · rw [h]
        congr 1
        apply decide_eq_decide.mpr
        omega
theorem bs_t {p : Nat → Bool} {n : Nat} (h : p n = true) : bs p (n + 1) = bs p n ||| 2 ^ n := by
  show (if p n = true then _ else _) = _
  rw [if_pos h]
theorem bs_f {p : Nat → Bool} {n : Nat} (h : p n = false) : bs p (n + 1) = bs p n := by
  show (if p n = true then _ else _) = _
  rw [if_neg (by rw [h]; decide)]
theorem bs_10 {p : Nat → Bool} {n : Nat} (h : n ≤ 10) : bs p n < 1024 := Nat.lt_of_lt_of_le (bs_lt p n) (show 2 ^ n ≤ 2 ^ 10 from Nat.pow_le_pow_right (by omega) h)
theorem and_ne {a b : Nat} : a &&& b ≠ 0 ↔ ∃ i, a.testBit i = true ∧ b.testBit i = true := by
  constructor
  · intro h
    obtain ⟨i, hi⟩ := Nat.exists_testBit_of_ne_zero h
    rw [Nat.testBit_and, Bool.and_eq_true] at hi
    exact ⟨i, hi⟩
  · rintro ⟨i, h1, h2⟩ e
    have : (a &&& b).testBit i = true := by rw [Nat.testBit_and, h1, h2]; rfl
    rw [e, Nat.zero_testBit] at this
    cases this
def lst (m : Nat) : Nat := (fnd m.testBit 10).getD 0
theorem l_X2_clear {d : Nat} {N : Mem} {K : Mej} {x : Int32} : ∀ k i : Nat, i + k = 10 → EK d mX2_clear (PX none (fillM N 8 10 (nI 0)) K) 7 [(0, .ref 7), (1, .int x), (2, .int (nI i))] [] (fillM N 8 i (nI 0)) K
  | 0, i, h => by
    obtain rfl : i = 10 := by omega
    refine K_iload_n dX2_clear_7 rfl rfl ?_
    refine K_bipush (v := nI 10) dX2_clear_8 (by decide) rfl ?_
    refine K_icmp_geN (tgt := 26) dX2_clear_10 (by decide) rfl (by first | omega | fail) (by first | omega | fail) (fun c10 => ?_) (fun c10 => ?_)
    · refine K_ret dX2_clear_26 rfl ?_
      exact ⟨rfl, rfl, rfl⟩
    · omega
  | k + 1, i, h => by
    have ih := l_X2_clear (d := d) (N := N) (K := K) (x := x) k (i + 1) (by omega)
    refine K_iload_n dX2_clear_7 rfl rfl ?_
    refine K_bipush (v := nI 10) dX2_clear_8 (by decide) rfl ?_
    refine K_icmp_geN (tgt := 26) dX2_clear_10 (by decide) rfl (by first | omega | fail) (by first | omega | fail) (fun c10 => ?_) (fun c10 => ?_)
    · omega
    · refine K_aload_n dX2_clear_13 rfl rfl ?_
      refine K_getR (r := 8) dX2_clear_14 fl_X2_9 rfl rfl rfl rfl ?_
      refine K_iload_n dX2_clear_17 rfl rfl ?_
      refine K_iconst (v := nI 0) dX2_clear_18 (by decide) rfl ?_
      refine K_iast dX2_clear_19 (by first | rfl | exact sk_rk (by omega) | exact sk_hh (by omega)) (by first | omega | fail) (by decide) rfl ?_
      first | refine K_incN (lv' := [(0, _), (1, _), (2, _)]) dX2_clear_20 rfl (by decide) rfl rfl ?_ | refine K_iinc (lv' := [(0, _), (1, _), (2, _)]) dX2_clear_20 rfl rfl (by decide) rfl rfl ?_
      refine K_goto (tgt := 7) dX2_clear_23 (by decide) ?_
      rw [fillM_s]
      exact ih
set_option maxRecDepth 100000 in
theorem c_X2_clear {d : Nat} {N : Mem} {K : Mej} {x : Int32} : CK d mX2_clear [.ref 7, .int x] N K (PX none (fillM (sM N 7 3 x) 8 10 (nI 0)) K) := by
  refine CK.start [(0, _), (1, _)] (plainFor_of_name (by decide)) (Nat.le_of_ble_eq_true rfl) rfl ?_
  refine K_aload_n dX2_clear_0 rfl rfl ?_
  refine K_iload_n dX2_clear_1 rfl rfl ?_
  refine K_putI dX2_clear_2 fl_X2_21 (by first | rfl | exact sk_rk (by omega) | exact sk_hh (by omega)) rfl rfl rfl rfl ?_
  refine K_iconst (v := nI 0) dX2_clear_5 (by decide) rfl ?_
  refine K_istore_n (lv' := [(0, _), (1, _), (2, _)]) dX2_clear_6 (by decide) rfl rfl ?_
  have h := l_X2_clear (d := d) (N := sM N 7 3 x) (K := K) (x := x) 10 0 rfl
  rw [fillM_0] at h
  exact h
set_option maxRecDepth 100000 in
theorem c_X2_add {d : Nat} {N : Mem} {K : Mej} {f g m : Nat} (hf : f < 10) (hg : g < 10) (h : N 8 f = nI m) : CK d mX2_add [.ref 7, .int (nI f), .int (nI g)] N K (PX none (sM N 8 f (nI (m ||| 2 ^ g))) K) := by
  refine CK.start [(0, _), (1, _), (2, _)] (plainFor_of_name (by decide)) (Nat.le_of_ble_eq_true rfl) rfl ?_
  refine K_aload_n dX2_add_0 rfl rfl ?_
  refine K_getR (r := 8) dX2_add_1 fl_X2_9 rfl rfl rfl rfl ?_
  refine K_iload_n dX2_add_4 rfl rfl ?_
  refine K_dup2 dX2_add_5 rfl rfl rfl ?_
  refine K_iald dX2_add_6 (by first | rfl | exact sk_rk (by omega) | exact sk_hh (by omega)) (by first | omega | fail) (by decide) (by first | assumption | rfl) rfl ?_
  refine K_iconst (v := nI 1) dX2_add_7 (by decide) rfl ?_
  refine K_iload_n dX2_add_8 rfl rfl ?_
  first | refine K_shl1 dX2_add_9 (by first | omega | fail) rfl ?_ | refine K_shlN dX2_add_9 (by first | omega | fail) (by first | omega | fail) rfl ?_ | refine K_ishl dX2_add_9 rfl ?_
  refine K_orN dX2_add_10 rfl ?_
  refine K_iast dX2_add_11 (by first | rfl | exact sk_rk (by omega) | exact sk_hh (by omega)) (by first | omega | fail) (by decide) rfl ?_
  refine K_ret dX2_add_12 rfl ?_
  exact ⟨rfl, rfl, rfl⟩
theorem l_X2_leastOf {d : Nat} {N : Mem} {K : Mej} {m : Nat} (hm : m < 2 ^ 31) : ∀ k i : Nat, i + k = 10 → (∀ j, j < i → m.testBit j = false) → EK d mX2_leastOf (PX (some (.int (nI (lst m)))) N K) 2 [(0, .int (nI m)), (1, .int (nI i))] [] N K
  | 0, i, h, hp => by
    obtain rfl : i = 10 := by omega
    refine K_iload_n dX2_leastOf_2 rfl rfl ?_
    refine K_bipush (v := nI 10) dX2_leastOf_3 (by decide) rfl ?_
    refine K_icmp_geN (tgt := 25) dX2_leastOf_5 (by decide) rfl (by first | omega | fail) (by first | omega | fail) (fun c5 => ?_) (fun c5 => ?_)
    · refine K_iconst (v := nI 0) dX2_leastOf_25 (by decide) rfl ?_
      refine K_iret dX2_leastOf_26 rfl ?_
      rw [lst, fnd_none hp]
      exact ⟨rfl, rfl, rfl⟩
    · omega
  | k + 1, i, h, hp => by
    refine K_iload_n dX2_leastOf_2 rfl rfl ?_
    refine K_bipush (v := nI 10) dX2_leastOf_3 (by decide) rfl ?_
    refine K_icmp_geN (tgt := 25) dX2_leastOf_5 (by decide) rfl (by first | omega | fail) (by first | omega | fail) (fun c5 => ?_) (fun c5 => ?_)
    · omega
    · refine K_iload_n dX2_leastOf_8 rfl rfl ?_
      refine K_iload_n dX2_leastOf_9 rfl rfl ?_
      first | refine K_shrN dX2_leastOf_10 (by first | omega | fail) (by first | omega | fail) rfl ?_ | refine K_ishr dX2_leastOf_10 rfl ?_
      refine K_iconst (v := nI 1) dX2_leastOf_11 (by decide) rfl ?_
      first | refine K_bitN dX2_leastOf_12 rfl ?_ | refine K_andN dX2_leastOf_12 rfl ?_ | refine K_iand dX2_leastOf_12 rfl ?_
      refine K_iconst (v := nI 1) dX2_leastOf_13 (by decide) rfl ?_
      refine K_icmp_neB1 (tgt := 19) dX2_leastOf_14 (by decide) rfl (fun c14 => ?_) (fun c14 => ?_)
      · first | refine K_incN (lv' := [(0, _), (1, _)]) dX2_leastOf_19 rfl (by decide) rfl rfl ?_ | refine K_iinc (lv' := [(0, _), (1, _)]) dX2_leastOf_19 rfl rfl (by decide) rfl rfl ?_
        refine K_goto (tgt := 2) dX2_leastOf_22 (by decide) ?_
        refine l_X2_leastOf hm k (i + 1) (by omega) (fun j hj => ?_)
        rcases Nat.lt_succ_iff_lt_or_eq.mp hj with hj | rfl
        · exact hp j hj
        · simpa using c14
      · refine K_iload_n dX2_leastOf_17 rfl rfl ?_
        refine K_iret dX2_leastOf_18 rfl ?_
        rw [lst, fnd_first (by simpa using c14) hp (by omega)]
        exact ⟨rfl, rfl, rfl⟩
set_option maxRecDepth 100000 in
theorem c_X2_leastOf {d : Nat} {N : Mem} {K : Mej} {m : Nat} (hm : m < 2 ^ 31) : CK d mX2_leastOf [.int (nI m)] N K (PX (some (.int (nI (lst m)))) N K) := by
  refine CK.start [(0, _)] (plainFor_of_name (by decide)) (Nat.le_of_ble_eq_true rfl) rfl ?_
  refine K_iconst (v := nI 0) dX2_leastOf_0 (by decide) rfl ?_
  refine K_istore_n (lv' := [(0, _), (1, _)]) dX2_leastOf_1 (by decide) rfl rfl ?_
  exact l_X2_leastOf hm 10 0 rfl (fun j hj => absurd hj (Nat.not_lt_zero j))
/-- those from which k steps lead to s, along greater ones -/
def bfm (h : Nat → Nat) (n s : Nat) : Nat → Nat
  | 0 => 2 ^ s
  | k + 1 => bs (fun f => decide (s < f) && decide (h f &&& bfm h n s k ≠ 0)) n
theorem bfm_lt {h : Nat → Nat} {n s : Nat} (hn : n ≤ 10) (hs : s < n) : ∀ k, bfm h n s k < 1024
  | 0 => show 2 ^ s < 2 ^ 10 from Nat.pow_lt_pow_right (by omega) (by omega)
  | k + 1 => bs_10 hn
def lnF (h : Nat → Nat) (n s : Nat) : Nat := match fnd (fun L => decide (h s &&& bfm h n s L ≠ 0)) n with
  | some L => L + 1
  | none => 0
theorem lnF_le (h : Nat → Nat) (n s : Nat) : lnF h n s ≤ n := by
  unfold lnF
  split
  · next e => have := (fnd_lt e).1; omega
  · omega
def PLn (h : Nat → Nat) (n s : Nat) (N : Mem) (K : Mej) : PK := fun r N1 K1 => r = some (.int (nI (lnF h n s))) ∧ (∀ i, i ≠ 9 → N1 i = N i) ∧ (∀ j, j < lnF h n s → N1 9 j = nI (bfm h n s j)) ∧ K1 = K
theorem li_X2_lengthFrom {d : Nat} {h : Nat → Nat} {n s L : Nat} {N : Mem} {K : Mej} (hn : n ≤ 10) (hs : s < n) (hL : L < n) (h7 : N 7 3 = nI n) (h8 : ∀ f, f < 10 → N 8 f = nI (h f)) (hb : ∀ f, f < 10 → h f < 1024)
    (next : ∀ N1, (∀ i, i ≠ 9 → N1 i = N i) → (∀ j, j ≤ L + 1 → N1 9 j = nI (bfm h n s j)) → EK d mX2_lengthFrom (PLn h n s N K) 11 [(0, .ref 7), (1, .int (nI s)), (2, .int (nI (L + 2)))] [] N1 K) :
    ∀ (k f : Nat) (N1 : Mem), f + k = n → s < f → (∀ i, i ≠ 9 → N1 i = N i) → (∀ j, j ≤ L → N1 9 j = nI (bfm h n s j)) → N1 9 (L + 1) = nI (bs (fun f => decide (s < f) && decide (h f &&& bfm h n s L ≠ 0)) f) →
    EK d mX2_lengthFrom (PLn h n s N K) 50 [(0, .ref 7), (1, .int (nI s)), (2, .int (nI (L + 1))), (3, .int (nI f))] [] N1 K
  | 0, f, N1, e, hf, hF, hB, hC => by
    obtain rfl : f = n := by omega
    have h7' : N1 7 3 = nI f := by rw [hF 7 (by decide)]; exact h7
    refine K_iload_n dX2_lengthFrom_50 rfl rfl ?_
    refine K_aload_n dX2_lengthFrom_51 rfl rfl ?_
    refine K_getI dX2_lengthFrom_52 fl_X2_21 (by first | rfl | exact sk_rk (by omega) | exact sk_hh (by omega)) rfl (by first | assumption | rfl) rfl ?_
    refine K_icmp_geN (tgt := 94) dX2_lengthFrom_55 (by decide) rfl (by first | omega | fail) (by first | omega | fail) (fun c55 => ?_) (fun c55 => ?_)
    · first | refine K_incN (lv' := [(0, _), (1, _), (2, _), (3, _)]) dX2_lengthFrom_94 rfl (by decide) rfl rfl ?_ | refine K_iinc (lv' := [(0, _), (1, _), (2, _), (3, _)]) dX2_lengthFrom_94 rfl rfl (by decide) rfl rfl ?_
      refine K_goto (tgt := 11) dX2_lengthFrom_97 (by decide) ?_
      refine K_pick [0, 1, 2] rfl ?_
      exact next N1 hF (fun j hj => by
        rcases Nat.lt_or_ge j (L + 1) with hj2 | hj2
        · exact hB j (by omega)
        · obtain rfl : j = L + 1 := by omega
          exact hC)
    · omega
  | k + 1, f, N1, e, hf, hF, hB, hC => by
    have h7' : N1 7 3 = nI n := by rw [hF 7 (by decide)]; exact h7
    have h8' : N1 8 f = nI (h f) := by rw [hF 8 (by decide)]; exact h8 f (by omega)
    have h9' : N1 9 L = nI (bfm h n s L) := hB L (by omega)
    have l1 := hb f (by omega)
    have l2 : h f &&& bfm h n s L < 1024 := Nat.lt_of_le_of_lt Nat.and_le_left l1
    refine K_iload_n dX2_lengthFrom_50 rfl rfl ?_
    refine K_aload_n dX2_lengthFrom_51 rfl rfl ?_
    refine K_getI dX2_lengthFrom_52 fl_X2_21 (by first | rfl | exact sk_rk (by omega) | exact sk_hh (by omega)) rfl (by first | assumption | rfl) rfl ?_
    refine K_icmp_geN (tgt := 94) dX2_lengthFrom_55 (by decide) rfl (by first | omega | fail) (by first | omega | fail) (fun c55 => ?_) (fun c55 => ?_)
    · omega
    · refine K_aload_n dX2_lengthFrom_58 rfl rfl ?_
      refine K_getR (r := 8) dX2_lengthFrom_59 fl_X2_9 rfl rfl rfl rfl ?_
      refine K_iload_n dX2_lengthFrom_62 rfl rfl ?_
      refine K_iald dX2_lengthFrom_63 (by first | rfl | exact sk_rk (by omega) | exact sk_hh (by omega)) (by first | omega | fail) (by decide) (by first | assumption | rfl) rfl ?_
      refine K_aload_n dX2_lengthFrom_64 rfl rfl ?_
      refine K_getR (r := 9) dX2_lengthFrom_65 fl_X2_15 rfl rfl rfl rfl ?_
      refine K_iload_n dX2_lengthFrom_68 rfl rfl ?_
      refine K_iconst (v := nI 1) dX2_lengthFrom_69 (by decide) rfl ?_
      first | refine K_subN dX2_lengthFrom_70 (by first | omega | fail) rfl ?_ | refine K_isub dX2_lengthFrom_70 rfl ?_
      refine K_iald dX2_lengthFrom_71 (by first | rfl | exact sk_rk (by omega) | exact sk_hh (by omega)) (by first | omega | fail) (by decide) (by first | assumption | rfl) rfl ?_
      first | refine K_bitN dX2_lengthFrom_72 rfl ?_ | refine K_andN dX2_lengthFrom_72 rfl ?_ | refine K_iand dX2_lengthFrom_72 rfl ?_
      refine K_if_eqN (tgt := 88) dX2_lengthFrom_73 (by decide) rfl (by first | omega | fail) (fun c73 => ?_) (fun c73 => ?_)
      · first | refine K_incN (lv' := [(0, _), (1, _), (2, _), (3, _)]) dX2_lengthFrom_88 rfl (by decide) rfl rfl ?_ | refine K_iinc (lv' := [(0, _), (1, _), (2, _), (3, _)]) dX2_lengthFrom_88 rfl rfl (by decide) rfl rfl ?_
        refine K_goto (tgt := 50) dX2_lengthFrom_91 (by decide) ?_
        first | (refine li_X2_lengthFrom hn hs hL h7 h8 hb next k (f + 1) N1 (by omega) (by omega) hF hB ?_; rw [bs_f (by simp [c73])]; exact hC) | (refine li_X2_lengthFrom hn hs hL h7 h8 hb next k (f + 1) _ (by omega) (by omega) (fun i hi => (sM_row hi).trans (hF i hi)) (fun j hj => (sM_ne (Or.inr (by omega))).trans (hB j hj)) ?_; rw [bs_t (by simp [c73, hf])]; exact sM_eq _ _ _ _)
      · refine K_aload_n dX2_lengthFrom_76 rfl rfl ?_
        refine K_getR (r := 9) dX2_lengthFrom_77 fl_X2_15 rfl rfl rfl rfl ?_
        refine K_iload_n dX2_lengthFrom_80 rfl rfl ?_
        refine K_dup2 dX2_lengthFrom_81 rfl rfl rfl ?_
        refine K_iald dX2_lengthFrom_82 (by first | rfl | exact sk_rk (by omega) | exact sk_hh (by omega)) (by first | omega | fail) (by decide) (by first | assumption | rfl) rfl ?_
        refine K_iconst (v := nI 1) dX2_lengthFrom_83 (by decide) rfl ?_
        refine K_iload_n dX2_lengthFrom_84 rfl rfl ?_
        first | refine K_shl1 dX2_lengthFrom_85 (by first | omega | fail) rfl ?_ | refine K_shlN dX2_lengthFrom_85 (by first | omega | fail) (by first | omega | fail) rfl ?_ | refine K_ishl dX2_lengthFrom_85 rfl ?_
        refine K_orN dX2_lengthFrom_86 rfl ?_
        refine K_iast dX2_lengthFrom_87 (by first | rfl | exact sk_rk (by omega) | exact sk_hh (by omega)) (by first | omega | fail) (by decide) rfl ?_
        first | refine K_incN (lv' := [(0, _), (1, _), (2, _), (3, _)]) dX2_lengthFrom_88 rfl (by decide) rfl rfl ?_ | refine K_iinc (lv' := [(0, _), (1, _), (2, _), (3, _)]) dX2_lengthFrom_88 rfl rfl (by decide) rfl rfl ?_
        refine K_goto (tgt := 50) dX2_lengthFrom_91 (by decide) ?_
        first | (refine li_X2_lengthFrom hn hs hL h7 h8 hb next k (f + 1) N1 (by omega) (by omega) hF hB ?_; rw [bs_f (by simp [c73])]; exact hC) | (refine li_X2_lengthFrom hn hs hL h7 h8 hb next k (f + 1) _ (by omega) (by omega) (fun i hi => (sM_row hi).trans (hF i hi)) (fun j hj => (sM_ne (Or.inr (by omega))).trans (hB j hj)) ?_; rw [bs_t (by simp [c73, hf])]; exact sM_eq _ _ _ _)
theorem lo_X2_lengthFrom {d : Nat} {h : Nat → Nat} {n s : Nat} {N : Mem} {K : Mej} (hn : n ≤ 10) (hs : s < n) (h7 : N 7 3 = nI n) (h8 : ∀ f, f < 10 → N 8 f = nI (h f)) (hb : ∀ f, f < 10 → h f < 1024) :
    ∀ (k L : Nat) (N1 : Mem), L + k = n → (∀ j, j < L → h s &&& bfm h n s j = 0) → (∀ i, i ≠ 9 → N1 i = N i) → (∀ j, j ≤ L → N1 9 j = nI (bfm h n s j)) →
    EK d mX2_lengthFrom (PLn h n s N K) 11 [(0, .ref 7), (1, .int (nI s)), (2, .int (nI (L + 1)))] [] N1 K
  | 0, L, N1, e, h0, hF, hB => by
    obtain rfl : L = n := by omega
    have h7' : N1 7 3 = nI L := by rw [hF 7 (by decide)]; exact h7
    have z : lnF h L s = 0 := by unfold lnF; rw [fnd_none (fun j hj => by simp [h0 j hj])]
    refine K_iload_n dX2_lengthFrom_11 rfl rfl ?_
    refine K_aload_n dX2_lengthFrom_12 rfl rfl ?_
    refine K_getI dX2_lengthFrom_13 fl_X2_21 (by first | rfl | exact sk_rk (by omega) | exact sk_hh (by omega)) rfl (by first | assumption | rfl) rfl ?_
    refine K_icmp_gtN (tgt := 100) dX2_lengthFrom_16 (by decide) rfl (by first | omega | fail) (by first | omega | fail) (fun c16 => ?_) (fun c16 => ?_)
    · refine K_iconst (v := nI 0) dX2_lengthFrom_100 (by decide) rfl ?_
      refine K_iret dX2_lengthFrom_101 rfl ?_
      refine ⟨by rw [z], hF, fun j hj => absurd hj (by rw [z]; omega), rfl⟩
    · omega
  | k + 1, L, N1, e, h0, hF, hB => by
    have h7' : N1 7 3 = nI n := by rw [hF 7 (by decide)]; exact h7
    have h8' : N1 8 s = nI (h s) := by rw [hF 8 (by decide)]; exact h8 s (by omega)
    have h9' : N1 9 L = nI (bfm h n s L) := hB L (by omega)
    have l1 := hb s (by omega)
    have l2 : h s &&& bfm h n s L < 1024 := Nat.lt_of_le_of_lt Nat.and_le_left l1
    refine K_iload_n dX2_lengthFrom_11 rfl rfl ?_
    refine K_aload_n dX2_lengthFrom_12 rfl rfl ?_
    refine K_getI dX2_lengthFrom_13 fl_X2_21 (by first | rfl | exact sk_rk (by omega) | exact sk_hh (by omega)) rfl (by first | assumption | rfl) rfl ?_
    refine K_icmp_gtN (tgt := 100) dX2_lengthFrom_16 (by decide) rfl (by first | omega | fail) (by first | omega | fail) (fun c16 => ?_) (fun c16 => ?_)
    · omega
    · refine K_aload_n dX2_lengthFrom_19 rfl rfl ?_
      refine K_getR (r := 8) dX2_lengthFrom_20 fl_X2_9 rfl rfl rfl rfl ?_
      refine K_iload_n dX2_lengthFrom_23 rfl rfl ?_
      refine K_iald dX2_lengthFrom_24 (by first | rfl | exact sk_rk (by omega) | exact sk_hh (by omega)) (by first | omega | fail) (by decide) (by first | assumption | rfl) rfl ?_
      refine K_aload_n dX2_lengthFrom_25 rfl rfl ?_
      refine K_getR (r := 9) dX2_lengthFrom_26 fl_X2_15 rfl rfl rfl rfl ?_
      refine K_iload_n dX2_lengthFrom_29 rfl rfl ?_
      refine K_iconst (v := nI 1) dX2_lengthFrom_30 (by decide) rfl ?_
      first | refine K_subN dX2_lengthFrom_31 (by first | omega | fail) rfl ?_ | refine K_isub dX2_lengthFrom_31 rfl ?_
      refine K_iald dX2_lengthFrom_32 (by first | rfl | exact sk_rk (by omega) | exact sk_hh (by omega)) (by first | omega | fail) (by decide) (by first | assumption | rfl) rfl ?_
      first | refine K_bitN dX2_lengthFrom_33 rfl ?_ | refine K_andN dX2_lengthFrom_33 rfl ?_ | refine K_iand dX2_lengthFrom_33 rfl ?_
      refine K_if_eqN (tgt := 39) dX2_lengthFrom_34 (by decide) rfl (by first | omega | fail) (fun c34 => ?_) (fun c34 => ?_)
      · refine K_aload_n dX2_lengthFrom_39 rfl rfl ?_
        refine K_getR (r := 9) dX2_lengthFrom_40 fl_X2_15 rfl rfl rfl rfl ?_
        refine K_iload_n dX2_lengthFrom_43 rfl rfl ?_
        refine K_iconst (v := nI 0) dX2_lengthFrom_44 (by decide) rfl ?_
        refine K_iast dX2_lengthFrom_45 (by first | rfl | exact sk_rk (by omega) | exact sk_hh (by omega)) (by first | omega | fail) (by decide) rfl ?_
        refine K_iload_n dX2_lengthFrom_46 rfl rfl ?_
        refine K_iconst (v := nI 1) dX2_lengthFrom_47 (by decide) rfl ?_
        refine K_addN dX2_lengthFrom_48 rfl ?_
        refine K_istore_n (lv' := [(0, _), (1, _), (2, _), (3, _)]) dX2_lengthFrom_49 (by decide) rfl rfl ?_
        refine li_X2_lengthFrom hn hs (by omega) h7 h8 hb (fun N2 a b => lo_X2_lengthFrom hn hs h7 h8 hb k (L + 1) N2 (by omega) (fun j hj => ?_) a b) (n - (s + 1)) (s + 1) _ (by omega) (by omega) (fun i hi => (sM_row hi).trans (hF i hi)) (fun j hj => (sM_ne (Or.inr (by omega))).trans (hB j hj)) ?_
        · rcases Nat.lt_succ_iff_lt_or_eq.mp hj with hj | rfl
          · exact h0 j hj
          · exact c34
        · rw [show bs (fun f => decide (s < f) && decide (h f &&& bfm h n s L ≠ 0)) (s + 1) = 0 from Nat.eq_of_testBit_eq (fun i => by rw [bs_bit, Nat.zero_testBit]; by_cases q : i < s + 1 <;> simp [q]; omega)]
          exact sM_eq _ _ _ _
      · refine K_iload_n dX2_lengthFrom_37 rfl rfl ?_
        refine K_iret dX2_lengthFrom_38 rfl ?_
        have z : lnF h n s = L + 1 := by unfold lnF; rw [fnd_first (i := L) (by simp [c34]) (fun j hj => by simp [h0 j hj]) (by omega)]
        exact ⟨by rw [z], hF, fun j hj => hB j (by omega), rfl⟩
set_option maxRecDepth 100000 in
theorem c_X2_lengthFrom {d : Nat} {h : Nat → Nat} {n s : Nat} {N : Mem} {K : Mej} (hn : n ≤ 10) (hs : s < n) (h7 : N 7 3 = nI n) (h8 : ∀ f, f < 10 → N 8 f = nI (h f)) (hb : ∀ f, f < 10 → h f < 1024) : CK d mX2_lengthFrom [.ref 7, .int (nI s)] N K (PLn h n s N K) := by
  refine CK.start [(0, _), (1, _)] (plainFor_of_name (by decide)) (Nat.le_of_ble_eq_true rfl) rfl ?_
  refine K_aload_n dX2_lengthFrom_0 rfl rfl ?_
  refine K_getR (r := 9) dX2_lengthFrom_1 fl_X2_15 rfl rfl rfl rfl ?_
  refine K_iconst (v := nI 0) dX2_lengthFrom_4 (by decide) rfl ?_
  refine K_iconst (v := nI 1) dX2_lengthFrom_5 (by decide) rfl ?_
  refine K_iload_n dX2_lengthFrom_6 rfl rfl ?_
  first | refine K_shl1 dX2_lengthFrom_7 (by first | omega | fail) rfl ?_ | refine K_shlN dX2_lengthFrom_7 (by first | omega | fail) (by first | omega | fail) rfl ?_ | refine K_ishl dX2_lengthFrom_7 rfl ?_
  refine K_iast dX2_lengthFrom_8 (by first | rfl | exact sk_rk (by omega) | exact sk_hh (by omega)) (by first | omega | fail) (by decide) rfl ?_
  refine K_iconst (v := nI 1) dX2_lengthFrom_9 (by decide) rfl ?_
  refine K_istore_n (lv' := [(0, _), (1, _), (2, _)]) dX2_lengthFrom_10 (by decide) rfl rfl ?_
  exact lo_X2_lengthFrom hn hs h7 h8 hb n 0 _ (by omega) (fun j hj => absurd hj (Nat.not_lt_zero j)) (fun i hi => sM_row hi) (fun j hj => by
    obtain rfl : j = 0 := by omega
    exact sM_eq _ _ _ _)
