def cnt (p : Nat → Bool) : Nat → Nat
  | 0 => 0
  | n + 1 => cnt p n + (if p n = true then 1 else 0)
theorem cnt_le (p : Nat → Bool) : ∀ n, cnt p n ≤ n
  | 0 => Nat.le_refl 0
  | n + 1 => by
    have := cnt_le p n
    unfold cnt
    split <;> omega
theorem cnt_t {p : Nat → Bool} {i : Nat} (h : p i = true) : cnt p (i + 1) = cnt p i + 1 := by simp [cnt, h]
theorem cnt_f {p : Nat → Bool} {i : Nat} (h : p i = false) : cnt p (i + 1) = cnt p i := by simp [cnt, h]
/-- the least number below n with p -/
def fnd (p : Nat → Bool) : Nat → Option Nat
  | 0 => none
  | n + 1 => match fnd p n with
    | some i => some i
    | none => if p n = true then some n else none
theorem fnd_lt {p : Nat → Bool} : ∀ {n i : Nat}, fnd p n = some i → i < n ∧ p i = true
  | 0, i, h => by cases h
  | n + 1, i, h => by
    unfold fnd at h
    split at h
    · next j e =>
      cases h
      have := fnd_lt e
      exact ⟨by omega, this.2⟩
    · split at h
      · next e =>
        cases h
        exact ⟨by omega, e⟩
      · cases h
theorem fnd_no {p : Nat → Bool} : ∀ {n : Nat}, fnd p n = none → ∀ i, i < n → p i = false
  | 0, _, i, hi => absurd hi (Nat.not_lt_zero i)
  | n + 1, h, i, hi => by
    unfold fnd at h
    split at h
    · cases h
    · next e =>
      split at h
      · cases h
      · next e2 =>
        rcases Nat.lt_succ_iff_lt_or_eq.mp hi with hi | rfl
        · exact fnd_no e i hi
        · simpa using e2
theorem fnd_none {p : Nat → Bool} : ∀ {n : Nat}, (∀ i, i < n → p i = false) → fnd p n = none
  | 0, _ => rfl
  | n + 1, h => by
    unfold fnd
    rw [fnd_none (fun i hi => h i (by omega))]
    simp [h n (by omega)]
theorem fnd_first {p : Nat → Bool} {i : Nat} (hp : p i = true) (h0 : ∀ j, j < i → p j = false) : ∀ {n : Nat}, i < n → fnd p n = some i
  | 0, h => absurd h (Nat.not_lt_zero i)
  | n + 1, h => by
    unfold fnd
    rcases Nat.lt_succ_iff_lt_or_eq.mp h with h | rfl
    · rw [fnd_first hp h0 h]
    · rw [fnd_none h0]
      simp [hp]
theorem oB_fnd {p : Nat → Bool} {n : Nat} (hn : n ≤ 10) : oB (fnd p n) := fun g hg => by
  have := (fnd_lt hg).1
  omega
def s_go (S : GS) (f : Nat) : Bool := (s_pl S f).isSome
theorem go_t {S : GS} {f : Nat} (h : s_pl S f ≠ none) : s_go S f = true := by
  unfold s_go
  cases e : s_pl S f with
  | none => exact absurd e h
  | some g => rfl
theorem go_f {S : GS} {f : Nat} (h : s_pl S f = none) : s_go S f = false := by
  unfold s_go
  rw [h]
  rfl
theorem l_X3_countGoing {d : Nat} {S : GS} {N : Mem} {K : Mej} (R : RX S N K) (w : WF S) : ∀ k i : Nat, i + k = s_n S → EK d mX3_countGoing (PX (some (.int (nI (cnt (s_go S) (s_n S))))) N K) 4 [(0, .ref 0), (1, .int (nI (cnt (s_go S) i))), (2, .int (nI i))] [] N K
  | 0, i, h => by
    obtain rfl : i = s_n S := by omega
    have hn := w.1.1
    have h0 := R.1.1
    refine K_iload_n dX3_countGoing_4 rfl rfl ?_
    refine K_aload_n dX3_countGoing_5 rfl rfl ?_
    refine K_getI dX3_countGoing_6 fl_X3_42 (by first | rfl | exact sk_rk (by omega) | exact sk_hh (by omega)) rfl (by first | assumption | rfl) rfl ?_
    refine K_icmp_geN (tgt := 31) dX3_countGoing_9 (by decide) rfl (by first | omega | fail) (by first | omega | fail) (fun c9 => ?_) (fun c9 => ?_)
    · refine K_iload_n dX3_countGoing_31 rfl rfl ?_
      refine K_iret dX3_countGoing_32 rfl ?_
      exact ⟨rfl, rfl, rfl⟩
    · omega
  | k + 1, i, h => by
    have ih := l_X3_countGoing (d := d) R w k (i + 1) (by omega)
    have hn := w.1.1
    have h0 := R.1.1
    have hp := R.2.2.2.1 i (by omega)
    have hob := w.plb (f := i) (by omega)
    refine K_iload_n dX3_countGoing_4 rfl rfl ?_
    refine K_aload_n dX3_countGoing_5 rfl rfl ?_
    refine K_getI dX3_countGoing_6 fl_X3_42 (by first | rfl | exact sk_rk (by omega) | exact sk_hh (by omega)) rfl (by first | assumption | rfl) rfl ?_
    refine K_icmp_geN (tgt := 31) dX3_countGoing_9 (by decide) rfl (by first | omega | fail) (by first | omega | fail) (fun c9 => ?_) (fun c9 => ?_)
    · omega
    · refine K_aload_n dX3_countGoing_12 rfl rfl ?_
      refine K_getR (r := 2) dX3_countGoing_13 fl_X3_15 rfl rfl rfl rfl ?_
      refine K_iload_n dX3_countGoing_16 rfl rfl ?_
      refine K_iald dX3_countGoing_17 (by first | rfl | exact sk_rk (by omega) | exact sk_hh (by omega)) (by first | omega | fail) (by decide) (by first | assumption | rfl) rfl ?_
      refine K_iconst (v := (-1)) dX3_countGoing_18 (by decide) rfl ?_
      refine K_icmp_eqO (tgt := 25) dX3_countGoing_19 (by decide) rfl (by first | assumption | fail) (fun c19 => ?_) (fun c19 => ?_)
      · first | refine K_incN (lv' := [(0, _), (1, _), (2, _)]) dX3_countGoing_25 rfl (by decide) rfl rfl ?_ | refine K_iinc (lv' := [(0, _), (1, _), (2, _)]) dX3_countGoing_25 rfl rfl (by decide) rfl rfl ?_
        refine K_goto (tgt := 4) dX3_countGoing_28 (by decide) ?_
        first | (rw [cnt_f (go_f c19)] at ih; exact ih) | (rw [cnt_t (go_t c19)] at ih; exact ih)
      · first | refine K_incN (lv' := [(0, _), (1, _), (2, _)]) dX3_countGoing_22 rfl (by decide) rfl rfl ?_ | refine K_iinc (lv' := [(0, _), (1, _), (2, _)]) dX3_countGoing_22 rfl rfl (by decide) rfl rfl ?_
        first | refine K_incN (lv' := [(0, _), (1, _), (2, _)]) dX3_countGoing_25 rfl (by decide) rfl rfl ?_ | refine K_iinc (lv' := [(0, _), (1, _), (2, _)]) dX3_countGoing_25 rfl rfl (by decide) rfl rfl ?_
        refine K_goto (tgt := 4) dX3_countGoing_28 (by decide) ?_
        first | (rw [cnt_f (go_f c19)] at ih; exact ih) | (rw [cnt_t (go_t c19)] at ih; exact ih)
set_option maxRecDepth 100000 in
theorem c_X3_countGoing {d : Nat} {S : GS} {N : Mem} {K : Mej} (R : RX S N K) (w : WF S) : CK d mX3_countGoing [.ref 0] N K (PX (some (.int (nI (cnt (s_go S) (s_n S))))) N K) := by
  refine CK.start [(0, _)] (plainFor_of_name (by decide)) (Nat.le_of_ble_eq_true rfl) rfl ?_
  refine K_iconst (v := nI 0) dX3_countGoing_0 (by decide) rfl ?_
  refine K_istore_n (lv' := [(0, _), (1, _)]) dX3_countGoing_1 (by decide) rfl rfl ?_
  refine K_iconst (v := nI 0) dX3_countGoing_2 (by decide) rfl ?_
  refine K_istore_n (lv' := [(0, _), (1, _), (2, _)]) dX3_countGoing_3 (by decide) rfl rfl ?_
  exact l_X3_countGoing R w (s_n S) 0 (by omega)
theorem l_X3_countPresent {d : Nat} {S : GS} {N : Mem} {K : Mej} (R : RX S N K) (w : WF S) : ∀ k i : Nat, i + k = s_n S → EK d mX3_countPresent (PX (some (.int (nI (cnt (s_pr S) (s_n S))))) N K) 4 [(0, .ref 0), (1, .int (nI (cnt (s_pr S) i))), (2, .int (nI i))] [] N K
  | 0, i, h => by
    obtain rfl : i = s_n S := by omega
    have hn := w.1.1
    have h0 := R.1.1
    refine K_iload_n dX3_countPresent_4 rfl rfl ?_
    refine K_aload_n dX3_countPresent_5 rfl rfl ?_
    refine K_getI dX3_countPresent_6 fl_X3_42 (by first | rfl | exact sk_rk (by omega) | exact sk_hh (by omega)) rfl (by first | assumption | rfl) rfl ?_
    refine K_icmp_geN (tgt := 33) dX3_countPresent_9 (by decide) rfl (by first | omega | fail) (by first | omega | fail) (fun c9 => ?_) (fun c9 => ?_)
    · refine K_iload_n dX3_countPresent_33 rfl rfl ?_
      refine K_iret dX3_countPresent_34 rfl ?_
      exact ⟨rfl, rfl, rfl⟩
    · omega
  | k + 1, i, h => by
    have ih := l_X3_countPresent (d := d) R w k (i + 1) (by omega)
    have hn := w.1.1
    have h0 := R.1.1
    have hp := (R.2.1 i (by omega)).2.2.2.2.2.1
    refine K_iload_n dX3_countPresent_4 rfl rfl ?_
    refine K_aload_n dX3_countPresent_5 rfl rfl ?_
    refine K_getI dX3_countPresent_6 fl_X3_42 (by first | rfl | exact sk_rk (by omega) | exact sk_hh (by omega)) rfl (by first | assumption | rfl) rfl ?_
    refine K_icmp_geN (tgt := 33) dX3_countPresent_9 (by decide) rfl (by first | omega | fail) (by first | omega | fail) (fun c9 => ?_) (fun c9 => ?_)
    · omega
    · refine K_aload_n dX3_countPresent_12 rfl rfl ?_
      refine K_getR (r := 1) dX3_countPresent_13 fl_X3_11 rfl rfl rfl rfl ?_
      refine K_iload_n dX3_countPresent_16 rfl rfl ?_
      refine K_hh dX3_countPresent_17 (by first | omega | fail) rfl ?_
      refine K_getI dX3_countPresent_18 fl_X3_114 (by first | rfl | exact sk_rk (by omega) | exact sk_hh (by omega)) rfl (by first | assumption | rfl) rfl ?_
      refine K_if_eqB (tgt := 27) dX3_countPresent_21 (by decide) rfl (fun c21 => ?_) (fun c21 => ?_)
      · first | refine K_incN (lv' := [(0, _), (1, _), (2, _)]) dX3_countPresent_27 rfl (by decide) rfl rfl ?_ | refine K_iinc (lv' := [(0, _), (1, _), (2, _)]) dX3_countPresent_27 rfl rfl (by decide) rfl rfl ?_
        refine K_goto (tgt := 4) dX3_countPresent_30 (by decide) ?_
        first | (rw [cnt_f c21] at ih; exact ih) | (rw [cnt_t c21] at ih; exact ih)
      · first | refine K_incN (lv' := [(0, _), (1, _), (2, _)]) dX3_countPresent_24 rfl (by decide) rfl rfl ?_ | refine K_iinc (lv' := [(0, _), (1, _), (2, _)]) dX3_countPresent_24 rfl rfl (by decide) rfl rfl ?_
        first | refine K_incN (lv' := [(0, _), (1, _), (2, _)]) dX3_countPresent_27 rfl (by decide) rfl rfl ?_ | refine K_iinc (lv' := [(0, _), (1, _), (2, _)]) dX3_countPresent_27 rfl rfl (by decide) rfl rfl ?_
        refine K_goto (tgt := 4) dX3_countPresent_30 (by decide) ?_
        first | (rw [cnt_f c21] at ih; exact ih) | (rw [cnt_t c21] at ih; exact ih)
set_option maxRecDepth 100000 in
theorem c_X3_countPresent {d : Nat} {S : GS} {N : Mem} {K : Mej} (R : RX S N K) (w : WF S) : CK d mX3_countPresent [.ref 0] N K (PX (some (.int (nI (cnt (s_pr S) (s_n S))))) N K) := by
  refine CK.start [(0, _)] (plainFor_of_name (by decide)) (Nat.le_of_ble_eq_true rfl) rfl ?_
  refine K_iconst (v := nI 0) dX3_countPresent_0 (by decide) rfl ?_
  refine K_istore_n (lv' := [(0, _), (1, _)]) dX3_countPresent_1 (by decide) rfl rfl ?_
  refine K_iconst (v := nI 0) dX3_countPresent_2 (by decide) rfl ?_
  refine K_istore_n (lv' := [(0, _), (1, _), (2, _)]) dX3_countPresent_3 (by decide) rfl rfl ?_
  exact l_X3_countPresent R w (s_n S) 0 (by omega)
theorem l_X3_countTaken {d : Nat} (hd : 4 ≤ d) {S : GS} {N : Mem} {K : Mej} (R : RX S N K) (w : WF S) {f : Nat} (hf : f < s_n S) : ∀ k i : Nat, i + k = s_n S → EK d mX3_countTaken (PX (some (.int (nI (cnt (s_tk S f) (s_n S))))) N K) 4 [(0, .ref 0), (1, .int (nI f)), (2, .int (nI (cnt (s_tk S f) i))), (3, .int (nI i))] [] N K
  | 0, i, h => by
    obtain rfl : i = s_n S := by omega
    have hn := w.1.1
    have h0 := R.1.1
    refine K_iload_n dX3_countTaken_4 rfl rfl ?_
    refine K_aload_n dX3_countTaken_5 rfl rfl ?_
    refine K_getI dX3_countTaken_6 fl_X3_42 (by first | rfl | exact sk_rk (by omega) | exact sk_hh (by omega)) rfl (by first | assumption | rfl) rfl ?_
    refine K_icmp_geN (tgt := 30) dX3_countTaken_9 (by decide) rfl (by first | omega | fail) (by first | omega | fail) (fun c9 => ?_) (fun c9 => ?_)
    · refine K_iload_n dX3_countTaken_30 rfl rfl ?_
      refine K_iret dX3_countTaken_31 rfl ?_
      exact ⟨rfl, rfl, rfl⟩
    · omega
  | k + 1, i, h => by
    have ih := l_X3_countTaken hd R w hf k (i + 1) (by omega)
    have hn := w.1.1
    have h0 := R.1.1
    refine K_iload_n dX3_countTaken_4 rfl rfl ?_
    refine K_aload_n dX3_countTaken_5 rfl rfl ?_
    refine K_getI dX3_countTaken_6 fl_X3_42 (by first | rfl | exact sk_rk (by omega) | exact sk_hh (by omega)) rfl (by first | assumption | rfl) rfl ?_
    refine K_icmp_geN (tgt := 30) dX3_countTaken_9 (by decide) rfl (by first | omega | fail) (by first | omega | fail) (fun c9 => ?_) (fun c9 => ?_)
    · omega
    · refine K_aload_n dX3_countTaken_12 rfl rfl ?_
      refine K_iload_n dX3_countTaken_13 rfl rfl ?_
      refine K_iload_n dX3_countTaken_14 rfl rfl ?_
      refine K_cv (ci := 3) (d1 := d - 1) [_, _] dX3_countTaken_15 ml_X3_188 (by decide) rfl rfl rfl (Nat.le_of_ble_eq_true rfl) (c_X3_takes (by omega) R w hf (by omega)) (by omega) rfl ?_
      refine K_if_eqB (tgt := 24) dX3_countTaken_18 (by decide) rfl (fun c18 => ?_) (fun c18 => ?_)
      · first | refine K_incN (lv' := [(0, _), (1, _), (2, _), (3, _)]) dX3_countTaken_24 rfl (by decide) rfl rfl ?_ | refine K_iinc (lv' := [(0, _), (1, _), (2, _), (3, _)]) dX3_countTaken_24 rfl rfl (by decide) rfl rfl ?_
        refine K_goto (tgt := 4) dX3_countTaken_27 (by decide) ?_
        first | (rw [cnt_f c18] at ih; exact ih) | (rw [cnt_t c18] at ih; exact ih)
      · first | refine K_incN (lv' := [(0, _), (1, _), (2, _), (3, _)]) dX3_countTaken_21 rfl (by decide) rfl rfl ?_ | refine K_iinc (lv' := [(0, _), (1, _), (2, _), (3, _)]) dX3_countTaken_21 rfl rfl (by decide) rfl rfl ?_
        first | refine K_incN (lv' := [(0, _), (1, _), (2, _), (3, _)]) dX3_countTaken_24 rfl (by decide) rfl rfl ?_ | refine K_iinc (lv' := [(0, _), (1, _), (2, _), (3, _)]) dX3_countTaken_24 rfl rfl (by decide) rfl rfl ?_
        refine K_goto (tgt := 4) dX3_countTaken_27 (by decide) ?_
        first | (rw [cnt_f c18] at ih; exact ih) | (rw [cnt_t c18] at ih; exact ih)
set_option maxRecDepth 100000 in
theorem c_X3_countTaken {d : Nat} (hd : 4 ≤ d) {S : GS} {N : Mem} {K : Mej} (R : RX S N K) (w : WF S) {f : Nat} (hf : f < s_n S) : CK d mX3_countTaken [.ref 0, .int (nI f)] N K (PX (some (.int (nI (cnt (s_tk S f) (s_n S))))) N K) := by
  refine CK.start [(0, _), (1, _)] (plainFor_of_name (by decide)) (Nat.le_of_ble_eq_true rfl) rfl ?_
  refine K_iconst (v := nI 0) dX3_countTaken_0 (by decide) rfl ?_
  refine K_istore_n (lv' := [(0, _), (1, _), (2, _)]) dX3_countTaken_1 (by decide) rfl rfl ?_
  refine K_iconst (v := nI 0) dX3_countTaken_2 (by decide) rfl ?_
  refine K_istore_n (lv' := [(0, _), (1, _), (2, _), (3, _)]) dX3_countTaken_3 (by decide) rfl rfl ?_
  exact l_X3_countTaken hd R w hf (s_n S) 0 (by omega)
/-- a family's own rank of where it goes -/
def s_pk (S : GS) (f : Nat) : Nat := match s_pl S f with
  | none => 0
  | some g => s_rk S f g
def sumF (h : Nat → Nat) : Nat → Nat
  | 0 => 0
  | n + 1 => sumF h n + h n
theorem sumF_s (h : Nat → Nat) (i : Nat) : sumF h (i + 1) = sumF h i + h i := rfl
theorem c_pk {d : Nat} {S : GS} {N : Mem} {K : Mej} (R : RX S N K) (w : WF S) {f : Nat} (hf : f < 10) : CK d mX3_planRank [.ref 0, .int (nI f)] N K (PX (some (.int (nI (s_pk S f)))) N K) := c_X3_planRank R w hf
theorem l_X3_sumOfRanks {d : Nat} (hd : 1 ≤ d) {S : GS} {N : Mem} {K : Mej} (R : RX S N K) (w : WF S) : ∀ k i : Nat, i + k = s_n S → EK d mX3_sumOfRanks (PX (some (.int (nI (sumF (s_pk S) (s_n S))))) N K) 4 [(0, .ref 0), (1, .int (nI (sumF (s_pk S) i))), (2, .int (nI i))] [] N K
  | 0, i, h => by
    obtain rfl : i = s_n S := by omega
    have hn := w.1.1
    have h0 := R.1.1
    refine K_iload_n dX3_sumOfRanks_4 rfl rfl ?_
    refine K_aload_n dX3_sumOfRanks_5 rfl rfl ?_
    refine K_getI dX3_sumOfRanks_6 fl_X3_42 (by first | rfl | exact sk_rk (by omega) | exact sk_hh (by omega)) rfl (by first | assumption | rfl) rfl ?_
    refine K_icmp_geN (tgt := 26) dX3_sumOfRanks_9 (by decide) rfl (by first | omega | fail) (by first | omega | fail) (fun c9 => ?_) (fun c9 => ?_)
    · refine K_iload_n dX3_sumOfRanks_26 rfl rfl ?_
      refine K_iret dX3_sumOfRanks_27 rfl ?_
      exact ⟨rfl, rfl, rfl⟩
    · omega
  | k + 1, i, h => by
    have ih := l_X3_sumOfRanks hd R w k (i + 1) (by omega)
    have hn := w.1.1
    have h0 := R.1.1
    refine K_iload_n dX3_sumOfRanks_4 rfl rfl ?_
    refine K_aload_n dX3_sumOfRanks_5 rfl rfl ?_
    refine K_getI dX3_sumOfRanks_6 fl_X3_42 (by first | rfl | exact sk_rk (by omega) | exact sk_hh (by omega)) rfl (by first | assumption | rfl) rfl ?_
    refine K_icmp_geN (tgt := 26) dX3_sumOfRanks_9 (by decide) rfl (by first | omega | fail) (by first | omega | fail) (fun c9 => ?_) (fun c9 => ?_)
    · omega
    · refine K_iload_n dX3_sumOfRanks_12 rfl rfl ?_
      refine K_aload_n dX3_sumOfRanks_13 rfl rfl ?_
      refine K_iload_n dX3_sumOfRanks_14 rfl rfl ?_
      refine K_cv (ci := 3) (d1 := d - 1) [_] dX3_sumOfRanks_15 ml_X3_241 (by decide) rfl rfl rfl (Nat.le_of_ble_eq_true rfl) (c_pk R w (by omega)) (by omega) rfl ?_
      refine K_addN dX3_sumOfRanks_18 rfl ?_
      refine K_istore_n (lv' := [(0, _), (1, _), (2, _)]) dX3_sumOfRanks_19 (by decide) rfl rfl ?_
      first | refine K_incN (lv' := [(0, _), (1, _), (2, _)]) dX3_sumOfRanks_20 rfl (by decide) rfl rfl ?_ | refine K_iinc (lv' := [(0, _), (1, _), (2, _)]) dX3_sumOfRanks_20 rfl rfl (by decide) rfl rfl ?_
      refine K_goto (tgt := 4) dX3_sumOfRanks_23 (by decide) ?_
      rw [sumF_s] at ih
      exact ih
set_option maxRecDepth 100000 in
theorem c_X3_sumOfRanks {d : Nat} (hd : 1 ≤ d) {S : GS} {N : Mem} {K : Mej} (R : RX S N K) (w : WF S) : CK d mX3_sumOfRanks [.ref 0] N K (PX (some (.int (nI (sumF (s_pk S) (s_n S))))) N K) := by
  refine CK.start [(0, _)] (plainFor_of_name (by decide)) (Nat.le_of_ble_eq_true rfl) rfl ?_
  refine K_iconst (v := nI 0) dX3_sumOfRanks_0 (by decide) rfl ?_
  refine K_istore_n (lv' := [(0, _), (1, _)]) dX3_sumOfRanks_1 (by decide) rfl rfl ?_
  refine K_iconst (v := nI 0) dX3_sumOfRanks_2 (by decide) rfl ?_
  refine K_istore_n (lv' := [(0, _), (1, _), (2, _)]) dX3_sumOfRanks_3 (by decide) rfl rfl ?_
  exact l_X3_sumOfRanks hd R w (s_n S) 0 (by omega)
/-- the first guest of a home -/
def s_gu (S : GS) (h : Nat) : Option Nat := fnd (fun f => decide (s_pl S f = some h)) (s_n S)
theorem l_X3_firstGuest {d : Nat} {S : GS} {N : Mem} {K : Mej} (R : RX S N K) (w : WF S) {h : Nat} (hh : h < 10) : ∀ k i : Nat, i + k = s_n S → (∀ j, j < i → s_pl S j ≠ some h) → EK d mX3_firstGuest (PX (some (.int (oI (s_gu S h)))) N K) 2 [(0, .ref 0), (1, .int (nI h)), (2, .int (nI i))] [] N K
  | 0, i, e, hq => by
    obtain rfl : i = s_n S := by omega
    have hn := w.1.1
    have h0 := R.1.1
    refine K_iload_n dX3_firstGuest_2 rfl rfl ?_
    refine K_aload_n dX3_firstGuest_3 rfl rfl ?_
    refine K_getI dX3_firstGuest_4 fl_X3_42 (by first | rfl | exact sk_rk (by omega) | exact sk_hh (by omega)) rfl (by first | assumption | rfl) rfl ?_
    refine K_icmp_geN (tgt := 28) dX3_firstGuest_7 (by decide) rfl (by first | omega | fail) (by first | omega | fail) (fun c7 => ?_) (fun c7 => ?_)
    · refine K_iconst (v := (-1)) dX3_firstGuest_28 (by decide) rfl ?_
      refine K_iret dX3_firstGuest_29 rfl ?_
      refine ⟨?_, rfl, rfl⟩
      rw [s_gu, fnd_none (fun j hj => decide_eq_false (hq j hj))]
      rfl
    · omega
  | k + 1, i, e, hq => by
    have ih := l_X3_firstGuest (d := d) R w hh k (i + 1) (by omega)
    have hn := w.1.1
    have h0 := R.1.1
    have hp := R.2.2.2.1 i (by omega)
    have hob := w.plb (f := i) (by omega)
    refine K_iload_n dX3_firstGuest_2 rfl rfl ?_
    refine K_aload_n dX3_firstGuest_3 rfl rfl ?_
    refine K_getI dX3_firstGuest_4 fl_X3_42 (by first | rfl | exact sk_rk (by omega) | exact sk_hh (by omega)) rfl (by first | assumption | rfl) rfl ?_
    refine K_icmp_geN (tgt := 28) dX3_firstGuest_7 (by decide) rfl (by first | omega | fail) (by first | omega | fail) (fun c7 => ?_) (fun c7 => ?_)
    · omega
    · refine K_aload_n dX3_firstGuest_10 rfl rfl ?_
      refine K_getR (r := 2) dX3_firstGuest_11 fl_X3_15 rfl rfl rfl rfl ?_
      refine K_iload_n dX3_firstGuest_14 rfl rfl ?_
      refine K_iald dX3_firstGuest_15 (by first | rfl | exact sk_rk (by omega) | exact sk_hh (by omega)) (by first | omega | fail) (by decide) (by first | assumption | rfl) rfl ?_
      refine K_iload_n dX3_firstGuest_16 rfl rfl ?_
      refine K_icmp_neON (tgt := 22) dX3_firstGuest_17 (by decide) rfl (by first | assumption | fail) (by first | omega | fail) (fun c17 => ?_) (fun c17 => ?_)
      · first | refine K_incN (lv' := [(0, _), (1, _), (2, _)]) dX3_firstGuest_22 rfl (by decide) rfl rfl ?_ | refine K_iinc (lv' := [(0, _), (1, _), (2, _)]) dX3_firstGuest_22 rfl rfl (by decide) rfl rfl ?_
        refine K_goto (tgt := 2) dX3_firstGuest_25 (by decide) ?_
        exact ih (fun j hj => by rcases Nat.lt_succ_iff_lt_or_eq.mp hj with hj | rfl; exact hq j hj; exact c17)
      · refine K_iload_n dX3_firstGuest_20 rfl rfl ?_
        refine K_iret dX3_firstGuest_21 rfl ?_
        refine ⟨?_, rfl, rfl⟩
        rw [s_gu, fnd_first (i := i) (decide_eq_true c17) (fun j hj => decide_eq_false (hq j hj)) (by omega)]
        rfl
set_option maxRecDepth 100000 in
theorem c_X3_firstGuest {d : Nat} {S : GS} {N : Mem} {K : Mej} (R : RX S N K) (w : WF S) {h : Nat} (hh : h < 10) : CK d mX3_firstGuest [.ref 0, .int (nI h)] N K (PX (some (.int (oI (s_gu S h)))) N K) := by
  refine CK.start [(0, _), (1, _)] (plainFor_of_name (by decide)) (Nat.le_of_ble_eq_true rfl) rfl ?_
  refine K_iconst (v := nI 0) dX3_firstGuest_0 (by decide) rfl ?_
  refine K_istore_n (lv' := [(0, _), (1, _), (2, _)]) dX3_firstGuest_1 (by decide) rfl rfl ?_
  exact l_X3_firstGuest R w hh (s_n S) 0 (by omega) (fun j hj => absurd hj (Nat.not_lt_zero j))
def s_lk (S : GS) (f g : Nat) : Bool := decide (s_pk S f = 0 ∨ s_rk S f g < s_pk S f)
theorem WF.pk9 {S : GS} (w : WF S) {f : Nat} (hf : f < 10) : s_pk S f ≤ 9 := by
  unfold s_pk
  split
  · omega
  · exact w.rk9 hf _
set_option maxRecDepth 100000 in
theorem c_X3_isLiked {d : Nat} (hd : 1 ≤ d) {S : GS} {N : Mem} {K : Mej} (R : RX S N K) (w : WF S) {f g : Nat} (hf : f < 10) (hg : g < 10) : CK d mX3_isLiked [.ref 0, .int (nI f), .int (nI g)] N K (PX (some (.int (bI (s_lk S f g)))) N K) := by
  have hr := R.2.2.1 f g hf hg
  have h9 := w.rk9 hf g
  have hp9 := w.pk9 hf
  have hpk : CK (d - 1) mX3_planRank [.ref 0, .int (nI f)] N K (PX (some (.int (nI (s_pk S f)))) N K) := c_pk R w hf
  refine CK.start [(0, _), (1, _), (2, _)] (plainFor_of_name (by decide)) (Nat.le_of_ble_eq_true rfl) rfl ?_
  refine K_aload_n dX3_isLiked_0 rfl rfl ?_
  refine K_iload_n dX3_isLiked_1 rfl rfl ?_
  refine K_cv (ci := 3) (d1 := d - 1) [_] dX3_isLiked_2 ml_X3_241 (by decide) rfl rfl rfl (Nat.le_of_ble_eq_true rfl) hpk (by omega) rfl ?_
  refine K_istore_n (lv' := [(0, _), (1, _), (2, _), (3, _)]) dX3_isLiked_5 (by decide) rfl rfl ?_
  refine K_iload_n dX3_isLiked_6 rfl rfl ?_
  refine K_if_eqN (tgt := 25) dX3_isLiked_7 (by decide) rfl (by first | omega | fail) (fun c7 => ?_) (fun c7 => ?_)
  · refine K_iconst (v := nI 1) dX3_isLiked_25 (by decide) rfl ?_
    refine K_goto (tgt := 30) dX3_isLiked_26 (by decide) ?_
    refine K_zret dX3_isLiked_30 rfl (by first | rfl | exact bI_nar _) ?_
    refine ⟨?_, rfl, rfl⟩
    first | (rw [s_lk, decide_eq_true (Or.inl c7)]; rfl) | (rw [s_lk, decide_eq_true (Or.inr c22)]; rfl) | (rw [s_lk, decide_eq_false (by omega)]; rfl)
  · refine K_aload_n dX3_isLiked_10 rfl rfl ?_
    refine K_getR (r := 1) dX3_isLiked_11 fl_X3_11 rfl rfl rfl rfl ?_
    refine K_iload_n dX3_isLiked_14 rfl rfl ?_
    refine K_hh dX3_isLiked_15 (by first | omega | fail) rfl ?_
    refine K_rk dX3_isLiked_16 fl_X3_155 (by first | omega | fail) rfl ?_
    refine K_iload_n dX3_isLiked_19 rfl rfl ?_
    refine K_iald dX3_isLiked_20 (by first | rfl | exact sk_rk (by omega) | exact sk_hh (by omega)) (by first | omega | fail) (by decide) (by first | assumption | rfl) rfl ?_
    refine K_iload_n dX3_isLiked_21 rfl rfl ?_
    refine K_icmp_geN (tgt := 29) dX3_isLiked_22 (by decide) rfl (by first | omega | fail) (by first | omega | fail) (fun c22 => ?_) (fun c22 => ?_)
    · refine K_iconst (v := nI 0) dX3_isLiked_29 (by decide) rfl ?_
      refine K_zret dX3_isLiked_30 rfl (by first | rfl | exact bI_nar _) ?_
      refine ⟨?_, rfl, rfl⟩
      first | (rw [s_lk, decide_eq_true (Or.inl c7)]; rfl) | (rw [s_lk, decide_eq_true (Or.inr c22)]; rfl) | (rw [s_lk, decide_eq_false (by omega)]; rfl)
    · refine K_iconst (v := nI 1) dX3_isLiked_25 (by decide) rfl ?_
      refine K_goto (tgt := 30) dX3_isLiked_26 (by decide) ?_
      refine K_zret dX3_isLiked_30 rfl (by first | rfl | exact bI_nar _) ?_
      refine ⟨?_, rfl, rfl⟩
      first | (rw [s_lk, decide_eq_true (Or.inl c7)]; rfl) | (rw [s_lk, decide_eq_true (Or.inr c22)]; rfl) | (rw [s_lk, decide_eq_false (by omega)]; rfl)
def s_rv (S : GS) (f : Nat) : Bool := (fnd (fun g => decide (g ≠ f ∧ s_pl S g = s_pl S f)) (s_n S)).isSome
theorem l_X3_hasRival {d : Nat} {S : GS} {N : Mem} {K : Mej} (R : RX S N K) (w : WF S) {f : Nat} (hf : f < 10) : ∀ k i : Nat, i + k = s_n S → (∀ j, j < i → ¬ (j ≠ f ∧ s_pl S j = s_pl S f)) → EK d mX3_hasRival (PX (some (.int (bI (s_rv S f)))) N K) 2 [(0, .ref 0), (1, .int (nI f)), (2, .int (nI i))] [] N K
  | 0, i, e, hq => by
    obtain rfl : i = s_n S := by omega
    have hn := w.1.1
    have h0 := R.1.1
    refine K_iload_n dX3_hasRival_2 rfl rfl ?_
    refine K_aload_n dX3_hasRival_3 rfl rfl ?_
    refine K_getI dX3_hasRival_4 fl_X3_42 (by first | rfl | exact sk_rk (by omega) | exact sk_hh (by omega)) rfl (by first | assumption | rfl) rfl ?_
    refine K_icmp_geN (tgt := 38) dX3_hasRival_7 (by decide) rfl (by first | omega | fail) (by first | omega | fail) (fun c7 => ?_) (fun c7 => ?_)
    · refine K_iconst (v := nI 0) dX3_hasRival_38 (by decide) rfl ?_
      refine K_zret dX3_hasRival_39 rfl (by first | rfl | exact bI_nar _) ?_
      refine ⟨?_, rfl, rfl⟩
      rw [s_rv, fnd_none (fun j hj => decide_eq_false (hq j hj))]
      rfl
    · omega
  | k + 1, i, e, hq => by
    have ih := l_X3_hasRival (d := d) R w hf k (i + 1) (by omega)
    have hn := w.1.1
    have h0 := R.1.1
    have hp := R.2.2.2.1 i (by omega)
    have hob := w.plb (f := i) (by omega)
    have hpf := R.2.2.2.1 f hf
    have hobf := w.plb hf
    refine K_iload_n dX3_hasRival_2 rfl rfl ?_
    refine K_aload_n dX3_hasRival_3 rfl rfl ?_
    refine K_getI dX3_hasRival_4 fl_X3_42 (by first | rfl | exact sk_rk (by omega) | exact sk_hh (by omega)) rfl (by first | assumption | rfl) rfl ?_
    refine K_icmp_geN (tgt := 38) dX3_hasRival_7 (by decide) rfl (by first | omega | fail) (by first | omega | fail) (fun c7 => ?_) (fun c7 => ?_)
    · omega
    · refine K_iload_n dX3_hasRival_10 rfl rfl ?_
      refine K_iload_n dX3_hasRival_11 rfl rfl ?_
      refine K_icmp_eqN (tgt := 32) dX3_hasRival_12 (by decide) rfl (by first | omega | fail) (by first | omega | fail) (fun c12 => ?_) (fun c12 => ?_)
      · first | refine K_incN (lv' := [(0, _), (1, _), (2, _)]) dX3_hasRival_32 rfl (by decide) rfl rfl ?_ | refine K_iinc (lv' := [(0, _), (1, _), (2, _)]) dX3_hasRival_32 rfl rfl (by decide) rfl rfl ?_
        refine K_goto (tgt := 2) dX3_hasRival_35 (by decide) ?_
        refine ih (fun j hj => ?_)
        rcases Nat.lt_succ_iff_lt_or_eq.mp hj with hj | rfl
        · exact hq j hj
        · first | exact fun h => c27 h.2 | exact fun h => h.1 c12
      · refine K_aload_n dX3_hasRival_15 rfl rfl ?_
        refine K_getR (r := 2) dX3_hasRival_16 fl_X3_15 rfl rfl rfl rfl ?_
        refine K_iload_n dX3_hasRival_19 rfl rfl ?_
        refine K_iald dX3_hasRival_20 (by first | rfl | exact sk_rk (by omega) | exact sk_hh (by omega)) (by first | omega | fail) (by decide) (by first | assumption | rfl) rfl ?_
        refine K_aload_n dX3_hasRival_21 rfl rfl ?_
        refine K_getR (r := 2) dX3_hasRival_22 fl_X3_15 rfl rfl rfl rfl ?_
        refine K_iload_n dX3_hasRival_25 rfl rfl ?_
        refine K_iald dX3_hasRival_26 (by first | rfl | exact sk_rk (by omega) | exact sk_hh (by omega)) (by first | omega | fail) (by decide) (by first | assumption | rfl) rfl ?_
        refine K_icmp_neOO (tgt := 32) dX3_hasRival_27 (by decide) rfl (by first | assumption | fail) (by first | assumption | fail) (fun c27 => ?_) (fun c27 => ?_)
        · first | refine K_incN (lv' := [(0, _), (1, _), (2, _)]) dX3_hasRival_32 rfl (by decide) rfl rfl ?_ | refine K_iinc (lv' := [(0, _), (1, _), (2, _)]) dX3_hasRival_32 rfl rfl (by decide) rfl rfl ?_
          refine K_goto (tgt := 2) dX3_hasRival_35 (by decide) ?_
          refine ih (fun j hj => ?_)
          rcases Nat.lt_succ_iff_lt_or_eq.mp hj with hj | rfl
          · exact hq j hj
          · first | exact fun h => c27 h.2 | exact fun h => h.1 c12
        · refine K_iconst (v := nI 1) dX3_hasRival_30 (by decide) rfl ?_
          refine K_zret dX3_hasRival_31 rfl (by first | rfl | exact bI_nar _) ?_
          refine ⟨?_, rfl, rfl⟩
          rw [s_rv, fnd_first (i := i) (decide_eq_true ⟨c12, c27⟩) (fun j hj => decide_eq_false (hq j hj)) (by omega)]
          rfl
set_option maxRecDepth 100000 in
theorem c_X3_hasRival {d : Nat} {S : GS} {N : Mem} {K : Mej} (R : RX S N K) (w : WF S) {f : Nat} (hf : f < 10) : CK d mX3_hasRival [.ref 0, .int (nI f)] N K (PX (some (.int (bI (s_rv S f)))) N K) := by
  refine CK.start [(0, _), (1, _)] (plainFor_of_name (by decide)) (Nat.le_of_ble_eq_true rfl) rfl ?_
  refine K_iconst (v := nI 0) dX3_hasRival_0 (by decide) rfl ?_
  refine K_istore_n (lv' := [(0, _), (1, _), (2, _)]) dX3_hasRival_1 (by decide) rfl rfl ?_
  exact l_X3_hasRival R w hf (s_n S) 0 (by omega) (fun j hj => absurd hj (Nat.not_lt_zero j))
