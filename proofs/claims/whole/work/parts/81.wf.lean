/-! the bounds are kept by best, mend, trade, blocks, chain -/
theorem sc_max {S : GS} {k : Bool} {B : Int} (hB : ∀ t, VP S t → sc S k t ≤ B) : ∀ (n : Nat) (t : Nat → Nat), VP S t → B - sc S k t ≤ n → ∃ b, VP S b ∧ ∀ u, VP S u → sc S k u ≤ sc S k b := by
  intro n
  induction n with
  | zero => intro t ht h; exact ⟨t, ht, fun u hu => by have := hB u hu; omega⟩
  | succ n ih =>
    intro t ht h
    by_cases hc : ∃ u, VP S u ∧ sc S k t < sc S k u
    · obtain ⟨u, hu, hl⟩ := hc
      exact ih u hu (by omega)
    · exact ⟨t, ht, fun u hu => Int.not_lt.mp (fun z => hc ⟨u, hu, z⟩)⟩
theorem bp_IsB {S : GS} (w : WF S) (k : Bool) : IsB S k (bp S k) := by
  have hn := w.1.1
  have hB : ∀ t, VP S t → sc S k t ≤ 300000000000000 := fun t ht => by
    have := sumI_b (h := fun f => cc S k f (t f)) (B := 30000000000000) (by omega) (n := s_n S) (fun i hi => cc_b (by have := (ht i hi).1; omega))
    unfold sc
    have : (s_n S : Int) ≤ 10 := by omega
    omega
  obtain ⟨b, hb, hm⟩ := sc_max hB (300000000000000 - sc S k (fun f => f)).toNat (fun f => f) (id_VP w) (by omega)
  exact @Classical.epsilon_spec (Nat → Nat) (IsB S k) ⟨b, hb, fun t ht => sc_bt w hb ht (hm t ht)⟩
theorem PW_pv {S : GS} {t : Nat → Nat} (h : VP S t) : PW S (pv (s_n S) t) := fun f g e => by
  unfold pv at e
  split at e
  · next hf =>
    split at e
    · cases e
    · next hne => cases e; exact ⟨hf, (h f hf).1, hne⟩
  · cases e
theorem wf_best {S : GS} (w : WF S) : WF (o_best S).2 := WF.plG (S := gC S) w.c0 (PW_pv (S := S) (bp_IsB w false).1)
theorem wf_mend {S : GS} (w : WF S) : WF (o_mend S).2 := WF.plG (S := gC S) w.c0 (PW_pv (S := S) (bp_IsB w true).1)
theorem rwk_PW {S : GS} {L0 : Nat} {s : Nat → Nat} (hL : L0 < 2 ^ s_n S) (hs : ∀ x, L0.testBit x = true → L0.testBit (s x) = true ∧ s x ≠ x) : ∀ (k x : Nat) (t : Nat × (Nat → Option Nat)), L0.testBit x = true → PW S t.2 → PW S (rwk s k x t).2
  | 0, _, _, _, h => h
  | k + 1, x, t, hx, h => by
    unfold rwk
    split
    · refine rwk_PW hL hs k (s x) _ (hs x hx).1 (fun f g e => ?_)
      have e : (if f = x then some (s x) else t.2 f) = some g := e
      by_cases e2 : f = x
      · rw [if_pos e2] at e
        cases e
        rw [e2]
        exact ⟨bit_lt hL hx, bit_lt hL (hs x hx).1, (hs x hx).2⟩
      · rw [if_neg e2] at e
        exact h f g e
    · exact h
theorem stp_PW {S : GS} (w : WF S) {t : Nat × (Nat → Option Nat)} (hL : t.1 < 2 ^ s_n S) (h : PW S t.2) : PW S (stp S t).2 := by
  by_cases h0 : t.1 = 0
  · have e : t = (0, t.2) := by rw [← h0]
    rw [e, stp_0]
    exact h
  · cases e : lv S t.1 with
    | some f =>
      have e2 := stp_lv (S := S) (L := t.1) e t.2
      rw [show stp S t = (rmB t.1 f, t.2) from e2]
      exact h
    | none =>
      obtain ⟨f, h1, h2, -⟩ := rg_some w hL h0 e
      have e2 := stp_rg (S := S) (L := t.1) e t.2
      rw [h1] at e2
      rw [show stp S t = rwk (sf S t.1) (s_n S) f t from e2]
      exact rwk_PW hL (fun x hx => sf_ne w hL e hx) _ _ _ h2 h
theorem itS_PW {S : GS} (w : WF S) : ∀ (k : Nat) (t : Nat × (Nat → Option Nat)), t.1 < 2 ^ s_n S → PW S t.2 → PW S (itS S k t).2
  | 0, _, _, h => h
  | k + 1, t, hL, h => by
    refine itS_PW w k (stp S t) ?_ (stp_PW w hL h)
    by_cases h0 : t.1 = 0
    · have e : t = (0, t.2) := by rw [← h0]
      rw [e, stp_0]
      exact Nat.two_pow_pos _
    · exact (stp_less w hL h0).1
theorem wf_trade {S : GS} (w : WF S) : WF (o_trade S).2 := by
  have p0 : 0 < 2 ^ s_n S := Nat.two_pow_pos _
  refine WF.plG (S := gC S) w.c0 ?_
  exact itS_PW w 10 (2 ^ s_n S - 1, fun _ => none) (by show 2 ^ s_n S - 1 < _; omega) (fun f g e => by cases e)
theorem wf_blocks {S : GS} (w : WF S) : WF (o_blocks S).2 := by
  have hn := w.1.1
  unfold o_blocks
  cases e : blR (hBl S) (s_n S) with
  | none => exact w.c0
  | some q =>
    have b := bl_len e
    exact WF.tell (S := gC S) w.c0 (Nat.le_trans b.2.1 hn) (fun i hi => getD_lt b.2.2 hi)
theorem WF.chB {S : GS} (w : WF S) (b : Bool) : WF (gB S 3 0 0 b) := by
  obtain ⟨w1, w2, w3, w4, w5, w6, w7⟩ := w
  refine ⟨w1, w2, fun f h1 h2 => ?_, w4, w5, w6, w7⟩
  obtain ⟨a1, a2, a3, a4, a5, a6, a7, a8, a9⟩ := w3 f h1 h2
  exact ⟨a1, a2, a3, a4, a5, a6, a7, a8, a9⟩
theorem wf_chain {S : GS} (w : WF S) (x : Int32) : WF (o_chain S x).2 := by
  have hn := w.1.1
  unfold o_chain
  cases hx : isF (s_n S) x with
  | false => exact w.c0
  | true =>
    obtain ⟨a, ha, rfl⟩ := (isF_iff hn).mp hx
    rw [if_pos rfl, nI_clamp (show a < 2 ^ 31 by omega)]
    split
    · split
      · exact w.c0
      · exact WF.chB (WF.tell (S := gC S) w.c0 (lw_le hn ha) (fun i hi => getD_lt (lw_lt hn ha) hi)) true
    · exact w.c0
