theorem fc_zero {S : GS} (h : s_fc S = 0) : fnd (s_f1 S) (s_n S) = none ∧ fnd (s_f2 S) (s_n S) = none ∧ fnd (s_f3 S) (s_n S) = none := by
  unfold s_fc at h
  cases h1 : fnd (s_f1 S) (s_n S) with
  | some f => rw [h1] at h; simp at h
  | none =>
    rw [h1] at h
    cases h2 : fnd (s_f2 S) (s_n S) with
    | some f => rw [h2] at h; simp at h
    | none =>
      rw [h2] at h
      cases h3 : fnd (s_f3 S) (s_n S) with
      | some f => rw [h3] at h; simp at h
      | none => exact ⟨rfl, rfl, rfl⟩
theorem closed_next {S : GS} (h : s_fc S = 0) (w : WF S) {f g : Nat} (hf : f < 10) (hp : s_pl S f = some g) : ∃ k, s_pl S g = some k := by
  obtain ⟨b1, b2, b3⟩ := w.2.2.2.2.1 f g hf hp
  have h3 := fnd_no (fc_zero h).2.2 g b2
  cases hq : s_pl S g with
  | some k => exact ⟨k, rfl⟩
  | none =>
    exfalso
    simp only [s_f3, go_f hq] at h3
    have hg : s_gu S g ≠ none := by
      intro e
      have := fnd_no e f b1
      simp [hp] at this
    cases hz : s_gu S g with
    | none => exact hg hz
    | some z => rw [hz] at h3; simp at h3
def itF (p : Nat → Option Nat) (f : Nat) : Nat → Nat
  | 0 => f
  | i + 1 => (p (itF p f i)).getD 0
theorem it_ok {S : GS} (h : s_fc S = 0) (w : WF S) {f : Nat} (hf : f < s_n S) (hp : s_pl S f ≠ none) : ∀ i, itF (s_pl S) f i < s_n S ∧ s_pl S (itF (s_pl S) f i) = some (itF (s_pl S) f (i + 1))
  | 0 => by
    refine ⟨hf, ?_⟩
    show s_pl S f = some ((s_pl S f).getD 0)
    cases hq : s_pl S f with
    | none => exact absurd hq hp
    | some g => rfl
  | i + 1 => by
    obtain ⟨h1, h2⟩ := it_ok h w hf hp i
    have hn := w.1.1
    obtain ⟨b1, b2, b3⟩ := w.2.2.2.2.1 _ _ (by omega) h2
    obtain ⟨k, hk⟩ := closed_next h w (by omega) h2
    refine ⟨b2, ?_⟩
    show s_pl S (itF (s_pl S) f (i + 1)) = some ((s_pl S (itF (s_pl S) f (i + 1))).getD 0)
    rw [hk]
    rfl
/-- the row is told: len numbers, td -/
def tellG (S : GS) (len : Nat) (td : Nat → Nat) : GS := (fun a b => if a = 0 ∧ b = 5 then len else if a = 9 then td b else S.1 a b, S.2.1, S.2.2.1, S.2.2.2)
theorem tellG_wl (S : GS) (len : Nat) (td : Nat → Nat) (f : Nat) : s_wl (tellG S len td) f = s_wl S f := by
  funext k
  show (if 20 + f = 0 ∧ k = 5 then len else if 20 + f = 9 then td k else S.1 (20 + f) k) = _
  rw [if_neg (by omega), if_neg (by omega)]
  rfl
theorem RX.tell {S : GS} {N N1 : Mem} {K K1 : Mej} (R : RX S N K) {len : Nat} {td : Nat → Nat} (hrow : ∀ i, i < 5 ∨ (20 ≤ i ∧ i < 40) → i ≠ 4 → N1 i = N i) (hK : ∀ f, f < 10 → K1 11 f = K 11 f) (ht : ∀ i, i < len → N1 4 i = nI (td i)) : RX (tellG S len td) (sM N1 0 9 (nI len)) K1 := by
  refine ⟨?_, fun f2 hf2 => ?_, fun f2 g2 hf2 hg2 => ?_, fun f2 hf2 => ?_, fun y f2 hy hf2 => ?_, fun i hi => ?_, fun f2 hf2 => ?_⟩
  · obtain ⟨a7, a8, a9, a10, a11, a12, a13⟩ := R.1
    have h0 := hrow 0 (by omega) (by decide)
    rw [← h0] at a7 a8 a10 a11 a12 a13
    exact ⟨a7, a8, sM_eq _ _ _ _, a10, a11, a12, a13⟩
  · rw [sM_row (by omega), hrow _ (by omega) (by omega)]; exact R.2.1 f2 hf2
  · rw [sM_row (by omega), hrow _ (by omega) (by omega)]
    unfold s_rk
    rw [tellG_wl]
    exact R.2.2.1 f2 g2 hf2 hg2
  · rw [sM_row (by decide), hrow _ (by omega) (by decide)]; exact R.2.2.2.1 f2 hf2
  · rw [sM_row (by decide), hrow _ (by omega) (by decide)]; exact R.2.2.2.2.1 y f2 hy hf2
  · rw [sM_row (by decide)]
    exact ht i hi
  · rw [hK f2 hf2]
    exact R.2.2.2.2.2.2 f2 hf2
def o_ring (S : GS) (x : Int32) : Int32 × GS :=
  if isF (s_n S) x = true then
    (if s_pl S x.toNatClampNeg = none ∨ s_fc S ≠ 0 then (0, gC S)
     else (nI (s_rl S x.toNatClampNeg), tellG (gC S) (s_rl S x.toNatClampNeg) (itF (s_pl S) x.toNatClampNeg)))
  else (-1, gC S)
theorem l_X3_ring {d : Nat} (hd : 1 ≤ d) {S : GS} {N0 N : Mem} {K : Mej} (R : RX S N K) (w : WF S) (F : FX N0 N) {f m : Nat} (hf : f < s_n S) (h0 : s_fc S = 0) (hp : s_pl S f ≠ none) (hm : m ≤ 10) (hm1 : 1 ≤ m) : ∀ (k i : Nat) (N1 : Mem), i + k = m → (∀ j, j ≠ 4 → N1 j = N j) → (∀ j, j < i → N1 4 j = nI (itF (s_pl S) f j)) → EK d mX3_ring (PRX (nI m) (tellG S m (itF (s_pl S) f)) N0) 45 [(0, .ref 0), (1, .int (nI f)), (2, .int (nI m)), (3, .int (nI (itF (s_pl S) f i))), (4, .int (nI i))] [] N1 K
  | 0, i, N1, h, hr, ht => by
    obtain rfl : i = m := by omega
    have hkr : CK (d - 1) mX3_keepRow [.ref 0, .int (nI i)] N1 K (PX none (sM N1 0 9 (nI i)) K) := by
      have := c_X3_keepRow (d := d - 1) (N := N1) (K := K) hm
      rw [if_pos (by omega)] at this
      exact this
    refine K_iload dX3_ring_45 rfl rfl ?_
    refine K_iload_n dX3_ring_47 rfl rfl ?_
    refine K_icmp_geN (tgt := 72) dX3_ring_48 (by decide) rfl (by first | omega | fail) (by first | omega | fail) (fun c48 => ?_) (fun c48 => ?_)
    · refine K_aload_n dX3_ring_72 rfl rfl ?_
      refine K_iload_n dX3_ring_73 rfl rfl ?_
      refine K_c0 (ci := 3) (d1 := d - 1) [_] dX3_ring_74 ml_X3_202 (by decide) rfl rfl rfl (Nat.le_of_ble_eq_true rfl) hkr (by omega) rfl ?_
      refine K_iload_n dX3_ring_77 rfl rfl ?_
      refine K_iret dX3_ring_78 rfl ?_
      exact ⟨rfl, R.tell (fun j _ h2 => hr j h2) (fun _ _ => rfl) ht, fun j hj => (sM_row (by omega)).trans ((hr j (by omega)).trans (F j hj))⟩
    · omega
  | k + 1, i, N1, h, hr, ht => by
    have hn := w.1.1
    obtain ⟨q1, q2⟩ := it_ok h0 w hf hp i
    have ih := fun N2 => l_X3_ring hd R w F hf h0 hp hm hm1 k (i + 1) N2 (by omega)
    have h2 : sM N1 4 i (nI (itF (s_pl S) f i)) 2 (itF (s_pl S) f i) = nI (itF (s_pl S) f (i + 1)) := by
      rw [sM_row (by decide), hr 2 (by decide), R.2.2.2.1 _ (by omega), q2]
      rfl
    refine K_iload dX3_ring_45 rfl rfl ?_
    refine K_iload_n dX3_ring_47 rfl rfl ?_
    refine K_icmp_geN (tgt := 72) dX3_ring_48 (by decide) rfl (by first | omega | fail) (by first | omega | fail) (fun c48 => ?_) (fun c48 => ?_)
    · omega
    · refine K_aload_n dX3_ring_51 rfl rfl ?_
      refine K_getR (r := 4) dX3_ring_52 fl_X3_22 rfl rfl rfl rfl ?_
      refine K_iload dX3_ring_55 rfl rfl ?_
      refine K_iload_n dX3_ring_57 rfl rfl ?_
      refine K_iast dX3_ring_58 (by first | rfl | exact sk_rk (by omega) | exact sk_hh (by omega)) (by first | omega | fail) (by decide) rfl ?_
      refine K_aload_n dX3_ring_59 rfl rfl ?_
      refine K_getR (r := 2) dX3_ring_60 fl_X3_15 rfl rfl rfl rfl ?_
      refine K_iload_n dX3_ring_63 rfl rfl ?_
      refine K_iald dX3_ring_64 (by first | rfl | exact sk_rk (by omega) | exact sk_hh (by omega)) (by first | omega | fail) (by decide) (by first | assumption | rfl) rfl ?_
      refine K_istore_n (lv' := [(0, _), (1, _), (2, _), (3, _), (4, _)]) dX3_ring_65 (by decide) rfl rfl ?_
      first | refine K_incN (lv' := [(0, _), (1, _), (2, _), (3, _), (4, _)]) dX3_ring_66 rfl (by decide) rfl rfl ?_ | refine K_iinc (lv' := [(0, _), (1, _), (2, _), (3, _), (4, _)]) dX3_ring_66 rfl rfl (by decide) rfl rfl ?_
      refine K_goto (tgt := 45) dX3_ring_69 (by decide) ?_
      refine ih _ (fun j hj => (sM_row hj).trans (hr j hj)) (fun j hj => ?_)
      rcases Nat.lt_succ_iff_lt_or_eq.mp hj with hj | rfl
      · rw [sM_ne (Or.inr (by omega))]; exact ht j hj
      · exact sM_eq _ _ _ _
set_option maxRecDepth 100000 in
theorem c_X3_ring {d : Nat} (hd : 5 ≤ d) {S : GS} {N : Mem} {K : Mej} (R : RX S N K) (w : WF S) {x : Int32} : CK d mX3_ring [.ref 0, .int x] N K (PRX (o_ring S x).1 (o_ring S x).2 N) := by
  have R0 := R.c0
  have w0 := w.c0
  have hn := w.1.1
  have hfl := s_fc_lt w
  have h7 : sM N 0 13 (nI 0) 0 7 = nI (s_n S) := R0.1.1
  have hcl : CK (d - 1) mX3_faultOfClosing [.ref 0] (sM N 0 13 (nI 0)) K (PX (some (.int (nI (s_fc S)))) (sM N 0 13 (nI 0)) K) := c_X3_faultOfClosing (S := gC S) (by omega) R0 w0
  cases hx : isF (s_n S) x with
  | false =>
    rw [o_ring, hx]
    refine CK.start [(0, _), (1, _)] (plainFor_of_name (by decide)) (Nat.le_of_ble_eq_true rfl) rfl ?_
    refine K_aload_n dX3_ring_0 rfl rfl ?_
    refine K_iconst (v := nI 0) dX3_ring_1 (by decide) rfl ?_
    refine K_putZ dX3_ring_2 fl_X3_61 (by first | rfl | exact sk_rk (by omega) | exact sk_hh (by omega)) rfl rfl rfl (by first | exact bI_01 _ | exact Or.inl rfl | exact Or.inr rfl | assumption) rfl ?_
    refine K_aload_n dX3_ring_5 rfl rfl ?_
    refine K_iload_n dX3_ring_6 rfl rfl ?_
    refine K_cv (ci := 3) (d1 := d - 1) [_] dX3_ring_7 ml_X3_74 (by decide) rfl rfl rfl (Nat.le_of_ble_eq_true rfl) (c_X3_isFamily h7) (by omega) rfl ?_
    refine K_if_neB (tgt := 15) dX3_ring_10 (by decide) rfl (fun c10 => ?_) (fun c10 => ?_)
    · rw [hx] at c10; cases c10
    · refine K_iconst (v := (-1)) dX3_ring_13 (by decide) rfl ?_
      refine K_iret dX3_ring_14 rfl ?_
      exact ⟨rfl, R0, FX.c0 N⟩
  | true =>
    obtain ⟨f, hf, rfl⟩ := (isF_iff hn).mp hx
    rw [o_ring, hx, if_pos rfl, nI_clamp (show f < 2 ^ 31 by omega)]
    have hp0 : sM N 0 13 (nI 0) 2 f = oI (s_pl S f) := R0.2.2.2.1 f (by omega)
    have hob := w.plb (f := f) (by omega)
    have hrl : CK (d - 1) mX3_ringLength [.ref 0, .int (nI f)] (sM N 0 13 (nI 0)) K (PX (some (.int (nI (s_rl S f)))) (sM N 0 13 (nI 0)) K) := c_X3_ringLength (S := gC S) R0 w0 (by omega)
    by_cases hz : s_pl S f = none ∨ s_fc S ≠ 0
    · rw [if_pos hz]
      refine CK.start [(0, _), (1, _)] (plainFor_of_name (by decide)) (Nat.le_of_ble_eq_true rfl) rfl ?_
      refine K_aload_n dX3_ring_0 rfl rfl ?_
      refine K_iconst (v := nI 0) dX3_ring_1 (by decide) rfl ?_
      refine K_putZ dX3_ring_2 fl_X3_61 (by first | rfl | exact sk_rk (by omega) | exact sk_hh (by omega)) rfl rfl rfl (by first | exact bI_01 _ | exact Or.inl rfl | exact Or.inr rfl | assumption) rfl ?_
      refine K_aload_n dX3_ring_5 rfl rfl ?_
      refine K_iload_n dX3_ring_6 rfl rfl ?_
      refine K_cv (ci := 3) (d1 := d - 1) [_] dX3_ring_7 ml_X3_74 (by decide) rfl rfl rfl (Nat.le_of_ble_eq_true rfl) (c_X3_isFamily h7) (by omega) rfl ?_
      refine K_if_neB (tgt := 15) dX3_ring_10 (by decide) rfl (fun c10 => ?_) (fun c10 => ?_)
      · refine K_aload_n dX3_ring_15 rfl rfl ?_
        refine K_getR (r := 2) dX3_ring_16 fl_X3_15 rfl rfl rfl rfl ?_
        refine K_iload_n dX3_ring_19 rfl rfl ?_
        refine K_iald dX3_ring_20 (by first | rfl | exact sk_rk (by omega) | exact sk_hh (by omega)) (by first | omega | fail) (by decide) (by first | assumption | rfl) rfl ?_
        refine K_iconst (v := (-1)) dX3_ring_21 (by decide) rfl ?_
        refine K_icmp_eqO (tgt := 32) dX3_ring_22 (by decide) rfl (by first | assumption | fail) (fun c22 => ?_) (fun c22 => ?_)
        · refine K_iconst (v := nI 0) dX3_ring_32 (by decide) rfl ?_
          refine K_iret dX3_ring_33 rfl ?_
          exact ⟨rfl, R0, FX.c0 N⟩
        · refine K_aload_n dX3_ring_25 rfl rfl ?_
          refine K_cv (ci := 3) (d1 := d - 1) [] dX3_ring_26 ml_X3_167 (by decide) rfl rfl rfl (Nat.le_of_ble_eq_true rfl) hcl (by omega) rfl ?_
          refine K_if_eqN (tgt := 34) dX3_ring_29 (by decide) rfl (by first | omega | fail) (fun c29 => ?_) (fun c29 => ?_)
          · rcases hz with z | z; exact absurd z c22; exact absurd c29 z
          · refine K_iconst (v := nI 0) dX3_ring_32 (by decide) rfl ?_
            refine K_iret dX3_ring_33 rfl ?_
            exact ⟨rfl, R0, FX.c0 N⟩
      · rw [hx] at c10; cases c10
    · rw [if_neg hz]
      refine CK.start [(0, _), (1, _)] (plainFor_of_name (by decide)) (Nat.le_of_ble_eq_true rfl) rfl ?_
      refine K_aload_n dX3_ring_0 rfl rfl ?_
      refine K_iconst (v := nI 0) dX3_ring_1 (by decide) rfl ?_
      refine K_putZ dX3_ring_2 fl_X3_61 (by first | rfl | exact sk_rk (by omega) | exact sk_hh (by omega)) rfl rfl rfl (by first | exact bI_01 _ | exact Or.inl rfl | exact Or.inr rfl | assumption) rfl ?_
      refine K_aload_n dX3_ring_5 rfl rfl ?_
      refine K_iload_n dX3_ring_6 rfl rfl ?_
      refine K_cv (ci := 3) (d1 := d - 1) [_] dX3_ring_7 ml_X3_74 (by decide) rfl rfl rfl (Nat.le_of_ble_eq_true rfl) (c_X3_isFamily h7) (by omega) rfl ?_
      refine K_if_neB (tgt := 15) dX3_ring_10 (by decide) rfl (fun c10 => ?_) (fun c10 => ?_)
      · refine K_aload_n dX3_ring_15 rfl rfl ?_
        refine K_getR (r := 2) dX3_ring_16 fl_X3_15 rfl rfl rfl rfl ?_
        refine K_iload_n dX3_ring_19 rfl rfl ?_
        refine K_iald dX3_ring_20 (by first | rfl | exact sk_rk (by omega) | exact sk_hh (by omega)) (by first | omega | fail) (by decide) (by first | assumption | rfl) rfl ?_
        refine K_iconst (v := (-1)) dX3_ring_21 (by decide) rfl ?_
        refine K_icmp_eqO (tgt := 32) dX3_ring_22 (by decide) rfl (by first | assumption | fail) (fun c22 => ?_) (fun c22 => ?_)
        · exact absurd (Or.inl c22) hz
        · refine K_aload_n dX3_ring_25 rfl rfl ?_
          refine K_cv (ci := 3) (d1 := d - 1) [] dX3_ring_26 ml_X3_167 (by decide) rfl rfl rfl (Nat.le_of_ble_eq_true rfl) hcl (by omega) rfl ?_
          refine K_if_eqN (tgt := 34) dX3_ring_29 (by decide) rfl (by first | omega | fail) (fun c29 => ?_) (fun c29 => ?_)
          · refine K_aload_n dX3_ring_34 rfl rfl ?_
            refine K_iload_n dX3_ring_35 rfl rfl ?_
            refine K_cv (ci := 3) (d1 := d - 1) [_] dX3_ring_36 ml_X3_205 (by decide) rfl rfl rfl (Nat.le_of_ble_eq_true rfl) hrl (by omega) rfl ?_
            refine K_istore_n (lv' := [(0, _), (1, _), (2, _)]) dX3_ring_39 (by decide) rfl rfl ?_
            refine K_iload_n dX3_ring_40 rfl rfl ?_
            refine K_istore_n (lv' := [(0, _), (1, _), (2, _), (3, _)]) dX3_ring_41 (by decide) rfl rfl ?_
            refine K_iconst (v := nI 0) dX3_ring_42 (by decide) rfl ?_
            refine K_istore (lv' := [(0, _), (1, _), (2, _), (3, _), (4, _)]) dX3_ring_43 (by decide) rfl rfl ?_
            exact l_X3_ring (S := gC S) (by omega) R0 w0 (FX.c0 N) hf c29 c22 (s_rl_le S f) (by unfold s_rl; omega) (s_rl S f) 0 _ (by omega) (fun _ _ => rfl) (fun j hj => absurd hj (Nat.not_lt_zero j))
          · exact absurd (Or.inr c29) hz
      · rw [hx] at c10; cases c10
