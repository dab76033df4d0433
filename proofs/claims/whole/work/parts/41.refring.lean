theorem RY.tell {S : GS} {N N1 : Mem} (R : RY S N) (hs : s_ch S = false) {m : Nat} {td : Nat → Nat} (h40 : ∀ j, j ≠ 29 → N1 40 j = N 40 j) (h29 : N1 40 29 = nI m) (hrow : ∀ r, (42 ≤ r ∧ r ≤ 55) ∨ r = 75 → N1 r = N r) (ht : ∀ i, i < m → N1 70 i = nI (td i)) : RY (tellG S m td) N1 := by
  refine ⟨?_, fun f hf => ?_, fun f hf => ?_, fun y f hy hf => ?_, fun i hi => ?_⟩
  · obtain ⟨a1, a2, a3, a4, a5, a6, a7⟩ := R.1
    refine ⟨(h40 1 (by decide)).trans a1, (h40 16 (by decide)).trans a2, (h40 17 (by decide)).trans a3, (h40 18 (by decide)).trans a4, ?_, h29, (h40 34 (by decide)).trans a7⟩
    rw [h40 19 (by decide), a5, hs, show s_ch (tellG S m td) = false from hs]
    rfl
  · rw [hrow 42 (by decide), hrow 43 (by decide), hrow 44 (by decide), hrow 45 (by decide), hrow 46 (by decide), hrow 47 (by decide), hrow 48 (by decide), hrow 49 (by decide), hrow 51 (by decide), hrow 55 (by decide)]
    exact R.2.1 f hf
  · rw [hrow 50 (by decide), hrow 52 (by decide), hrow 53 (by decide), hrow 54 (by decide), tellG_wl]
    exact R.2.2.1 f hf
  · rw [hrow 75 (by decide)]
    exact R.2.2.2.1 y f hy hf
  · exact ht i hi
theorem l_X4_tells {d : Nat} {N : Mem} {K : Mej} {m : Nat} {td : Nat → Nat} (hm : m ≤ 10) (hw : ∀ j, j < m → N 71 j = nI (td j)) : ∀ (k i : Nat) (N1 : Mem), i + k = m → (∀ r, r ≠ 70 → N1 r = N r) → (∀ j, j < i → N1 70 j = nI (td j)) → EK d mX4_tells (fun r N2 K2 => r = some (.int (nI m)) ∧ (∀ r, r ≠ 70 → N2 r = N r) ∧ (∀ j, j < m → N2 70 j = nI (td j)) ∧ K2 = K) 7 [(0, .ref 40), (1, .int (nI m)), (2, .int (nI i))] [] N1 K
  | 0, i, N1, h, hr, ht => by
    obtain rfl : i = m := by omega
    refine K_iload_n dX4_tells_7 rfl rfl ?_
    refine K_iload_n dX4_tells_8 rfl rfl ?_
    refine K_icmp_geN (tgt := 30) dX4_tells_9 (by decide) rfl (by first | omega | fail) (by first | omega | fail) (fun c9 => ?_) (fun c9 => ?_)
    · refine K_iload_n dX4_tells_30 rfl rfl ?_
      refine K_iret dX4_tells_31 rfl ?_
      exact ⟨rfl, hr, ht, rfl⟩
    · omega
  | k + 1, i, N1, h, hr, ht => by
    have ih := fun N2 => l_X4_tells (d := d) (K := K) hm hw k (i + 1) N2 (by omega)
    have h71 : N1 71 i = nI (td i) := by
      rw [hr 71 (by decide)]
      exact hw i (by omega)
    refine K_iload_n dX4_tells_7 rfl rfl ?_
    refine K_iload_n dX4_tells_8 rfl rfl ?_
    refine K_icmp_geN (tgt := 30) dX4_tells_9 (by decide) rfl (by first | omega | fail) (by first | omega | fail) (fun c9 => ?_) (fun c9 => ?_)
    · omega
    · refine K_aload_n dX4_tells_12 rfl rfl ?_
      refine K_getR (r := 70) dX4_tells_13 fl_X4_72 rfl rfl rfl rfl ?_
      refine K_iload_n dX4_tells_16 rfl rfl ?_
      refine K_aload_n dX4_tells_17 rfl rfl ?_
      refine K_getR (r := 71) dX4_tells_18 fl_X4_75 rfl rfl rfl rfl ?_
      refine K_iload_n dX4_tells_21 rfl rfl ?_
      refine K_iald dX4_tells_22 (by first | rfl | exact sk_rk (by omega) | exact sk_hh (by omega)) (by first | omega | fail) (by decide) (by first | assumption | rfl) rfl ?_
      refine K_iast dX4_tells_23 (by first | rfl | exact sk_rk (by omega) | exact sk_hh (by omega)) (by first | omega | fail) (by decide) rfl ?_
      first | refine K_incN (lv' := [(0, _), (1, _), (2, _)]) dX4_tells_24 rfl (by decide) rfl rfl ?_ | refine K_iinc (lv' := [(0, _), (1, _), (2, _)]) dX4_tells_24 rfl rfl (by decide) rfl rfl ?_
      refine K_goto (tgt := 7) dX4_tells_27 (by decide) ?_
      refine ih _ (fun r hr2 => (sM_row hr2).trans (hr r hr2)) (fun j hj => ?_)
      rcases Nat.lt_succ_iff_lt_or_eq.mp hj with hj | rfl
      · rw [sM_ne (Or.inr (by omega))]; exact ht j hj
      · exact sM_eq _ _ _ _
set_option maxRecDepth 100000 in
theorem c_X4_tells {d : Nat} {N : Mem} {K : Mej} {m : Nat} {td : Nat → Nat} (hm : m ≤ 10) (hw : ∀ j, j < m → N 71 j = nI (td j)) : CK d mX4_tells [.ref 40, .int (nI m)] N K (fun r N2 K2 => r = some (.int (nI m)) ∧ (∀ r, r ≠ 70 → N2 r = sM N 40 29 (nI m) r) ∧ (∀ j, j < m → N2 70 j = nI (td j)) ∧ K2 = K) := by
  refine CK.start [(0, _), (1, _)] (plainFor_of_name (by decide)) (Nat.le_of_ble_eq_true rfl) rfl ?_
  refine K_aload_n dX4_tells_0 rfl rfl ?_
  refine K_iload_n dX4_tells_1 rfl rfl ?_
  refine K_putI dX4_tells_2 fl_X4_164 (by first | rfl | exact sk_rk (by omega) | exact sk_hh (by omega)) rfl rfl rfl rfl ?_
  refine K_iconst (v := nI 0) dX4_tells_5 (by decide) rfl ?_
  refine K_istore_n (lv' := [(0, _), (1, _), (2, _)]) dX4_tells_6 (by decide) rfl rfl ?_
  exact l_X4_tells (N := sM N 40 29 (nI m)) hm (fun j hj => (show sM N 40 29 (nI m) 71 j = _ from hw j hj)) m 0 _ (by omega) (fun _ _ => rfl) (fun j hj => absurd hj (Nat.not_lt_zero j))
theorem l_X4_ring {d : Nat} (hd : 1 ≤ d) {S : GS} {N0 N : Mem} {K : Mej} (R : RY S N) (hch : s_ch S = false) (w : WF S) (F : FY N0 N) {f : Nat} (hf : f < s_n S) (h0 : s_fc S = 0) (hp : s_pl S f ≠ none) : ∀ (k c : Nat) (N1 : Mem), c + k = s_rl S f → (∀ r, r ≠ 71 → N1 r = N r) → (∀ j, j < c → N1 71 j = nI (itF (s_pl S) f j)) → EK d mX4_ring (PRY (nI (s_rl S f)) (tellG S (s_rl S f) (itF (s_pl S) f)) N0 K) 41 [(0, .ref 40), (1, .int (nI f)), (2, .int (nI c)), (3, .int (nI (itF (s_pl S) f c)))] [] N1 K
  | 0, c, N1, h, hr, ht => by
    obtain rfl : c = s_rl S f := by omega
    have hn := w.1.1
    obtain ⟨⟨r1, r2⟩, hm, hl⟩ := ring_len h0 w hf hp
    rw [hm]
    have hte := c_X4_tells (d := d - 1) (K := K) (N := N1) (m := s_rl S f) (td := itF (s_pl S) f) (by omega) ht
    refine K_iload_n dX4_ring_41 rfl rfl ?_
    refine K_if_eqN (tgt := 50) dX4_ring_42 (by decide) rfl (by first | omega | fail) (fun c42 => ?_) (fun c42 => ?_)
    · omega
    · refine K_iload_n dX4_ring_45 rfl rfl ?_
      refine K_iload_n dX4_ring_46 rfl rfl ?_
      refine K_icmp_eqN (tgt := 70) dX4_ring_47 (by decide) rfl (by first | omega | fail) (by first | omega | fail) (fun c47 => ?_) (fun c47 => ?_)
      · refine K_aload_n dX4_ring_70 rfl rfl ?_
        refine K_iload_n dX4_ring_71 rfl rfl ?_
        refine K_callV (ci := 4) (d1 := d - 1) [_] dX4_ring_72 ml_X4_232 (by decide) rfl rfl rfl (Nat.le_of_ble_eq_true rfl) hte (by omega) rfl ?_
        rintro r N2 K2 ⟨z1, z2, z3, z4⟩
        subst z1
        subst z4
        refine K_iret dX4_ring_75 rfl ?_
        refine ⟨rfl, R.tell hch (fun j hj => ?_) ?_ (fun r hr2 => ?_) z3, fun r hr2 => ?_, rfl⟩
        · rw [z2 40 (by decide), sM_ne (Or.inr hj), hr 40 (by decide)]
        · rw [z2 40 (by decide)]; exact sM_eq _ _ _ _
        · rw [z2 r (by omega), sM_row (by omega), hr r (by omega)]
        · rw [z2 r (by omega), sM_row (by omega), hr r (by omega)]; exact F r hr2
      · exact absurd rfl c47
  | k + 1, c, N1, h, hr, ht => by
    have hn := w.1.1
    obtain ⟨⟨r1, r2⟩, hm, hl⟩ := ring_len h0 w hf hp
    obtain ⟨q1, q2⟩ := it_ok h0 w hf hp c
    have ih := fun N2 => l_X4_ring (K := K) hd R hch w F hf h0 hp k (c + 1) N2 (by omega)
    have h2 : sM N1 71 c (nI (itF (s_pl S) f c)) 55 (itF (s_pl S) f c) = nI (itF (s_pl S) f (c + 1)) := by
      rw [sM_row (by decide), hr 55 (by decide), (R.2.1 _ q1).2.2.2.2.2.2.2.2.2, q2]
      rfl
    have nx : EK d mX4_ring (PRY (nI (s_rl S f)) (tellG S (s_rl S f) (itF (s_pl S) f)) N0 K) 50 [(0, .ref 40), (1, .int (nI f)), (2, .int (nI c)), (3, .int (nI (itF (s_pl S) f c)))] [] N1 K := by
      refine K_aload_n dX4_ring_50 rfl rfl ?_
      refine K_getR (r := 71) dX4_ring_51 fl_X4_75 rfl rfl rfl rfl ?_
      refine K_iload_n dX4_ring_54 rfl rfl ?_
      refine K_iload_n dX4_ring_55 rfl rfl ?_
      refine K_iast dX4_ring_56 (by first | rfl | exact sk_rk (by omega) | exact sk_hh (by omega)) (by first | omega | fail) (by decide) rfl ?_
      first | refine K_incN (lv' := [(0, _), (1, _), (2, _), (3, _)]) dX4_ring_57 rfl (by decide) rfl rfl ?_ | refine K_iinc (lv' := [(0, _), (1, _), (2, _), (3, _)]) dX4_ring_57 rfl rfl (by decide) rfl rfl ?_
      refine K_aload_n dX4_ring_60 rfl rfl ?_
      refine K_getR (r := 55) dX4_ring_61 fl_X4_50 rfl rfl rfl rfl ?_
      refine K_iload_n dX4_ring_64 rfl rfl ?_
      refine K_iald dX4_ring_65 (by first | rfl | exact sk_rk (by omega) | exact sk_hh (by omega)) (by first | omega | fail) (by decide) (by first | assumption | rfl) rfl ?_
      refine K_istore_n (lv' := [(0, _), (1, _), (2, _), (3, _)]) dX4_ring_66 (by decide) rfl rfl ?_
      refine K_goto (tgt := 41) dX4_ring_67 (by decide) ?_
      refine ih _ (fun r hr2 => (sM_row hr2).trans (hr r hr2)) (fun j hj => ?_)
      rcases Nat.lt_succ_iff_lt_or_eq.mp hj with hj | rfl
      · rw [sM_ne (Or.inr (by omega))]; exact ht j hj
      · exact sM_eq _ _ _ _
    refine K_iload_n dX4_ring_41 rfl rfl ?_
    refine K_if_eqN (tgt := 50) dX4_ring_42 (by decide) rfl (by first | omega | fail) (fun c42 => ?_) (fun c42 => ?_)
    · exact nx
    · refine K_iload_n dX4_ring_45 rfl rfl ?_
      refine K_iload_n dX4_ring_46 rfl rfl ?_
      refine K_icmp_eqN (tgt := 70) dX4_ring_47 (by decide) rfl (by first | omega | fail) (by first | omega | fail) (fun c47 => ?_) (fun c47 => ?_)
      · exact absurd c47 (hl c (by omega) (by omega))
      · exact nx
set_option maxRecDepth 100000 in
theorem c_X4_ring {d : Nat} (hd : 4 ≤ d) {S : GS} {N : Mem} {K : Mej} (R : RY S N) (w : WF S) {x : Int32} : CK d mX4_ring [.ref 40, .int x] N K (PRY (o_ring S x).1 (o_ring S x).2 N K) := by
  have R0 := R.c0
  have w0 := w.c0
  have hn := w.1.1
  have hfl := s_fc_lt w
  have h7 : sM (sM N 40 0 (nI 0)) 40 19 (nI 0) 40 1 = nI (s_n S) := R0.1.1
  have hcl : CK (d - 1) mX4_open [.ref 40] (sM (sM N 40 0 (nI 0)) 40 19 (nI 0)) K (PX (some (.int (nI (s_fc S)))) (sM (sM N 40 0 (nI 0)) 40 19 (nI 0)) K) := c_X4_open (S := gC S) (by omega) R0 w0
  cases hx : isF (s_n S) x with
  | false =>
    rw [o_ring, hx]
    refine CK.start [(0, _), (1, _)] (plainFor_of_name (by decide)) (Nat.le_of_ble_eq_true rfl) rfl ?_
    refine K_aload_n dX4_ring_0 rfl rfl ?_
    refine K_iconst (v := nI 0) dX4_ring_1 (by decide) rfl ?_
    refine K_putI dX4_ring_2 fl_X4_84 (by first | rfl | exact sk_rk (by omega) | exact sk_hh (by omega)) rfl rfl rfl rfl ?_
    refine K_aload_n dX4_ring_5 rfl rfl ?_
    refine K_iconst (v := nI 0) dX4_ring_6 (by decide) rfl ?_
    refine K_putI dX4_ring_7 fl_X4_98 (by first | rfl | exact sk_rk (by omega) | exact sk_hh (by omega)) rfl rfl rfl rfl ?_
    refine K_aload_n dX4_ring_10 rfl rfl ?_
    refine K_iload_n dX4_ring_11 rfl rfl ?_
    refine K_cv (ci := 4) (d1 := d - 1) [_] dX4_ring_12 ml_X4_94 (by decide) rfl rfl rfl (Nat.le_of_ble_eq_true rfl) (c_X4_isFamily (by omega) hn h7) (by omega) rfl ?_
    refine K_if_neB (tgt := 20) dX4_ring_15 (by decide) rfl (fun c15 => ?_) (fun c15 => ?_)
    · rw [hx] at c15; cases c15
    · refine K_iconst (v := (-1)) dX4_ring_18 (by decide) rfl ?_
      refine K_iret dX4_ring_19 rfl ?_
      exact ⟨rfl, R0, FY.c0 N, rfl⟩
  | true =>
    obtain ⟨f, hf, rfl⟩ := (isF_iff hn).mp hx
    rw [o_ring, hx, if_pos rfl, nI_clamp (show f < 2 ^ 31 by omega)]
    have hgo : CK (d - 1) mX4_goesAtAll [.ref 40, .int (nI f)] (sM (sM N 40 0 (nI 0)) 40 19 (nI 0)) K (PX (some (.int (bI (s_go S f)))) (sM (sM N 40 0 (nI 0)) 40 19 (nI 0)) K) := c_X4_goesAtAll (S := gC S) R0 w0 hf
    by_cases hz : s_pl S f = none ∨ s_fc S ≠ 0
    · rw [if_pos hz]
      refine CK.start [(0, _), (1, _)] (plainFor_of_name (by decide)) (Nat.le_of_ble_eq_true rfl) rfl ?_
      refine K_aload_n dX4_ring_0 rfl rfl ?_
      refine K_iconst (v := nI 0) dX4_ring_1 (by decide) rfl ?_
      refine K_putI dX4_ring_2 fl_X4_84 (by first | rfl | exact sk_rk (by omega) | exact sk_hh (by omega)) rfl rfl rfl rfl ?_
      refine K_aload_n dX4_ring_5 rfl rfl ?_
      refine K_iconst (v := nI 0) dX4_ring_6 (by decide) rfl ?_
      refine K_putI dX4_ring_7 fl_X4_98 (by first | rfl | exact sk_rk (by omega) | exact sk_hh (by omega)) rfl rfl rfl rfl ?_
      refine K_aload_n dX4_ring_10 rfl rfl ?_
      refine K_iload_n dX4_ring_11 rfl rfl ?_
      refine K_cv (ci := 4) (d1 := d - 1) [_] dX4_ring_12 ml_X4_94 (by decide) rfl rfl rfl (Nat.le_of_ble_eq_true rfl) (c_X4_isFamily (by omega) hn h7) (by omega) rfl ?_
      refine K_if_neB (tgt := 20) dX4_ring_15 (by decide) rfl (fun c15 => ?_) (fun c15 => ?_)
      · refine K_aload_n dX4_ring_20 rfl rfl ?_
        refine K_iload_n dX4_ring_21 rfl rfl ?_
        refine K_cv (ci := 4) (d1 := d - 1) [_] dX4_ring_22 ml_X4_145 (by decide) rfl rfl rfl (Nat.le_of_ble_eq_true rfl) hgo (by omega) rfl ?_
        refine K_if_eqB (tgt := 35) dX4_ring_25 (by decide) rfl (fun c25 => ?_) (fun c25 => ?_)
        · refine K_iconst (v := nI 0) dX4_ring_35 (by decide) rfl ?_
          refine K_iret dX4_ring_36 rfl ?_
          exact ⟨rfl, R0, FY.c0 N, rfl⟩
        · refine K_aload_n dX4_ring_28 rfl rfl ?_
          refine K_cv (ci := 4) (d1 := d - 1) [] dX4_ring_29 ml_X4_154 (by decide) rfl rfl rfl (Nat.le_of_ble_eq_true rfl) hcl (by omega) rfl ?_
          refine K_if_eqN (tgt := 37) dX4_ring_32 (by decide) rfl (by first | omega | fail) (fun c32 => ?_) (fun c32 => ?_)
          · rcases hz with z | z; exact absurd z (go_ne c25); exact absurd c32 z
          · refine K_iconst (v := nI 0) dX4_ring_35 (by decide) rfl ?_
            refine K_iret dX4_ring_36 rfl ?_
            exact ⟨rfl, R0, FY.c0 N, rfl⟩
      · rw [hx] at c15; cases c15
    · rw [if_neg hz]
      refine CK.start [(0, _), (1, _)] (plainFor_of_name (by decide)) (Nat.le_of_ble_eq_true rfl) rfl ?_
      refine K_aload_n dX4_ring_0 rfl rfl ?_
      refine K_iconst (v := nI 0) dX4_ring_1 (by decide) rfl ?_
      refine K_putI dX4_ring_2 fl_X4_84 (by first | rfl | exact sk_rk (by omega) | exact sk_hh (by omega)) rfl rfl rfl rfl ?_
      refine K_aload_n dX4_ring_5 rfl rfl ?_
      refine K_iconst (v := nI 0) dX4_ring_6 (by decide) rfl ?_
      refine K_putI dX4_ring_7 fl_X4_98 (by first | rfl | exact sk_rk (by omega) | exact sk_hh (by omega)) rfl rfl rfl rfl ?_
      refine K_aload_n dX4_ring_10 rfl rfl ?_
      refine K_iload_n dX4_ring_11 rfl rfl ?_
      refine K_cv (ci := 4) (d1 := d - 1) [_] dX4_ring_12 ml_X4_94 (by decide) rfl rfl rfl (Nat.le_of_ble_eq_true rfl) (c_X4_isFamily (by omega) hn h7) (by omega) rfl ?_
      refine K_if_neB (tgt := 20) dX4_ring_15 (by decide) rfl (fun c15 => ?_) (fun c15 => ?_)
      · refine K_aload_n dX4_ring_20 rfl rfl ?_
        refine K_iload_n dX4_ring_21 rfl rfl ?_
        refine K_cv (ci := 4) (d1 := d - 1) [_] dX4_ring_22 ml_X4_145 (by decide) rfl rfl rfl (Nat.le_of_ble_eq_true rfl) hgo (by omega) rfl ?_
        refine K_if_eqB (tgt := 35) dX4_ring_25 (by decide) rfl (fun c25 => ?_) (fun c25 => ?_)
        · exact absurd (Or.inl (by cases hq : s_pl S f with | none => rfl | some g => rw [go_t (by rw [hq]; exact fun h => by cases h)] at c25; cases c25)) hz
        · refine K_aload_n dX4_ring_28 rfl rfl ?_
          refine K_cv (ci := 4) (d1 := d - 1) [] dX4_ring_29 ml_X4_154 (by decide) rfl rfl rfl (Nat.le_of_ble_eq_true rfl) hcl (by omega) rfl ?_
          refine K_if_eqN (tgt := 37) dX4_ring_32 (by decide) rfl (by first | omega | fail) (fun c32 => ?_) (fun c32 => ?_)
          · refine K_iconst (v := nI 0) dX4_ring_37 (by decide) rfl ?_
            refine K_istore_n (lv' := [(0, _), (1, _), (2, _)]) dX4_ring_38 (by decide) rfl rfl ?_
            refine K_iload_n dX4_ring_39 rfl rfl ?_
            refine K_istore_n (lv' := [(0, _), (1, _), (2, _), (3, _)]) dX4_ring_40 (by decide) rfl rfl ?_
            exact l_X4_ring (S := gC S) (by omega) R0 rfl w0 (FY.c0 N) hf c32 (go_ne c25) (s_rl S f) 0 _ (by show 0 + s_rl S f = s_rl S f; omega) (fun _ _ => rfl) (fun j hj => absurd hj (Nat.not_lt_zero j))
          · exact absurd (Or.inr c32) hz
      · rw [hx] at c15; cases c15
