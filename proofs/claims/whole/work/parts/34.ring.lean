/-! In a plan that closes every way comes back: its length is s_rl -/
theorem closed_inj {S : GS} (h : s_fc S = 0) {a b g : Nat} (ha : a < s_n S) (hb : b < s_n S) (pa : s_pl S a = some g) (pb : s_pl S b = some g) : a = b := by
  have h2 := fnd_no (fc_zero h).2.1 a ha
  rcases Nat.lt_or_ge a b with e | e
  · exfalso
    have h3 : s_f2 S a = true := by
      simp only [s_f2, go_t (show s_pl S a ≠ none by rw [pa]; exact fun z => by cases z), rv_iff.mpr ⟨b, hb, by omega, pb.trans pa.symm⟩]
      rfl
    rw [h2] at h3
    cases h3
  · rcases Nat.lt_or_ge b a with e2 | e2
    · exfalso
      have h3 : s_f2 S a = true := by
        simp only [s_f2, go_t (show s_pl S a ≠ none by rw [pa]; exact fun z => by cases z), rv_iff.mpr ⟨b, hb, by omega, pb.trans pa.symm⟩]
        rfl
      rw [h2] at h3
      cases h3
    · omega
theorem it_back {S : GS} (h : s_fc S = 0) (w : WF S) {f : Nat} (hf : f < s_n S) (hp : s_pl S f ≠ none) : ∀ i j, i ≤ j → itF (s_pl S) f i = itF (s_pl S) f j → itF (s_pl S) f (j - i) = f
  | 0, j, _, e => by
    rw [Nat.sub_zero, ← e]
    rfl
  | i + 1, j, hij, e => by
    obtain ⟨j, rfl⟩ : ∃ k, j = k + 1 := ⟨j - 1, by omega⟩
    have h1 := it_ok h w hf hp i
    have h2 := it_ok h w hf hp j
    have h3 := closed_inj h h1.1 h2.1 h1.2 (by rw [e]; exact h2.2)
    have := it_back h w hf hp i j (by omega) h3
    rw [show j + 1 - (i + 1) = j - i by omega]
    exact this
theorem it_comes {S : GS} (h : s_fc S = 0) (w : WF S) {f : Nat} (hf : f < s_n S) (hp : s_pl S f ≠ none) : ∃ m, 1 ≤ m ∧ m ≤ s_n S ∧ itF (s_pl S) f m = f := by
  apply Classical.byContradiction
  intro hno
  have := pigeon (s_n S) (s_n S + 1) (itF (s_pl S) f) (fun i _ => (it_ok h w hf hp i).1) (fun i j hij hj e => hno ⟨j - i, by omega, by omega, it_back h w hf hp i j (by omega) e⟩)
  omega
theorem rlF_it {S : GS} (h : s_fc S = 0) (w : WF S) {f m : Nat} (hf : f < s_n S) (hp : s_pl S f ≠ none) (hm : itF (s_pl S) f m = f) (hl : ∀ i, 1 ≤ i → i < m → itF (s_pl S) f i ≠ f) : ∀ k c, 1 ≤ c → c ≤ m → m - c ≤ k → rlF (s_pl S) f k (some (itF (s_pl S) f c)) = m - c
  | 0, c, h1, h2, h3 => by
    show 0 = m - c
    omega
  | k + 1, c, h1, h2, h3 => by
    unfold rlF
    rcases Nat.lt_or_ge c m with e | e
    · rw [if_neg (hl c h1 e), (it_ok h w hf hp c).2, rlF_it h w hf hp hm hl k (c + 1) (by omega) (by omega) (by omega)]
      omega
    · obtain rfl : c = m := by omega
      rw [if_pos hm]
      omega
theorem ring_len {S : GS} (h : s_fc S = 0) (w : WF S) {f : Nat} (hf : f < s_n S) (hp : s_pl S f ≠ none) : (1 ≤ s_rl S f ∧ s_rl S f ≤ s_n S) ∧ itF (s_pl S) f (s_rl S f) = f ∧ ∀ i, 1 ≤ i → i < s_rl S f → itF (s_pl S) f i ≠ f := by
  have hn := w.1.1
  obtain ⟨m, ⟨m1, m2, m3⟩, ml⟩ := pk_least (fun m => 1 ≤ m ∧ m ≤ s_n S ∧ itF (s_pl S) f m = f) (it_comes h w hf hp)
  have hl : ∀ i, 1 ≤ i → i < m → itF (s_pl S) f i ≠ f := fun i h1 h2 e => ml i h2 ⟨h1, by omega, e⟩
  have hr : s_rl S f = m := by
    have h1 := rlF_it h w hf hp m3 hl 9 1 (by omega) (by omega) (by omega)
    unfold s_rl
    rw [show s_pl S f = some (itF (s_pl S) f 1) from (it_ok h w hf hp 0).2, h1]
    omega
  rw [hr]
  exact ⟨⟨m1, m2⟩, m3, hl⟩
theorem l_X4_ringOf {d : Nat} {S : GS} {N : Mem} {K : Mej} (R : RY S N) (w : WF S) (h0 : s_fc S = 0) {f : Nat} (hf : f < s_n S) (hp : s_pl S f ≠ none) : ∀ k c : Nat, c + k = s_rl S f → 1 ≤ c → EK d mX4_ringOf (PX (some (.int (nI (s_rl S f)))) N K) 9 [(0, .ref 40), (1, .int (nI f)), (2, .int (nI c)), (3, .int (nI (itF (s_pl S) f c)))] [] N K
  | 0, c, e, h1 => by
    obtain rfl : c = s_rl S f := by omega
    have hn := w.1.1
    obtain ⟨-, hm, -⟩ := ring_len h0 w hf hp
    rw [hm]
    refine K_iload_n dX4_ringOf_9 rfl rfl ?_
    refine K_iload_n dX4_ringOf_10 rfl rfl ?_
    refine K_icmp_eqN (tgt := 27) dX4_ringOf_11 (by decide) rfl (by first | omega | fail) (by first | omega | fail) (fun c11 => ?_) (fun c11 => ?_)
    · refine K_iload_n dX4_ringOf_27 rfl rfl ?_
      refine K_iret dX4_ringOf_28 rfl ?_
      exact ⟨rfl, rfl, rfl⟩
    · exact absurd rfl c11
  | k + 1, c, e, h1 => by
    have hn := w.1.1
    have ih := l_X4_ringOf (d := d) (K := K) R w h0 hf hp k (c + 1) (by omega) (by omega)
    obtain ⟨-, -, hl⟩ := ring_len h0 w hf hp
    obtain ⟨q1, q2⟩ := it_ok h0 w hf hp c
    have h2 : N 55 (itF (s_pl S) f c) = nI (itF (s_pl S) f (c + 1)) := by
      rw [(R.2.1 _ q1).2.2.2.2.2.2.2.2.2, q2]
      rfl
    refine K_iload_n dX4_ringOf_9 rfl rfl ?_
    refine K_iload_n dX4_ringOf_10 rfl rfl ?_
    refine K_icmp_eqN (tgt := 27) dX4_ringOf_11 (by decide) rfl (by first | omega | fail) (by first | omega | fail) (fun c11 => ?_) (fun c11 => ?_)
    · exact absurd c11 (hl c h1 (by omega))
    · first | refine K_incN (lv' := [(0, _), (1, _), (2, _), (3, _)]) dX4_ringOf_14 rfl (by decide) rfl rfl ?_ | refine K_iinc (lv' := [(0, _), (1, _), (2, _), (3, _)]) dX4_ringOf_14 rfl rfl (by decide) rfl rfl ?_
      refine K_aload_n dX4_ringOf_17 rfl rfl ?_
      refine K_getR (r := 55) dX4_ringOf_18 fl_X4_50 rfl rfl rfl rfl ?_
      refine K_iload_n dX4_ringOf_21 rfl rfl ?_
      refine K_iald dX4_ringOf_22 (by first | rfl | exact sk_rk (by omega) | exact sk_hh (by omega)) (by first | omega | fail) (by decide) (by first | assumption | rfl) rfl ?_
      refine K_istore_n (lv' := [(0, _), (1, _), (2, _), (3, _)]) dX4_ringOf_23 (by decide) rfl rfl ?_
      refine K_goto (tgt := 9) dX4_ringOf_24 (by decide) ?_
      exact ih
set_option maxRecDepth 100000 in
theorem c_X4_ringOf {d : Nat} {S : GS} {N : Mem} {K : Mej} (R : RY S N) (w : WF S) (h0 : s_fc S = 0) {f : Nat} (hf : f < s_n S) (hp : s_pl S f ≠ none) : CK d mX4_ringOf [.ref 40, .int (nI f)] N K (PX (some (.int (nI (s_rl S f)))) N K) := by
  have hn := w.1.1
  have hl := (ring_len h0 w hf hp).1
  have hq : N 55 f = nI (itF (s_pl S) f 1) := by
    rw [(R.2.1 f hf).2.2.2.2.2.2.2.2.2, show s_pl S f = some (itF (s_pl S) f 1) from (it_ok h0 w hf hp 0).2]
    rfl
  refine CK.start [(0, _), (1, _)] (plainFor_of_name (by decide)) (Nat.le_of_ble_eq_true rfl) rfl ?_
  refine K_iconst (v := nI 1) dX4_ringOf_0 (by decide) rfl ?_
  refine K_istore_n (lv' := [(0, _), (1, _), (2, _)]) dX4_ringOf_1 (by decide) rfl rfl ?_
  refine K_aload_n dX4_ringOf_2 rfl rfl ?_
  refine K_getR (r := 55) dX4_ringOf_3 fl_X4_50 rfl rfl rfl rfl ?_
  refine K_iload_n dX4_ringOf_6 rfl rfl ?_
  refine K_iald dX4_ringOf_7 (by first | rfl | exact sk_rk (by omega) | exact sk_hh (by omega)) (by first | omega | fail) (by decide) (by first | assumption | rfl) rfl ?_
  refine K_istore_n (lv' := [(0, _), (1, _), (2, _), (3, _)]) dX4_ringOf_8 (by decide) rfl rfl ?_
  exact l_X4_ringOf R w h0 hf hp (s_rl S f - 1) 1 (by omega) (by omega)
theorem go_ne {S : GS} {f : Nat} (h : s_go S f = true) : s_pl S f ≠ none := fun e => by
  rw [go_f e] at h
  cases h
theorem l_X4_wrong {d : Nat} (hd : 4 ≤ d) {S : GS} {N : Mem} {K : Mej} {Post : PK} (R : RY S N) (w : WF S) {r : Nat} (hr : r < 100) (hP : Post (some (.int (nI r))) N K) : ∀ k i v : Nat, i + k = s_n S → v < 100 → ((v ≠ 0 ∧ v = r) ∨ (v = 0 ∧ s_fc S = 0 ∧ r = s_fl S ∧ ∀ j, j < i → s_f4 S j = false)) → EK d mX4_wrong Post 12 [(0, .ref 40), (1, .int (nI v)), (2, .int (nI i))] [] N K
  | 0, i, v, e, hv, hc => by
    obtain rfl : i = s_n S := by omega
    have hn := w.1.1
    have h0 := R.1.1
    have hvr : v = r := by
      rcases hc with h | ⟨h1, h2, h3, h4⟩
      · exact h.2
      · rw [h1, h3, s_fl, fnd_none h4]
    subst hvr
    refine K_iload_n dX4_wrong_12 rfl rfl ?_
    refine K_aload_n dX4_wrong_13 rfl rfl ?_
    refine K_getI dX4_wrong_14 fl_X4_87 (by first | rfl | exact sk_rk (by omega) | exact sk_hh (by omega)) rfl (by first | assumption | rfl) rfl ?_
    refine K_icmp_geN (tgt := 55) dX4_wrong_17 (by decide) rfl (by first | omega | fail) (by first | omega | fail) (fun c17 => ?_) (fun c17 => ?_)
    · refine K_iload_n dX4_wrong_55 rfl rfl ?_
      refine K_iret dX4_wrong_56 rfl ?_
      exact hP
    · omega
  | k + 1, i, v, e, hv, hc => by
    have hn := w.1.1
    have h0 := R.1.1
    have hm := R.1.2.2.1
    have hm2 := w.1.2.2.2.2.1
    have hrl := s_rl_le S i
    have ih := fun v2 => l_X4_wrong hd R w hr hP k (i + 1) v2 (by omega)
    by_cases hz : v = 0
    · obtain ⟨z1, z2, z3, z4⟩ : v = 0 ∧ s_fc S = 0 ∧ r = s_fl S ∧ ∀ j, j < i → s_f4 S j = false := by
        rcases hc with h | h
        · exact absurd hz h.1
        · exact h
      have hro : s_go S i = true → CK (d - 1) mX4_ringOf [.ref 40, .int (nI i)] N K (PX (some (.int (nI (s_rl S i)))) N K) := fun hg => c_X4_ringOf R w z2 (by omega) (go_ne hg)
      subst hz
      refine K_iload_n dX4_wrong_12 rfl rfl ?_
      refine K_aload_n dX4_wrong_13 rfl rfl ?_
      refine K_getI dX4_wrong_14 fl_X4_87 (by first | rfl | exact sk_rk (by omega) | exact sk_hh (by omega)) rfl (by first | assumption | rfl) rfl ?_
      refine K_icmp_geN (tgt := 55) dX4_wrong_17 (by decide) rfl (by first | omega | fail) (by first | omega | fail) (fun c17 => ?_) (fun c17 => ?_)
      · omega
      · refine K_iload_n dX4_wrong_20 rfl rfl ?_
        refine K_if_neN (tgt := 55) dX4_wrong_21 (by decide) rfl (by first | omega | fail) (fun c21 => ?_) (fun c21 => ?_)
        · exact absurd rfl c21
        · refine K_aload_n dX4_wrong_24 rfl rfl ?_
          refine K_iload_n dX4_wrong_25 rfl rfl ?_
          refine K_cv (ci := 4) (d1 := d - 1) [_] dX4_wrong_26 ml_X4_145 (by decide) rfl rfl rfl (Nat.le_of_ble_eq_true rfl) (c_X4_goesAtAll R w (by omega)) (by omega) rfl ?_
          refine K_if_eqB (tgt := 49) dX4_wrong_29 (by decide) rfl (fun c29 => ?_) (fun c29 => ?_)
          · first | refine K_incN (lv' := [(0, _), (1, _), (2, _)]) dX4_wrong_49 rfl (by decide) rfl rfl ?_ | refine K_iinc (lv' := [(0, _), (1, _), (2, _)]) dX4_wrong_49 rfl rfl (by decide) rfl rfl ?_
            refine K_goto (tgt := 12) dX4_wrong_52 (by decide) ?_
            first | exact ih 0 (by omega) (Or.inr ⟨rfl, z2, z3, below_s z4 (by simp only [s_f4, c29]; rfl)⟩) | exact ih 0 (by omega) (Or.inr ⟨rfl, z2, z3, below_s z4 (by simp only [s_f4, decide_eq_false (Nat.not_lt.mpr c41)]; simp)⟩) | exact ih (40 + i) (by omega) (Or.inl ⟨by omega, by rw [z3, s_fl, fnd_first (p := s_f4 S) (i := i) (by simp only [s_f4, c29, decide_eq_true c41]; rfl) z4 (by omega)]⟩)
          · refine K_aload_n dX4_wrong_32 rfl rfl ?_
            refine K_iload_n dX4_wrong_33 rfl rfl ?_
            refine K_cv (ci := 4) (d1 := d - 1) [_] dX4_wrong_34 ml_X4_158 (by decide) rfl rfl rfl (Nat.le_of_ble_eq_true rfl) (hro c29) (by omega) rfl ?_
            refine K_aload_n dX4_wrong_37 rfl rfl ?_
            refine K_getI dX4_wrong_38 fl_X4_57 (by first | rfl | exact sk_rk (by omega) | exact sk_hh (by omega)) rfl (by first | assumption | rfl) rfl ?_
            refine K_icmp_leN (tgt := 49) dX4_wrong_41 (by decide) rfl (by first | omega | fail) (by first | omega | fail) (fun c41 => ?_) (fun c41 => ?_)
            · first | refine K_incN (lv' := [(0, _), (1, _), (2, _)]) dX4_wrong_49 rfl (by decide) rfl rfl ?_ | refine K_iinc (lv' := [(0, _), (1, _), (2, _)]) dX4_wrong_49 rfl rfl (by decide) rfl rfl ?_
              refine K_goto (tgt := 12) dX4_wrong_52 (by decide) ?_
              first | exact ih 0 (by omega) (Or.inr ⟨rfl, z2, z3, below_s z4 (by simp only [s_f4, c29]; rfl)⟩) | exact ih 0 (by omega) (Or.inr ⟨rfl, z2, z3, below_s z4 (by simp only [s_f4, decide_eq_false (Nat.not_lt.mpr c41)]; simp)⟩) | exact ih (40 + i) (by omega) (Or.inl ⟨by omega, by rw [z3, s_fl, fnd_first (p := s_f4 S) (i := i) (by simp only [s_f4, c29, decide_eq_true c41]; rfl) z4 (by omega)]⟩)
            · refine K_bipush (v := nI 40) dX4_wrong_44 (by decide) rfl ?_
              refine K_iload_n dX4_wrong_46 rfl rfl ?_
              refine K_addN dX4_wrong_47 rfl ?_
              refine K_istore_n (lv' := [(0, _), (1, _), (2, _)]) dX4_wrong_48 (by decide) rfl rfl ?_
              first | refine K_incN (lv' := [(0, _), (1, _), (2, _)]) dX4_wrong_49 rfl (by decide) rfl rfl ?_ | refine K_iinc (lv' := [(0, _), (1, _), (2, _)]) dX4_wrong_49 rfl rfl (by decide) rfl rfl ?_
              refine K_goto (tgt := 12) dX4_wrong_52 (by decide) ?_
              first | exact ih 0 (by omega) (Or.inr ⟨rfl, z2, z3, below_s z4 (by simp only [s_f4, c29]; rfl)⟩) | exact ih 0 (by omega) (Or.inr ⟨rfl, z2, z3, below_s z4 (by simp only [s_f4, decide_eq_false (Nat.not_lt.mpr c41)]; simp)⟩) | exact ih (40 + i) (by omega) (Or.inl ⟨by omega, by rw [z3, s_fl, fnd_first (p := s_f4 S) (i := i) (by simp only [s_f4, c29, decide_eq_true c41]; rfl) z4 (by omega)]⟩)
    · have hv2 : v = r := by
        rcases hc with h | h
        · exact h.2
        · exact absurd h.1 hz
      subst hv2
      refine K_iload_n dX4_wrong_12 rfl rfl ?_
      refine K_aload_n dX4_wrong_13 rfl rfl ?_
      refine K_getI dX4_wrong_14 fl_X4_87 (by first | rfl | exact sk_rk (by omega) | exact sk_hh (by omega)) rfl (by first | assumption | rfl) rfl ?_
      refine K_icmp_geN (tgt := 55) dX4_wrong_17 (by decide) rfl (by first | omega | fail) (by first | omega | fail) (fun c17 => ?_) (fun c17 => ?_)
      · omega
      · refine K_iload_n dX4_wrong_20 rfl rfl ?_
        refine K_if_neN (tgt := 55) dX4_wrong_21 (by decide) rfl (by first | omega | fail) (fun c21 => ?_) (fun c21 => ?_)
        · refine K_iload_n dX4_wrong_55 rfl rfl ?_
          refine K_iret dX4_wrong_56 rfl ?_
          exact hP
        · exact absurd c21 hz
set_option maxRecDepth 100000 in
theorem c_X4_wrong {d : Nat} (hd : 4 ≤ d) {S : GS} {N : Mem} {K : Mej} (R : RY S N) (w : WF S) : CK d mX4_wrong [.ref 40] N K (PRY (nI (if s_fc S = 0 then s_fl S else s_fc S)) S N K) := by
  have R0 := R.thr (nI 0)
  have hl := s_fc_lt w
  have hn := w.1.1
  have hfl : s_fl S < 100 := by
    unfold s_fl
    split
    · next f h => have := (fnd_lt h).1; omega
    · omega
  refine CK.start [(0, _)] (plainFor_of_name (by decide)) (Nat.le_of_ble_eq_true rfl) rfl ?_
  refine K_aload_n dX4_wrong_0 rfl rfl ?_
  refine K_iconst (v := nI 0) dX4_wrong_1 (by decide) rfl ?_
  refine K_putI dX4_wrong_2 fl_X4_84 (by first | rfl | exact sk_rk (by omega) | exact sk_hh (by omega)) rfl rfl rfl rfl ?_
  refine K_aload_n dX4_wrong_5 rfl rfl ?_
  refine K_cv (ci := 4) (d1 := d - 1) [] dX4_wrong_6 ml_X4_154 (by decide) rfl rfl rfl (Nat.le_of_ble_eq_true rfl) (c_X4_open (by omega) R0 w) (by omega) rfl ?_
  refine K_istore_n (lv' := [(0, _), (1, _)]) dX4_wrong_9 (by decide) rfl rfl ?_
  refine K_iconst (v := nI 0) dX4_wrong_10 (by decide) rfl ?_
  refine K_istore_n (lv' := [(0, _), (1, _), (2, _)]) dX4_wrong_11 (by decide) rfl rfl ?_
  refine l_X4_wrong hd R0 w (r := if s_fc S = 0 then s_fl S else s_fc S) (by split <;> omega) ⟨rfl, R0, FY.t0 N, rfl⟩ (s_n S) 0 (s_fc S) (by omega) (by omega) ?_
  by_cases e : s_fc S = 0
  · exact Or.inr ⟨e, e, by rw [if_pos e], fun j hj => absurd hj (Nat.not_lt_zero j)⟩
  · exact Or.inl ⟨e, by rw [if_neg e]⟩
