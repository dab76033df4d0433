/-! Math.floorMod; the class's readPlan, replacePlan -/
theorem fm_div {a : Int} (h : -1000000000000000 ≤ a ∧ a ≤ 1000000000000000) : Int64.ofInt a / 25937424601 = Int64.ofInt (a.tdiv 25937424601) ∧ (0 ≤ a → a.tdiv 25937424601 = a / 25937424601) ∧ (a < 0 → a.tdiv 25937424601 = -((-a) / 25937424601)) := by
  have p1 : 0 ≤ a → a.tdiv 25937424601 = a / 25937424601 := fun h0 => Int.tdiv_eq_ediv_of_nonneg h0
  have p2 : a < 0 → a.tdiv 25937424601 = -((-a) / 25937424601) := fun h0 => by
    have e : a = -(-a) := by omega
    rw [e, Int.neg_tdiv, Int.tdiv_eq_ediv_of_nonneg (by omega)]
    simp
  refine ⟨?_, p1, p2⟩
  have bd : -1000000000000000 ≤ a.tdiv 25937424601 ∧ a.tdiv 25937424601 ≤ 1000000000000000 := by
    rcases Int.lt_or_le a 0 with h0 | h0
    · rw [p2 h0]; omega
    · rw [p1 h0]; omega
  apply Int64.toInt_inj.mp
  rw [Int64.toInt_div, Int64.toInt_ofInt_of_le (by omega) (by omega), Int64.toInt_ofInt_of_le (by omega) (by omega), show (25937424601 : Int64).toInt = 25937424601 from by decide, Int.bmod_eq_of_le (by omega) (by omega)]
theorem fm_rem {a : Int} (h : -1000000000000000 ≤ a ∧ a ≤ 1000000000000000) : Int64.ofInt a - Int64.ofInt a / 25937424601 * 25937424601 = Int64.ofInt (a - a.tdiv 25937424601 * 25937424601) := by
  rw [(fm_div h).1, Int64.ofInt_sub, Int64.ofInt_mul]
  rfl
theorem fm_xor {a : Int} (h : -1000000000000000 ≤ a ∧ a ≤ 1000000000000000) : (Int64.ofInt a ^^^ 25937424601) < 0 ↔ a < 0 := by
  have e1 : (Int64.ofInt a).toInt = a := Int64.toInt_ofInt_of_le (by omega) (by omega)
  rw [Int64.lt_iff_toInt_lt]
  have m1 : ∀ x : Int64, x.toInt < (0 : Int64).toInt ↔ x.toBitVec.msb = true := fun x => by
    rw [BitVec.msb_eq_toInt, decide_eq_true_eq]
    exact Iff.rfl
  rw [m1, Int64.toBitVec_xor, BitVec.msb_xor, show ((25937424601 : Int64).toBitVec.msb) = false from by decide, Bool.xor_false, ← m1, e1]
  exact Iff.rfl
set_option maxRecDepth 100000 in
theorem c_J9_floorMod {d : Nat} {N : Mem} {K : Mej} {a : Int} (h : -1000000000000000 ≤ a ∧ a ≤ 1000000000000000) : CK d mJ9_floorMod_f86c9 [.long (Int64.ofInt a), .long 25937424601] N K (PX (some (.long (Int64.ofInt (a % 25937424601)))) N K) := by
  obtain ⟨-, p1, p2⟩ := fm_div h
  have hr := fm_rem h
  have hx := fm_xor h
  have z0 : (0 : Int64) = Int64.ofInt 0 := by decide
  rcases Int.lt_or_le a 0 with h0 | h0
  · have e := p2 h0
    by_cases hm : a - a.tdiv 25937424601 * 25937424601 = 0
    · have e2 : a % 25937424601 = a - a.tdiv 25937424601 * 25937424601 := by rw [e] at hm ⊢; omega
      rw [e2]
      refine CK.start [(0, _), (2, _)] (by decide +kernel) (Nat.le_of_ble_eq_true rfl) rfl ?_
      refine K_lload_n dJ9_floorMod_f86c9_0 rfl rfl ?_
      refine K_lload_n dJ9_floorMod_f86c9_1 rfl rfl ?_
      refine K_lrem dJ9_floorMod_f86c9_2 (by decide) rfl ?_
      rw [hr]
      refine K_lstore (lv' := [(0, _), (2, _), (4, _)]) dJ9_floorMod_f86c9_3 (by decide) rfl rfl ?_
      refine K_lload_n dJ9_floorMod_f86c9_5 rfl rfl ?_
      refine K_lload_n dJ9_floorMod_f86c9_6 rfl rfl ?_
      refine K_lxor dJ9_floorMod_f86c9_7 rfl ?_
      refine K_lconst (v := 0) dJ9_floorMod_f86c9_8 (by decide) rfl ?_
      refine K_lcmp dJ9_floorMod_f86c9_9 rfl ?_
      refine K_if_ge (tgt := 25) dJ9_floorMod_f86c9_10 (by decide) rfl (fun c10 => ?_) (fun c10 => ?_)
      · rw [lg_cmp_ge] at c10; exact absurd (hx.mpr h0) (lg_le_not_lt c10)
      · refine K_lload dJ9_floorMod_f86c9_13 rfl rfl ?_
        refine K_lconst (v := 0) dJ9_floorMod_f86c9_15 (by decide) rfl ?_
        refine K_lcmp dJ9_floorMod_f86c9_16 rfl ?_
        refine K_if_eq (tgt := 25) dJ9_floorMod_f86c9_17 (by decide) rfl (fun c17 => ?_) (fun c17 => ?_)
        · refine K_lload dJ9_floorMod_f86c9_25 rfl rfl ?_
          refine K_lret dJ9_floorMod_f86c9_27 rfl ?_
          exact ⟨rfl, rfl, rfl⟩
        · exact absurd ((lg_cmp_eq _ _).mpr (by rw [hm]; rfl)) c17
    · have e2 : a % 25937424601 = a - a.tdiv 25937424601 * 25937424601 + 25937424601 := by rw [e] at hm ⊢; omega
      have hs : Int64.ofInt (a - a.tdiv 25937424601 * 25937424601) + 25937424601 = Int64.ofInt (a % 25937424601) := by rw [e2, Int64.ofInt_add]; rfl
      have bd : -1000000000000000000 < a - a.tdiv 25937424601 * 25937424601 ∧ a - a.tdiv 25937424601 * 25937424601 < 1000000000000000000 := by rw [e]; omega
      rw [← hs]
      refine CK.start [(0, _), (2, _)] (by decide +kernel) (Nat.le_of_ble_eq_true rfl) rfl ?_
      refine K_lload_n dJ9_floorMod_f86c9_0 rfl rfl ?_
      refine K_lload_n dJ9_floorMod_f86c9_1 rfl rfl ?_
      refine K_lrem dJ9_floorMod_f86c9_2 (by decide) rfl ?_
      rw [hr]
      refine K_lstore (lv' := [(0, _), (2, _), (4, _)]) dJ9_floorMod_f86c9_3 (by decide) rfl rfl ?_
      refine K_lload_n dJ9_floorMod_f86c9_5 rfl rfl ?_
      refine K_lload_n dJ9_floorMod_f86c9_6 rfl rfl ?_
      refine K_lxor dJ9_floorMod_f86c9_7 rfl ?_
      refine K_lconst (v := 0) dJ9_floorMod_f86c9_8 (by decide) rfl ?_
      refine K_lcmp dJ9_floorMod_f86c9_9 rfl ?_
      refine K_if_ge (tgt := 25) dJ9_floorMod_f86c9_10 (by decide) rfl (fun c10 => ?_) (fun c10 => ?_)
      · rw [lg_cmp_ge] at c10; exact absurd (hx.mpr h0) (lg_le_not_lt c10)
      · refine K_lload dJ9_floorMod_f86c9_13 rfl rfl ?_
        refine K_lconst (v := 0) dJ9_floorMod_f86c9_15 (by decide) rfl ?_
        refine K_lcmp dJ9_floorMod_f86c9_16 rfl ?_
        refine K_if_eq (tgt := 25) dJ9_floorMod_f86c9_17 (by decide) rfl (fun c17 => ?_) (fun c17 => ?_)
        · rw [lg_cmp_eq, z0] at c17; have := congrArg Int64.toInt c17; rw [jI_int bd, jI_int ⟨by omega, by omega⟩] at this; exact absurd this hm
        · refine K_lload dJ9_floorMod_f86c9_20 rfl rfl ?_
          refine K_lload_n dJ9_floorMod_f86c9_22 rfl rfl ?_
          refine K_ladd dJ9_floorMod_f86c9_23 rfl ?_
          refine K_lret dJ9_floorMod_f86c9_24 rfl ?_
          exact ⟨rfl, rfl, rfl⟩
  · have e := p1 h0
    have e2 : a % 25937424601 = a - a.tdiv 25937424601 * 25937424601 := by rw [e]; omega
    rw [e2]
    refine CK.start [(0, _), (2, _)] (by decide +kernel) (Nat.le_of_ble_eq_true rfl) rfl ?_
    refine K_lload_n dJ9_floorMod_f86c9_0 rfl rfl ?_
    refine K_lload_n dJ9_floorMod_f86c9_1 rfl rfl ?_
    refine K_lrem dJ9_floorMod_f86c9_2 (by decide) rfl ?_
    rw [hr]
    refine K_lstore (lv' := [(0, _), (2, _), (4, _)]) dJ9_floorMod_f86c9_3 (by decide) rfl rfl ?_
    refine K_lload_n dJ9_floorMod_f86c9_5 rfl rfl ?_
    refine K_lload_n dJ9_floorMod_f86c9_6 rfl rfl ?_
    refine K_lxor dJ9_floorMod_f86c9_7 rfl ?_
    refine K_lconst (v := 0) dJ9_floorMod_f86c9_8 (by decide) rfl ?_
    refine K_lcmp dJ9_floorMod_f86c9_9 rfl ?_
    refine K_if_ge (tgt := 25) dJ9_floorMod_f86c9_10 (by decide) rfl (fun c10 => ?_) (fun c10 => ?_)
    · refine K_lload dJ9_floorMod_f86c9_25 rfl rfl ?_
      refine K_lret dJ9_floorMod_f86c9_27 rfl ?_
      exact ⟨rfl, rfl, rfl⟩
    · rw [lg_cmp_ge] at c10; exact absurd (Int64.not_lt.mp (fun z => by have := hx.mp z; omega)) c10
def Qn (t : Nat → Nat) (n c : Nat) : Nat := if c ≤ n then nm t c else nm t n * 11 ^ (c - n)
theorem Qn_s {t : Nat → Nat} {n c : Nat} (h : ∀ j, j < n → dgt t j ≤ 10) : Qn t n (c + 1) / 11 = Qn t n c ∧ (c < n → Qn t n (c + 1) % 11 = dgt t c) := by
  unfold Qn
  by_cases h1 : c < n
  · rw [if_pos (by omega), if_pos (by omega)]
    have := h c h1
    show (11 * nm t c + dgt t c) / 11 = nm t c ∧ (_ → (11 * nm t c + dgt t c) % 11 = dgt t c)
    omega
  · rw [if_neg (by omega)]
    refine ⟨?_, fun z => absurd z h1⟩
    rw [show c + 1 - n = (c - n) + 1 by omega, Nat.pow_succ, ← Nat.mul_assoc, Nat.mul_div_cancel _ (by decide)]
    by_cases h2 : c ≤ n
    · rw [if_pos h2, show c = n by omega, Nat.sub_self, Nat.pow_zero, Nat.mul_one]
    · rw [if_neg h2]
theorem Qn_10 {t : Nat → Nat} {n : Nat} (hn : n ≤ 10) : Qn t n 10 = nm t n * 11 ^ (10 - n) := by
  unfold Qn
  by_cases h : 10 ≤ n
  · rw [if_pos h, show n = 10 by omega, Nat.sub_self, Nat.pow_zero, Nat.mul_one]
  · rw [if_neg h]
theorem dv_eq {q : Nat} (h : q < 1000000000000) : Int64.ofInt (q : Int) / 11 = Int64.ofInt ((q / 11 : Nat) : Int) := by
  apply Int64.toInt_inj.mp
  rw [Int64.toInt_div, Int64.toInt_ofInt_of_le (by omega) (by omega), Int64.toInt_ofInt_of_le (by omega) (by omega), show (11 : Int64).toInt = 11 from by decide, Int.tdiv_eq_ediv_of_nonneg (by omega), Int.bmod_eq_of_le (by omega) (by omega)]
  omega
theorem dg_eq {q : Nat} (h : q < 1000000000000) : (Int64.ofInt (q : Int) - Int64.ofInt (q : Int) / 11 * 11).toInt32 = nI (q % 11) := by
  rw [dv_eq h, show Int64.ofInt (q : Int) - Int64.ofInt ((q / 11 : Nat) : Int) * 11 = Int64.ofInt ((q % 11 : Nat) : Int) from by
    rw [show ((q % 11 : Nat) : Int) = (q : Int) - ((q / 11 : Nat) : Int) * 11 by omega, Int64.ofInt_sub, Int64.ofInt_mul]
    rfl, Int64.toInt32_ofInt]
  apply Int32.toInt_inj.mp
  rw [nI_toInt (by omega), Int32.toInt_ofInt_of_le (by omega) (by omega)]
def kq (S : GS) (t : Nat → Nat) (f : Nat) : Bool := decide (f < s_n S ∧ t f ≠ f ∧ s_pl S f = some (t f))
theorem kq_10 {S : GS} (hn : s_n S ≤ 10) (t : Nat → Nat) : cnt (kq S t) 10 = kpT S t (s_n S) := by
  have h := cnt_more (p := kq S t) (n := s_n S) (fun i hi => decide_eq_false (fun z => by omega)) (10 - s_n S)
  rw [show s_n S + (10 - s_n S) = 10 by omega] at h
  rw [h]
  exact cnt_agree (fun i hi => by
    unfold kq
    apply decide_eq_decide.mpr
    exact ⟨fun z => z.2, fun z => ⟨hi, z⟩⟩)
theorem l_X1_readPlan {d : Nat} {S : GS} (w : WF S) {t : Nat → Nat} {x1 : Int64} {N : Mem} {K : Mej} (ht : VP S t) (h5 : N 6 5 = nI (s_n S)) (hp : ∀ f, f < 10 → N 2 f = oI (s_pl S f)) :
    ∀ (c kk : Nat) (N1 : Mem), c ≤ 10 → Qn t (s_n S) c < 1000000000000 → kk + cnt (kq S t) c = kpT S t (s_n S) → (∀ i, i ≠ 2 → N1 i = N i) → (∀ f, f < c → N1 2 f = N 2 f) → (∀ f, c ≤ f → f < 10 → N1 2 f = oI (pv (s_n S) t f)) → EK d mX1_readPlan (fun r N1 K1 => r = some (.int (nI (kpT S t (s_n S)))) ∧ K1 = K ∧ (∀ i, i ≠ 2 → N1 i = N i) ∧ ∀ f, f < 10 → N1 2 f = oI (pv (s_n S) t f)) 17 [(0, .ref 6), (1, .long x1), (3, .ref 2), (4, .long (Int64.ofInt (Qn t (s_n S) c : Int))), (6, .int (nI kk)), (7, .int (oI (pr c)))] [] N1 K
  | 0, kk, N1, hc, hq, hk, hF, h1, h2 => by
    have ob := oB_pr (a := 0) (by omega)
    have ek : kk = kpT S t (s_n S) := hk
    subst ek
    refine K_iload dX1_readPlan_17 rfl rfl ?_
    refine K_if_ltO (tgt := 93) dX1_readPlan_19 (by decide) rfl (by first | assumption | fail) (fun c19 => ?_) (fun c19 => ?_)
    · refine K_iload dX1_readPlan_93 rfl rfl ?_
      refine K_iret dX1_readPlan_95 rfl ?_
      exact ⟨rfl, rfl, hF, fun f hf => h2 f (Nat.zero_le f) hf⟩
    · exact absurd rfl c19
  | c + 1, kk, N1, hc, hq, hk, hF, h1, h2 => by
    have hn := w.1.1
    have ob := oB_pr (a := c + 1) (by omega)
    obtain ⟨q1, q2⟩ := Qn_s (t := t) (n := s_n S) (c := c) (ht.dg w)
    have h5' : N1 6 5 = nI (s_n S) := by rw [hF 6 (by decide)]; exact h5
    have h2c : N1 2 c = oI (s_pl S c) := by rw [h1 c (by omega)]; exact hp c (by omega)
    have obc := w.plb (f := c) (by omega)
    have eD := dg_eq hq
    have eV := dv_eq hq
    rw [q1] at eV
    have hq2 : Qn t (s_n S) c < 1000000000000 := by rw [← q1]; omega
    have nx : ∀ k2, k2 + cnt (kq S t) c = kpT S t (s_n S) → ∀ v, v = oI (pv (s_n S) t c) → EK d mX1_readPlan (fun r N1 K1 => r = some (.int (nI (kpT S t (s_n S)))) ∧ K1 = K ∧ (∀ i, i ≠ 2 → N1 i = N i) ∧ ∀ f, f < 10 → N1 2 f = oI (pv (s_n S) t f)) 17 [(0, .ref 6), (1, .long x1), (3, .ref 2), (4, .long (Int64.ofInt (Qn t (s_n S) c : Int))), (6, .int (nI k2)), (7, .int (oI (pr c)))] [] (sM N1 2 c v) K := fun k2 hk2 v hv =>
      l_X1_readPlan w ht h5 hp c k2 (sM N1 2 c v) (by omega) hq2 hk2 (fun i hi => (sM_row hi).trans (hF i hi)) (fun f hf => (sM_ne (Or.inr (by omega))).trans (h1 f (by omega))) (fun f a b => by
        rw [sM_at]
        by_cases e3 : f = c
        · rw [if_pos ⟨rfl, e3⟩, e3]; exact hv
        · rw [if_neg (by omega)]; exact h2 f (by omega) b)
    by_cases hcn : c < s_n S
    · have hd := q2 hcn
      rw [hd] at eD
      have tc := (ht c hcn).1
      by_cases hs : t c = c
      · have e10 : dgt t c = 10 := if_pos hs
        rw [e10] at eD
        have ep : pv (s_n S) t c = none := by unfold pv; rw [if_pos hcn, if_pos hs]
        have ek : cnt (kq S t) (c + 1) = cnt (kq S t) c := cnt_f (decide_eq_false (fun z => z.2.1 hs))
        refine K_iload dX1_readPlan_17 rfl rfl ?_
        refine K_if_ltO (tgt := 93) dX1_readPlan_19 (by decide) rfl (by first | assumption | fail) (fun c19 => ?_) (fun c19 => ?_)
        · cases c19
        · change EK d mX1_readPlan _ 22 [(0, .ref 6), (1, .long x1), (3, .ref 2), (4, .long (Int64.ofInt (Qn t (s_n S) (c + 1) : Int))), (6, .int (nI kk)), (7, .int (nI c))] [] N1 K
          refine K_lload dX1_readPlan_22 rfl rfl ?_
          refine K_ldc2 dX1_readPlan_24 kl_X1_31 rfl ?_
          refine K_lrem dX1_readPlan_27 (by decide) rfl ?_
          refine K_l2i dX1_readPlan_28 rfl ?_
          rw [eD]
          refine K_istore (lv' := [(0, _), (1, _), (3, _), (4, _), (6, _), (7, _), (8, _)]) dX1_readPlan_29 (by decide) rfl rfl ?_
          refine K_lload dX1_readPlan_31 rfl rfl ?_
          refine K_ldc2 dX1_readPlan_33 kl_X1_31 rfl ?_
          refine K_ldiv dX1_readPlan_36 (by decide) rfl ?_
          rw [eV]
          refine K_lstore (lv' := [(0, _), (1, _), (3, _), (4, _), (6, _), (7, _), (8, _)]) dX1_readPlan_37 (by decide) rfl rfl ?_
          refine K_iload dX1_readPlan_39 rfl rfl ?_
          refine K_aload_n dX1_readPlan_41 rfl rfl ?_
          refine K_getI dX1_readPlan_42 fl_X1_27 (by first | rfl | exact sk_rk (by omega) | exact sk_hh (by omega)) rfl (by first | assumption | rfl) rfl ?_
          first | refine K_icmp_geN (tgt := 60) dX1_readPlan_45 (by decide) rfl (by first | omega | fail) (by first | omega | fail) (fun c45 => ?_) (fun c45 => ?_) | refine K_icmp_ge (tgt := 60) dX1_readPlan_45 (by decide) rfl (fun c45 => ?_) (fun c45 => ?_)
          · omega
          · refine K_iload dX1_readPlan_48 rfl rfl ?_
            refine K_bipush (v := nI 10) dX1_readPlan_50 (by decide) rfl ?_
            refine K_icmp_eqN (tgt := 60) dX1_readPlan_52 (by decide) rfl (by first | omega | fail) (by first | omega | fail) (fun c52 => ?_) (fun c52 => ?_)
            · refine K_iconst (v := (-1)) dX1_readPlan_60 (by decide) rfl ?_
              refine K_istore (lv' := [(0, _), (1, _), (3, _), (4, _), (6, _), (7, _), (8, _), (9, _)]) dX1_readPlan_61 (by decide) rfl rfl ?_
              refine K_iload dX1_readPlan_63 rfl rfl ?_
              refine K_iconst (v := (-1)) dX1_readPlan_65 (by decide) rfl ?_
              refine K_icmp_eq (tgt := 81) dX1_readPlan_66 (by decide) rfl (fun c66 => ?_) (fun c66 => ?_)
              · refine K_aload_n dX1_readPlan_81 rfl rfl ?_
                refine K_iload dX1_readPlan_82 rfl rfl ?_
                refine K_iload dX1_readPlan_84 rfl rfl ?_
                refine K_iast dX1_readPlan_86 (by first | rfl | exact sk_rk (by omega) | exact sk_hh (by omega)) (by first | omega | fail) (by decide) rfl ?_
                refine K_decO (lv' := [(0, _), (1, _), (3, _), (4, _), (6, _), (7, _), (8, _), (9, _)]) dX1_readPlan_87 rfl (by decide) rfl rfl ?_
                refine K_goto (tgt := 17) dX1_readPlan_90 (by decide) ?_
                refine K_pick [0, 1, 2, 3, 4, 5] rfl ?_
                exact nx kk (by omega) (-1) (by rw [ep]; first | done | rfl)
              · exact absurd rfl c66
            · omega
      · have e10 : dgt t c = t c := if_neg hs
        rw [e10] at eD
        have ep : pv (s_n S) t c = some (t c) := by unfold pv; rw [if_pos hcn, if_neg hs]
        by_cases hpl : s_pl S c = some (t c)
        · have ek : cnt (kq S t) (c + 1) = cnt (kq S t) c + 1 := cnt_t (decide_eq_true ⟨hcn, hs, hpl⟩)
          refine K_iload dX1_readPlan_17 rfl rfl ?_
          refine K_if_ltO (tgt := 93) dX1_readPlan_19 (by decide) rfl (by first | assumption | fail) (fun c19 => ?_) (fun c19 => ?_)
          · cases c19
          · change EK d mX1_readPlan _ 22 [(0, .ref 6), (1, .long x1), (3, .ref 2), (4, .long (Int64.ofInt (Qn t (s_n S) (c + 1) : Int))), (6, .int (nI kk)), (7, .int (nI c))] [] N1 K
            refine K_lload dX1_readPlan_22 rfl rfl ?_
            refine K_ldc2 dX1_readPlan_24 kl_X1_31 rfl ?_
            refine K_lrem dX1_readPlan_27 (by decide) rfl ?_
            refine K_l2i dX1_readPlan_28 rfl ?_
            rw [eD]
            refine K_istore (lv' := [(0, _), (1, _), (3, _), (4, _), (6, _), (7, _), (8, _)]) dX1_readPlan_29 (by decide) rfl rfl ?_
            refine K_lload dX1_readPlan_31 rfl rfl ?_
            refine K_ldc2 dX1_readPlan_33 kl_X1_31 rfl ?_
            refine K_ldiv dX1_readPlan_36 (by decide) rfl ?_
            rw [eV]
            refine K_lstore (lv' := [(0, _), (1, _), (3, _), (4, _), (6, _), (7, _), (8, _)]) dX1_readPlan_37 (by decide) rfl rfl ?_
            refine K_iload dX1_readPlan_39 rfl rfl ?_
            refine K_aload_n dX1_readPlan_41 rfl rfl ?_
            refine K_getI dX1_readPlan_42 fl_X1_27 (by first | rfl | exact sk_rk (by omega) | exact sk_hh (by omega)) rfl (by first | assumption | rfl) rfl ?_
            first | refine K_icmp_geN (tgt := 60) dX1_readPlan_45 (by decide) rfl (by first | omega | fail) (by first | omega | fail) (fun c45 => ?_) (fun c45 => ?_) | refine K_icmp_ge (tgt := 60) dX1_readPlan_45 (by decide) rfl (fun c45 => ?_) (fun c45 => ?_)
            · omega
            · refine K_iload dX1_readPlan_48 rfl rfl ?_
              refine K_bipush (v := nI 10) dX1_readPlan_50 (by decide) rfl ?_
              refine K_icmp_eqN (tgt := 60) dX1_readPlan_52 (by decide) rfl (by first | omega | fail) (by first | omega | fail) (fun c52 => ?_) (fun c52 => ?_)
              · omega
              · refine K_iload dX1_readPlan_55 rfl rfl ?_
                refine K_goto (tgt := 61) dX1_readPlan_57 (by decide) ?_
                refine K_istore (lv' := [(0, _), (1, _), (3, _), (4, _), (6, _), (7, _), (8, _), (9, _)]) dX1_readPlan_61 (by decide) rfl rfl ?_
                refine K_iload dX1_readPlan_63 rfl rfl ?_
                refine K_iconst (v := (-1)) dX1_readPlan_65 (by decide) rfl ?_
                refine K_icmp_eq (tgt := 81) dX1_readPlan_66 (by decide) rfl (fun c66 => ?_) (fun c66 => ?_)
                · exact absurd c66 (nI_m1 (by omega))
                · refine K_iload dX1_readPlan_69 rfl rfl ?_
                  refine K_aload_n dX1_readPlan_71 rfl rfl ?_
                  refine K_iload dX1_readPlan_72 rfl rfl ?_
                  refine K_iald dX1_readPlan_74 (by first | rfl | exact sk_rk (by omega) | exact sk_hh (by omega)) (by first | omega | fail) (by decide) (by first | assumption | rfl) rfl ?_
                  refine K_icmp_ne (tgt := 81) dX1_readPlan_75 (by decide) rfl (fun c75 => ?_) (fun c75 => ?_)
                  · exact absurd ((oI_some obc (by omega)).mpr hpl).symm c75
                  · first | refine K_incN (lv' := [(0, _), (1, _), (3, _), (4, _), (6, _), (7, _), (8, _), (9, _)]) dX1_readPlan_78 rfl (by decide) rfl rfl ?_ | refine K_iinc (lv' := [(0, _), (1, _), (3, _), (4, _), (6, _), (7, _), (8, _), (9, _)]) dX1_readPlan_78 rfl rfl (by decide) rfl rfl ?_
                    refine K_aload_n dX1_readPlan_81 rfl rfl ?_
                    refine K_iload dX1_readPlan_82 rfl rfl ?_
                    refine K_iload dX1_readPlan_84 rfl rfl ?_
                    refine K_iast dX1_readPlan_86 (by first | rfl | exact sk_rk (by omega) | exact sk_hh (by omega)) (by first | omega | fail) (by decide) rfl ?_
                    refine K_decO (lv' := [(0, _), (1, _), (3, _), (4, _), (6, _), (7, _), (8, _), (9, _)]) dX1_readPlan_87 rfl (by decide) rfl rfl ?_
                    refine K_goto (tgt := 17) dX1_readPlan_90 (by decide) ?_
                    refine K_pick [0, 1, 2, 3, 4, 5] rfl ?_
                    exact nx (kk + 1) (by omega) (nI (t c)) (by rw [ep]; first | done | rfl)
        · have ek : cnt (kq S t) (c + 1) = cnt (kq S t) c := cnt_f (decide_eq_false (fun z => hpl z.2.2))
          refine K_iload dX1_readPlan_17 rfl rfl ?_
          refine K_if_ltO (tgt := 93) dX1_readPlan_19 (by decide) rfl (by first | assumption | fail) (fun c19 => ?_) (fun c19 => ?_)
          · cases c19
          · change EK d mX1_readPlan _ 22 [(0, .ref 6), (1, .long x1), (3, .ref 2), (4, .long (Int64.ofInt (Qn t (s_n S) (c + 1) : Int))), (6, .int (nI kk)), (7, .int (nI c))] [] N1 K
            refine K_lload dX1_readPlan_22 rfl rfl ?_
            refine K_ldc2 dX1_readPlan_24 kl_X1_31 rfl ?_
            refine K_lrem dX1_readPlan_27 (by decide) rfl ?_
            refine K_l2i dX1_readPlan_28 rfl ?_
            rw [eD]
            refine K_istore (lv' := [(0, _), (1, _), (3, _), (4, _), (6, _), (7, _), (8, _)]) dX1_readPlan_29 (by decide) rfl rfl ?_
            refine K_lload dX1_readPlan_31 rfl rfl ?_
            refine K_ldc2 dX1_readPlan_33 kl_X1_31 rfl ?_
            refine K_ldiv dX1_readPlan_36 (by decide) rfl ?_
            rw [eV]
            refine K_lstore (lv' := [(0, _), (1, _), (3, _), (4, _), (6, _), (7, _), (8, _)]) dX1_readPlan_37 (by decide) rfl rfl ?_
            refine K_iload dX1_readPlan_39 rfl rfl ?_
            refine K_aload_n dX1_readPlan_41 rfl rfl ?_
            refine K_getI dX1_readPlan_42 fl_X1_27 (by first | rfl | exact sk_rk (by omega) | exact sk_hh (by omega)) rfl (by first | assumption | rfl) rfl ?_
            first | refine K_icmp_geN (tgt := 60) dX1_readPlan_45 (by decide) rfl (by first | omega | fail) (by first | omega | fail) (fun c45 => ?_) (fun c45 => ?_) | refine K_icmp_ge (tgt := 60) dX1_readPlan_45 (by decide) rfl (fun c45 => ?_) (fun c45 => ?_)
            · omega
            · refine K_iload dX1_readPlan_48 rfl rfl ?_
              refine K_bipush (v := nI 10) dX1_readPlan_50 (by decide) rfl ?_
              refine K_icmp_eqN (tgt := 60) dX1_readPlan_52 (by decide) rfl (by first | omega | fail) (by first | omega | fail) (fun c52 => ?_) (fun c52 => ?_)
              · omega
              · refine K_iload dX1_readPlan_55 rfl rfl ?_
                refine K_goto (tgt := 61) dX1_readPlan_57 (by decide) ?_
                refine K_istore (lv' := [(0, _), (1, _), (3, _), (4, _), (6, _), (7, _), (8, _), (9, _)]) dX1_readPlan_61 (by decide) rfl rfl ?_
                refine K_iload dX1_readPlan_63 rfl rfl ?_
                refine K_iconst (v := (-1)) dX1_readPlan_65 (by decide) rfl ?_
                refine K_icmp_eq (tgt := 81) dX1_readPlan_66 (by decide) rfl (fun c66 => ?_) (fun c66 => ?_)
                · exact absurd c66 (nI_m1 (by omega))
                · refine K_iload dX1_readPlan_69 rfl rfl ?_
                  refine K_aload_n dX1_readPlan_71 rfl rfl ?_
                  refine K_iload dX1_readPlan_72 rfl rfl ?_
                  refine K_iald dX1_readPlan_74 (by first | rfl | exact sk_rk (by omega) | exact sk_hh (by omega)) (by first | omega | fail) (by decide) (by first | assumption | rfl) rfl ?_
                  refine K_icmp_ne (tgt := 81) dX1_readPlan_75 (by decide) rfl (fun c75 => ?_) (fun c75 => ?_)
                  · refine K_aload_n dX1_readPlan_81 rfl rfl ?_
                    refine K_iload dX1_readPlan_82 rfl rfl ?_
                    refine K_iload dX1_readPlan_84 rfl rfl ?_
                    refine K_iast dX1_readPlan_86 (by first | rfl | exact sk_rk (by omega) | exact sk_hh (by omega)) (by first | omega | fail) (by decide) rfl ?_
                    refine K_decO (lv' := [(0, _), (1, _), (3, _), (4, _), (6, _), (7, _), (8, _), (9, _)]) dX1_readPlan_87 rfl (by decide) rfl rfl ?_
                    refine K_goto (tgt := 17) dX1_readPlan_90 (by decide) ?_
                    refine K_pick [0, 1, 2, 3, 4, 5] rfl ?_
                    exact nx kk (by omega) (nI (t c)) (by rw [ep]; first | done | rfl)
                  · exact absurd ((oI_some obc (by omega)).mp c75.symm) hpl
    · have ep : pv (s_n S) t c = none := by unfold pv; rw [if_neg hcn]
      have ek : cnt (kq S t) (c + 1) = cnt (kq S t) c := cnt_f (decide_eq_false (fun z => hcn z.1))
      refine K_iload dX1_readPlan_17 rfl rfl ?_
      refine K_if_ltO (tgt := 93) dX1_readPlan_19 (by decide) rfl (by first | assumption | fail) (fun c19 => ?_) (fun c19 => ?_)
      · cases c19
      · change EK d mX1_readPlan _ 22 [(0, .ref 6), (1, .long x1), (3, .ref 2), (4, .long (Int64.ofInt (Qn t (s_n S) (c + 1) : Int))), (6, .int (nI kk)), (7, .int (nI c))] [] N1 K
        refine K_lload dX1_readPlan_22 rfl rfl ?_
        refine K_ldc2 dX1_readPlan_24 kl_X1_31 rfl ?_
        refine K_lrem dX1_readPlan_27 (by decide) rfl ?_
        refine K_l2i dX1_readPlan_28 rfl ?_
        rw [eD]
        refine K_istore (lv' := [(0, _), (1, _), (3, _), (4, _), (6, _), (7, _), (8, _)]) dX1_readPlan_29 (by decide) rfl rfl ?_
        refine K_lload dX1_readPlan_31 rfl rfl ?_
        refine K_ldc2 dX1_readPlan_33 kl_X1_31 rfl ?_
        refine K_ldiv dX1_readPlan_36 (by decide) rfl ?_
        rw [eV]
        refine K_lstore (lv' := [(0, _), (1, _), (3, _), (4, _), (6, _), (7, _), (8, _)]) dX1_readPlan_37 (by decide) rfl rfl ?_
        refine K_iload dX1_readPlan_39 rfl rfl ?_
        refine K_aload_n dX1_readPlan_41 rfl rfl ?_
        refine K_getI dX1_readPlan_42 fl_X1_27 (by first | rfl | exact sk_rk (by omega) | exact sk_hh (by omega)) rfl (by first | assumption | rfl) rfl ?_
        first | refine K_icmp_geN (tgt := 60) dX1_readPlan_45 (by decide) rfl (by first | omega | fail) (by first | omega | fail) (fun c45 => ?_) (fun c45 => ?_) | refine K_icmp_ge (tgt := 60) dX1_readPlan_45 (by decide) rfl (fun c45 => ?_) (fun c45 => ?_)
        · refine K_iconst (v := (-1)) dX1_readPlan_60 (by decide) rfl ?_
          refine K_istore (lv' := [(0, _), (1, _), (3, _), (4, _), (6, _), (7, _), (8, _), (9, _)]) dX1_readPlan_61 (by decide) rfl rfl ?_
          refine K_iload dX1_readPlan_63 rfl rfl ?_
          refine K_iconst (v := (-1)) dX1_readPlan_65 (by decide) rfl ?_
          refine K_icmp_eq (tgt := 81) dX1_readPlan_66 (by decide) rfl (fun c66 => ?_) (fun c66 => ?_)
          · refine K_aload_n dX1_readPlan_81 rfl rfl ?_
            refine K_iload dX1_readPlan_82 rfl rfl ?_
            refine K_iload dX1_readPlan_84 rfl rfl ?_
            refine K_iast dX1_readPlan_86 (by first | rfl | exact sk_rk (by omega) | exact sk_hh (by omega)) (by first | omega | fail) (by decide) rfl ?_
            refine K_decO (lv' := [(0, _), (1, _), (3, _), (4, _), (6, _), (7, _), (8, _), (9, _)]) dX1_readPlan_87 rfl (by decide) rfl rfl ?_
            refine K_goto (tgt := 17) dX1_readPlan_90 (by decide) ?_
            refine K_pick [0, 1, 2, 3, 4, 5] rfl ?_
            exact nx kk (by omega) (-1) (by rw [ep]; first | done | rfl)
          · exact absurd rfl c66
        · omega
set_option maxRecDepth 100000 in
theorem c_X1_readPlan {d : Nat} (hd : 1 ≤ d) {S : GS} {k : Bool} (w : WF S) {t : Nat → Nat} {N : Mem} {K : Mej} (ht : VP S t) (h5 : N 6 5 = nI (s_n S)) (hp : ∀ f, f < 10 → N 2 f = oI (s_pl S f)) : CK d mX1_readPlan [.ref 6, .long (jO (some (sc S k t))), .ref 2] N K (fun r N1 K1 => r = some (.int (nI (kpT S t (s_n S)))) ∧ K1 = K ∧ (∀ i, i ≠ 2 → N1 i = N i) ∧ ∀ f, f < 10 → N1 2 f = oI (pv (s_n S) t f)) := by
  have hn := w.1.1
  have es := sc_i (S := S) (k := k) (t := t) (s_n S) hn
  have nl := num_lt hn (ht.dg w)
  have bs := sumI_b (h := fun f => cc S k f (t f)) (B := 30000000000000) (by omega) (n := s_n S) (fun i hi => cc_b (by have := (ht i hi).1; omega))
  have e1 : sc S k t = sumI (fun f => cc S k f (t f)) (s_n S) := rfl
  have b2 : -1000000000000000 ≤ -(sc S k t) ∧ -(sc S k t) ≤ 1000000000000000 := by
    rw [e1]
    have : (s_n S : Int) ≤ 10 := by omega
    omega
  have e2 : -(sc S k t) % 25937424601 = (Qn t (s_n S) 10 : Int) := by
    rw [e1, es, Qn_10 hn]
    generalize nm t (s_n S) * 11 ^ (10 - s_n S) = A at *
    generalize sumF (eT S k t) (s_n S) = B at *
    omega
  have hq : Qn t (s_n S) 10 < 1000000000000 := by rw [Qn_10 hn]; omega
  have hfm := c_J9_floorMod (d := d - 1) (N := N) (K := K) b2
  rw [e2, Int64.ofInt_neg] at hfm
  refine CK.start [(0, _), (1, _), (3, _)] (plainFor_of_name (by decide)) (Nat.le_of_ble_eq_true rfl) rfl ?_
  refine K_lload_n dX1_readPlan_0 rfl rfl ?_
  refine K_lneg dX1_readPlan_1 rfl ?_
  refine K_ldc2 dX1_readPlan_2 kl_X1_35 rfl ?_
  refine K_sv (d1 := d - 1) [_, _] dX1_readPlan_5 ml_X1_79 rfl rfl (Nat.le_of_ble_eq_true rfl) hfm (by omega) rfl ?_
  refine K_lstore (lv' := [(0, _), (1, _), (3, _), (4, _)]) dX1_readPlan_8 (by decide) rfl rfl ?_
  refine K_iconst (v := nI 0) dX1_readPlan_10 (by decide) rfl ?_
  refine K_istore (lv' := [(0, _), (1, _), (3, _), (4, _), (6, _)]) dX1_readPlan_11 (by decide) rfl rfl ?_
  refine K_bipush (v := nI 9) dX1_readPlan_13 (by decide) rfl ?_
  refine K_istore (lv' := [(0, _), (1, _), (3, _), (4, _), (6, _), (7, _)]) dX1_readPlan_15 (by decide) rfl rfl ?_
  exact l_X1_readPlan w ht h5 hp 10 0 N (Nat.le_refl 10) hq (by rw [Nat.zero_add]; exact kq_10 hn t) (fun _ _ => rfl) (fun _ _ => rfl) (fun f a b => by omega)
set_option maxRecDepth 100000 in
theorem c_X1_replacePlan {d : Nat} (hd : 4 ≤ d) {S : GS} {k : Bool} (w : WF S) {N : Mem} {K : Mej} (h5 : N 6 5 = nI (s_n S)) (hp : ∀ f, f < 10 → N 2 f = oI (s_pl S f)) (E : ETb S k K) (h11 : ∀ f, f < 10 → K 11 f = pl11 f) : CK d mX1_replacePlan [.ref 6, .ref 2, .int (nI (s_mo S))] N K (fun r N1 K1 => ∃ b, IsB S k b ∧ r = some (.int (nI (kpT S b (s_n S)))) ∧ (∀ f, K1 11 f = K 11 f) ∧ (∀ i, i ≠ 2 → N1 i = N i) ∧ ∀ f, f < 10 → N1 2 f = oI (pv (s_n S) b f)) := by
  have hn := w.1.1
  have hmo := w.1.2.2.2.2.1
  have p0 : 0 < 2 ^ s_n S := Nat.two_pow_pos _
  refine CK.start [(0, _), (1, _), (2, _)] (plainFor_of_name (by decide)) (Nat.le_of_ble_eq_true rfl) rfl ?_
  refine K_aload_n dX1_replacePlan_0 rfl rfl ?_
  refine K_iload_n dX1_replacePlan_1 rfl rfl ?_
  refine K_callV (ci := 1) (d1 := d - 1) [_] dX1_replacePlan_2 ml_X1_37 (by decide) rfl rfl rfl (Nat.le_of_ble_eq_true rfl) (c_X1_findRings (by omega) hn hmo.2 h5 E) (by omega) rfl ?_
  rintro r N2 K2 ⟨z1, z2, z3, R, z4, z5, z6⟩
  subst z1
  subst z2
  have hsa := c_X1_settleAll (d := d - 1) (N := N2) (by omega) w h5 z4 z5 (fun f hf => by rw [z3 11 (by decide) (by decide)]; exact h11 f hf)
  refine K_aload_n dX1_replacePlan_5 rfl rfl ?_
  refine K_callV (ci := 1) (d1 := d - 1) [] dX1_replacePlan_6 ml_X1_41 (by decide) rfl rfl rfl (Nat.le_of_ble_eq_true rfl) hsa (by omega) rfl ?_
  rintro r N3 K3 ⟨y1, y2, y3, D, y4, y5, y6, y7⟩
  subst y1
  subst y2
  obtain ⟨b, b1, b2⟩ := settle_best w z6 y7 y5 y6
  have h15 : K3 15 0 = jO (some (sc S k b)) := by rw [y4 0 p0, b2]
  refine K_aload_n dX1_replacePlan_9 rfl rfl ?_
  refine K_aload_n dX1_replacePlan_10 rfl rfl ?_
  refine K_getR (r := 15) dX1_replacePlan_11 fl_X1_24 rfl rfl rfl rfl ?_
  refine K_iconst (v := nI 0) dX1_replacePlan_14 (by decide) rfl ?_
  refine K_lald dX1_replacePlan_15 (by first | rfl | exact sk_rk (by omega) | exact sk_hh (by omega)) (by first | omega | fail) (by decide) (by first | assumption | rfl) rfl ?_
  refine K_aload_n dX1_replacePlan_16 rfl rfl ?_
  refine K_callV (ci := 1) (d1 := d - 1) [_, _] dX1_replacePlan_17 ml_X1_44 (by decide) rfl rfl rfl (Nat.le_of_ble_eq_true rfl) (c_X1_readPlan (by omega) w b1.1 h5 hp) (by omega) rfl ?_
  rintro r N4 K4 ⟨x1, x2, x3, x4⟩
  subst x1
  subst x2
  refine K_iret dX1_replacePlan_20 rfl ?_
  exact ⟨b, b1, rfl, fun f => by rw [y3 11 (by decide), z3 11 (by decide) (by decide)], x3, x4⟩
