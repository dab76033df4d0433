theorem RY.on {S : GS} {N : Mem} (R : RY S N) : RY (gB S 3 0 0 true) (sM N 40 19 (nI (s_tc S))) := by
  obtain ⟨⟨a1, a2, a3, a4, a5, a6, a7⟩, b, c, d, e⟩ := R
  refine ⟨⟨?_, ?_, ?_, ?_, ?_, ?_, ?_⟩, fun f hf => ?_, fun f hf => ?_, fun y f hy hf => ?_, fun i hi => ?_⟩
  · exact (sM_ne (Or.inr (by decide))).trans a1
  · exact (sM_ne (Or.inr (by decide))).trans a2
  · exact (sM_ne (Or.inr (by decide))).trans a3
  · exact (sM_ne (Or.inr (by decide))).trans a4
  · exact sM_eq _ _ _ _
  · exact (sM_ne (Or.inr (by decide))).trans a6
  · exact (sM_ne (Or.inr (by decide))).trans a7
  · rw [sM_row (by decide), sM_row (by decide), sM_row (by decide), sM_row (by decide), sM_row (by decide), sM_row (by decide), sM_row (by decide), sM_row (by decide), sM_row (by decide), sM_row (by decide)]
    exact b f hf
  · rw [sM_row (by decide), sM_row (by decide), sM_row (by decide), sM_row (by decide)]
    exact c f hf
  · rw [sM_row (by decide)]; exact d y f hy hf
  · rw [sM_row (by decide)]; exact e i hi
theorem lc_X4_chain {d : Nat} {q : List Nat} {N : Mem} {K : Mej} {Post : PK} {a : Nat} (hq : q.length ≤ 10) (hB : GB q N)
    (next : ∀ N1, (∀ r, r ≠ 71 → N1 r = N r) → GP q N1 → EK d mX4_chain Post 92 [(0, .ref 40), (1, .int (nI a)), (2, .int (nI q.length))] [] N1 K) :
    ∀ (k i : Nat) (N1 : Mem), i + k = q.length → (∀ r, r ≠ 71 → N1 r = N r) → (∀ j, j < i → N1 71 j = nI (q.getD j 0)) → EK d mX4_chain Post 66 [(0, .ref 40), (1, .int (nI a)), (2, .int (nI i))] [] N1 K
  | 0, i, N1, e, hF, hC => by
    have hi : i = q.length := by omega
    subst hi
    have h32 : N1 40 32 = nI q.length := by rw [hF 40 (by decide)]; exact hB.1
    refine K_iload_n dX4_chain_66 rfl rfl ?_
    refine K_aload_n dX4_chain_67 rfl rfl ?_
    refine K_getI dX4_chain_68 fl_X4_235 (by first | rfl | exact sk_rk (by omega) | exact sk_hh (by omega)) rfl (by first | assumption | rfl) rfl ?_
    refine K_icmp_geN (tgt := 92) dX4_chain_71 (by decide) rfl (by first | omega | fail) (by first | omega | fail) (fun c71 => ?_) (fun c71 => ?_)
    · exact next N1 hF hC
    · omega
  | k + 1, i, N1, e, hF, hC => by
    have h32 : N1 40 32 = nI q.length := by rw [hF 40 (by decide)]; exact hB.1
    have h73 : N1 73 i = nI (q.getD i 0) := by rw [hF 73 (by decide)]; exact hB.2 i (by omega)
    have ih := lc_X4_chain (a := a) hq hB next k (i + 1) (sM N1 71 i (nI (q.getD i 0))) (by omega) (fun r hr => (sM_row hr).trans (hF r hr)) (fun j hj => by
      rw [sM_at]
      by_cases e3 : j = i
      · rw [if_pos ⟨rfl, e3⟩, e3]
      · rw [if_neg (by omega)]
        exact hC j (by omega))
    refine K_iload_n dX4_chain_66 rfl rfl ?_
    refine K_aload_n dX4_chain_67 rfl rfl ?_
    refine K_getI dX4_chain_68 fl_X4_235 (by first | rfl | exact sk_rk (by omega) | exact sk_hh (by omega)) rfl (by first | assumption | rfl) rfl ?_
    refine K_icmp_geN (tgt := 92) dX4_chain_71 (by decide) rfl (by first | omega | fail) (by first | omega | fail) (fun c71 => ?_) (fun c71 => ?_)
    · omega
    · refine K_aload_n dX4_chain_74 rfl rfl ?_
      refine K_getR (r := 71) dX4_chain_75 fl_X4_75 rfl rfl rfl rfl ?_
      refine K_iload_n dX4_chain_78 rfl rfl ?_
      refine K_aload_n dX4_chain_79 rfl rfl ?_
      refine K_getR (r := 73) dX4_chain_80 fl_X4_78 rfl rfl rfl rfl ?_
      refine K_iload_n dX4_chain_83 rfl rfl ?_
      refine K_iald dX4_chain_84 (by first | rfl | exact sk_rk (by omega) | exact sk_hh (by omega)) (by first | omega | fail) (by decide) (by first | assumption | rfl) rfl ?_
      refine K_iast dX4_chain_85 (by first | rfl | exact sk_rk (by omega) | exact sk_hh (by omega)) (by first | omega | fail) (by decide) rfl ?_
      first | refine K_incN (lv' := [(0, _), (1, _), (2, _)]) dX4_chain_86 rfl (by decide) rfl rfl ?_ | refine K_iinc (lv' := [(0, _), (1, _), (2, _)]) dX4_chain_86 rfl rfl (by decide) rfl rfl ?_
      refine K_goto (tgt := 66) dX4_chain_89 (by decide) ?_
      exact ih
set_option maxRecDepth 100000 in
theorem c_X4_chain {d : Nat} (hd : 20 ≤ d) {S : GS} {N : Mem} {K : Mej} (R : RY S N) (w : WF S) {x : Int32} : CK d mX4_chain [.ref 40, .int x] N K (PRY (o_chain S x).1 (o_chain S x).2 N K) := by
  have R0 := R.c0
  have w0 := w.c0
  have hn := w.1.1
  have h7 : sM (sM N 40 0 (nI 0)) 40 19 (nI 0) 40 1 = nI (s_n S) := R0.1.1
  cases hx : isF (s_n S) x with
  | false =>
    rw [o_chain, hx]
    refine CK.start [(0, _), (1, _)] (plainFor_of_name (by decide)) (Nat.le_of_ble_eq_true rfl) rfl ?_
    refine K_aload_n dX4_chain_0 rfl rfl ?_
    refine K_iconst (v := nI 0) dX4_chain_1 (by decide) rfl ?_
    refine K_putI dX4_chain_2 fl_X4_84 (by first | rfl | exact sk_rk (by omega) | exact sk_hh (by omega)) rfl rfl rfl rfl ?_
    refine K_aload_n dX4_chain_5 rfl rfl ?_
    refine K_iconst (v := nI 0) dX4_chain_6 (by decide) rfl ?_
    refine K_putI dX4_chain_7 fl_X4_98 (by first | rfl | exact sk_rk (by omega) | exact sk_hh (by omega)) rfl rfl rfl rfl ?_
    refine K_aload_n dX4_chain_10 rfl rfl ?_
    refine K_iload_n dX4_chain_11 rfl rfl ?_
    refine K_cv (ci := 4) (d1 := d - 1) [_] dX4_chain_12 ml_X4_94 (by decide) rfl rfl rfl (Nat.le_of_ble_eq_true rfl) (c_X4_isFamily (by omega) hn h7) (by omega) rfl ?_
    refine K_if_eqB (tgt := 26) dX4_chain_15 (by decide) rfl (fun c15 => ?_) (fun c15 => ?_)
    · refine K_iconst (v := (-1)) dX4_chain_26 (by decide) rfl ?_
      refine K_iret dX4_chain_27 rfl ?_
      exact ⟨rfl, R0, FY.c0 N, rfl⟩
    · rw [hx] at c15; cases c15
  | true =>
    obtain ⟨a, ha, rfl⟩ := (isF_iff hn).mp hx
    rw [o_chain, hx, if_pos rfl, nI_clamp (show a < 2 ^ 31 by omega)]
    have hgo : CK (d - 1) mX4_goesAtAll [.ref 40, .int (nI a)] (sM (sM N 40 0 (nI 0)) 40 19 (nI 0)) K (PX (some (.int (bI (s_go S a)))) (sM (sM N 40 0 (nI 0)) 40 19 (nI 0)) K) := c_X4_goesAtAll (S := gC S) R0 w0 ha
    by_cases hz : s_pl S a = none
    · rw [if_pos hz]
      have hg := go_f hz
      have hc := cnt_or (m := 0) (g := a) (Nat.zero_testBit a) ha
      rw [Nat.zero_or, cnt_0] at hc
      have p2 : 2 ^ a < 2 ^ 10 := Nat.pow_lt_pow_right (by omega) (by omega)
      have F0 : GF (sM (sM N 40 0 (nI 0)) 40 19 (nI 0)) (sM (sM (sM (sM N 40 0 (nI 0)) 40 19 (nI 0)) 40 32 (nI 0)) 71 0 (nI a)) := ((GF.rf _).set (Or.inr (Or.inr ⟨rfl, rfl⟩))).set (Or.inl rfl)
      have R1 : RY (gC S) (sM (sM (sM (sM N 40 0 (nI 0)) 40 19 (nI 0)) 40 32 (nI 0)) 71 0 (nI a)) := R0.gf F0
      have h50 : sM (sM (sM (sM N 40 0 (nI 0)) 40 19 (nI 0)) 40 32 (nI 0)) 71 0 (nI a) 50 a = s_po S a := (R1.2.2.1 a (by omega)).1
      have hgc := c_X4_goesOn w0 (a := a) (s_n S - 1) (d - 1) a (2 ^ a) [a] [] _ K (by omega) R1 (by show cnt _ (s_n S) + _ = s_n S; omega) (by show 1 + (s_n S - 1) = s_n S; omega) (show 0 < 1 by decide) (Nat.zero_le _) p2 (by rw [Nat.testBit_two_pow]; simp) ha rfl (fun j hj => by
        have hj : j < 1 := hj
        obtain rfl : j = 0 := by omega
        exact sM_eq _ _ _ _) ⟨(sM_ne (Or.inl (by decide))).trans (sM_eq _ _ _ _), fun j hj => absurd hj (Nat.not_lt_zero j)⟩
      rw [show has (gC S) a a = s_po S a from by unfold has; rw [if_pos rfl]; exact Int32.add_zero _, show s_n S - 1 + 1 = s_n S by omega] at hgc
      have ll : (lwR (cCh S a) (s_n S) a).length ≤ 10 := lw_le hn ha
      obtain ⟨q0, -, eq0⟩ := gc_lwR (h := cCh S a) hn ha
      have l1 : 1 ≤ (lwR (cCh S a) (s_n S) a).length := by rw [eq0, List.length_cons]; omega
      have fin : ∀ N2 K2 N3, RY (gC S) N2 → FY N N2 → N2 40 32 = nI (lwR (cCh S a) (s_n S) a).length → (∀ r, r ≠ 71 → N3 r = N2 r) → GP (lwR (cCh S a) (s_n S) a) N3 → EK d mX4_chain (PRY (nI ((lwR (cCh S a) (s_n S) a).length - 1)) (gB (tellG (gC S) (lwR (cCh S a) (s_n S) a).length (fun i => (lwR (cCh S a) (s_n S) a).getD i 0)) 3 0 0 true) N K2) 92 [(0, .ref 40), (1, .int (nI a)), (2, .int (nI (lwR (cCh S a) (s_n S) a).length))] [] N3 K2 := by
        intro N2 K2 N3 R2 F2 h32 y1 y2
        have h32' : N3 40 32 = nI (lwR (cCh S a) (s_n S) a).length := by rw [y1 40 (by decide)]; exact h32
        have R3 : RY (gC S) N3 := R2.way y1
        refine K_aload_n dX4_chain_92 rfl rfl ?_
        refine K_aload_n dX4_chain_93 rfl rfl ?_
        refine K_aload_n dX4_chain_94 rfl rfl ?_
        refine K_getI dX4_chain_95 fl_X4_235 (by first | rfl | exact sk_rk (by omega) | exact sk_hh (by omega)) rfl (by first | assumption | rfl) rfl ?_
        refine K_callV (ci := 4) (d1 := d - 1) [_] dX4_chain_98 ml_X4_232 (by decide) rfl rfl rfl (Nat.le_of_ble_eq_true rfl) (c_X4_tells (td := fun i => (lwR (cCh S a) (s_n S) a).getD i 0) ll y2) (by omega) rfl ?_
        rintro r N4 K4 ⟨t1, t2, t3, t4⟩
        subst t1
        subst t4
        have h32b : sM N4 40 19 (nI (lwR (cCh S a) (s_n S) a).length) 40 32 = nI (lwR (cCh S a) (s_n S) a).length := by rw [sM_ne (Or.inr (by decide)), t2 40 (by decide), sM_ne (Or.inr (by decide))]; exact h32'
        have R4 : RY (tellG (gC S) (lwR (cCh S a) (s_n S) a).length (fun i => (lwR (cCh S a) (s_n S) a).getD i 0)) N4 := RY.tell R3 rfl (fun j hj => (congrFun (t2 40 (by decide)) j).trans (sM_ne (Or.inr hj))) ((congrFun (t2 40 (by decide)) 29).trans (sM_eq _ _ _ _)) (fun r hr => (t2 r (by omega)).trans (sM_row (by omega))) t3
        refine K_putI dX4_chain_101 fl_X4_98 (by first | rfl | exact sk_rk (by omega) | exact sk_hh (by omega)) rfl rfl rfl rfl ?_
        refine K_aload_n dX4_chain_104 rfl rfl ?_
        refine K_getI dX4_chain_105 fl_X4_235 (by first | rfl | exact sk_rk (by omega) | exact sk_hh (by omega)) rfl (by first | assumption | rfl) rfl ?_
        refine K_iconst (v := nI 1) dX4_chain_108 (by decide) rfl ?_
        refine K_subN dX4_chain_109 (by first | omega | fail) rfl ?_
        refine K_iret dX4_chain_110 rfl ?_
        exact ⟨rfl, R4.on, (F2.trans (FY.trans (N1 := N3) (fun i hi => y1 i (by omega)) (fun i hi => (t2 i (by omega)).trans (sM_row (by omega))))).set (by decide), rfl⟩
      refine CK.start [(0, _), (1, _)] (plainFor_of_name (by decide)) (Nat.le_of_ble_eq_true rfl) rfl ?_
      refine K_aload_n dX4_chain_0 rfl rfl ?_
      refine K_iconst (v := nI 0) dX4_chain_1 (by decide) rfl ?_
      refine K_putI dX4_chain_2 fl_X4_84 (by first | rfl | exact sk_rk (by omega) | exact sk_hh (by omega)) rfl rfl rfl rfl ?_
      refine K_aload_n dX4_chain_5 rfl rfl ?_
      refine K_iconst (v := nI 0) dX4_chain_6 (by decide) rfl ?_
      refine K_putI dX4_chain_7 fl_X4_98 (by first | rfl | exact sk_rk (by omega) | exact sk_hh (by omega)) rfl rfl rfl rfl ?_
      refine K_aload_n dX4_chain_10 rfl rfl ?_
      refine K_iload_n dX4_chain_11 rfl rfl ?_
      refine K_cv (ci := 4) (d1 := d - 1) [_] dX4_chain_12 ml_X4_94 (by decide) rfl rfl rfl (Nat.le_of_ble_eq_true rfl) (c_X4_isFamily (by omega) hn h7) (by omega) rfl ?_
      refine K_if_eqB (tgt := 26) dX4_chain_15 (by decide) rfl (fun c15 => ?_) (fun c15 => ?_)
      · rw [hx] at c15; cases c15
      · refine K_aload_n dX4_chain_18 rfl rfl ?_
        refine K_iload_n dX4_chain_19 rfl rfl ?_
        refine K_cv (ci := 4) (d1 := d - 1) [_] dX4_chain_20 ml_X4_145 (by decide) rfl rfl rfl (Nat.le_of_ble_eq_true rfl) hgo (by omega) rfl ?_
        refine K_if_eqB (tgt := 28) dX4_chain_23 (by decide) rfl (fun c23 => ?_) (fun c23 => ?_)
        · refine K_aload_n dX4_chain_28 rfl rfl ?_
          refine K_iconst (v := nI 0) dX4_chain_29 (by decide) rfl ?_
          refine K_putI dX4_chain_30 fl_X4_235 (by first | rfl | exact sk_rk (by omega) | exact sk_hh (by omega)) rfl rfl rfl rfl ?_
          refine K_aload_n dX4_chain_33 rfl rfl ?_
          refine K_getR (r := 71) dX4_chain_34 fl_X4_75 rfl rfl rfl rfl ?_
          refine K_iconst (v := nI 0) dX4_chain_37 (by decide) rfl ?_
          refine K_iload_n dX4_chain_38 rfl rfl ?_
          refine K_iast dX4_chain_39 (by first | rfl | exact sk_rk (by omega) | exact sk_hh (by omega)) (by first | omega | fail) (by decide) rfl ?_
          refine K_aload_n dX4_chain_40 rfl rfl ?_
          refine K_iconst (v := nI 1) dX4_chain_41 (by decide) rfl ?_
          refine K_iconst (v := nI 1) dX4_chain_42 (by decide) rfl ?_
          refine K_iload_n dX4_chain_43 rfl rfl ?_
          first | refine K_shl1 dX4_chain_44 (by first | omega | fail) rfl ?_ | refine K_shlN dX4_chain_44 (by first | omega | fail) (by first | omega | fail) rfl ?_ | refine K_ishl dX4_chain_44 rfl ?_
          refine K_aload_n dX4_chain_45 rfl rfl ?_
          refine K_getR (r := 50) dX4_chain_46 fl_X4_35 rfl rfl rfl rfl ?_
          refine K_iload_n dX4_chain_49 rfl rfl ?_
          refine K_iald dX4_chain_50 (by first | rfl | exact sk_rk (by omega) | exact sk_hh (by omega)) (by first | omega | fail) (by decide) (by first | assumption | rfl) rfl ?_
          refine K_callV (ci := 4) (d1 := d - 1) [_, _, _] dX4_chain_51 ml_X4_238 (by decide) rfl rfl rfl (Nat.le_of_ble_eq_true rfl) hgc (by omega) rfl ?_
          rintro res N2 K2 ⟨z1, z2, z3, z4, z5⟩
          subst z1
          subst z5
          have z4 : GB (lwR (cCh S a) (s_n S) a) N2 := z4
          have h32 := z4.1
          have R2 := R1.gf z2
          have F2 : FY N N2 := (FY.c0 N).trans (F0.fy.trans z2.fy)
          refine K_aload_n dX4_chain_54 rfl rfl ?_
          refine K_getI dX4_chain_55 fl_X4_235 (by first | rfl | exact sk_rk (by omega) | exact sk_hh (by omega)) rfl (by first | assumption | rfl) rfl ?_
          refine K_iconst (v := nI 1) dX4_chain_58 (by decide) rfl ?_
          refine K_icmp_neN (tgt := 64) dX4_chain_59 (by decide) rfl (by first | omega | fail) (by first | omega | fail) (fun c59 => ?_) (fun c59 => ?_)
          · refine K_iconst (v := nI 0) dX4_chain_64 (by decide) rfl ?_
            refine K_istore_n (lv' := [(0, _), (1, _), (2, _)]) dX4_chain_65 (by decide) rfl rfl ?_
            rw [if_neg (by omega)]
            exact lc_X4_chain ll z4 (by
              intro N3 y1 y2
              exact fin N2 K2 N3 R2 F2 h32 y1 y2) (lwR (cCh S a) (s_n S) a).length 0 N2 (by omega) (fun _ _ => rfl) (fun j hj => absurd hj (Nat.not_lt_zero j))
          · refine K_iconst (v := nI 0) dX4_chain_62 (by decide) rfl ?_
            refine K_iret dX4_chain_63 rfl ?_
            rw [if_pos (by omega)]
            exact ⟨rfl, R2, F2, rfl⟩
        · rw [hg] at c23; cases c23
    · rw [if_neg hz]
      have hg := go_t hz
      refine CK.start [(0, _), (1, _)] (plainFor_of_name (by decide)) (Nat.le_of_ble_eq_true rfl) rfl ?_
      refine K_aload_n dX4_chain_0 rfl rfl ?_
      refine K_iconst (v := nI 0) dX4_chain_1 (by decide) rfl ?_
      refine K_putI dX4_chain_2 fl_X4_84 (by first | rfl | exact sk_rk (by omega) | exact sk_hh (by omega)) rfl rfl rfl rfl ?_
      refine K_aload_n dX4_chain_5 rfl rfl ?_
      refine K_iconst (v := nI 0) dX4_chain_6 (by decide) rfl ?_
      refine K_putI dX4_chain_7 fl_X4_98 (by first | rfl | exact sk_rk (by omega) | exact sk_hh (by omega)) rfl rfl rfl rfl ?_
      refine K_aload_n dX4_chain_10 rfl rfl ?_
      refine K_iload_n dX4_chain_11 rfl rfl ?_
      refine K_cv (ci := 4) (d1 := d - 1) [_] dX4_chain_12 ml_X4_94 (by decide) rfl rfl rfl (Nat.le_of_ble_eq_true rfl) (c_X4_isFamily (by omega) hn h7) (by omega) rfl ?_
      refine K_if_eqB (tgt := 26) dX4_chain_15 (by decide) rfl (fun c15 => ?_) (fun c15 => ?_)
      · rw [hx] at c15; cases c15
      · refine K_aload_n dX4_chain_18 rfl rfl ?_
        refine K_iload_n dX4_chain_19 rfl rfl ?_
        refine K_cv (ci := 4) (d1 := d - 1) [_] dX4_chain_20 ml_X4_145 (by decide) rfl rfl rfl (Nat.le_of_ble_eq_true rfl) hgo (by omega) rfl ?_
        refine K_if_eqB (tgt := 28) dX4_chain_23 (by decide) rfl (fun c23 => ?_) (fun c23 => ?_)
        · rw [hg] at c23; cases c23
        · refine K_iconst (v := (-1)) dX4_chain_26 (by decide) rfl ?_
          refine K_iret dX4_chain_27 rfl ?_
          exact ⟨rfl, R0, FY.c0 N, rfl⟩
