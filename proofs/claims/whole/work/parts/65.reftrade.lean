theorem lm_X4_trade {d : Nat} (hd : 6 ≤ d) {S : GS} (w : WF S) {N0 : Mem} {K : Mej} :
    ∀ (c L : Nat) (p : Nat → Option Nat) (N : Mem), cnt L.testBit (s_n S) = c → L < 2 ^ s_n S → (∃ m, itS S m (2 ^ s_n S - 1, fun _ => none) = (L, p)) → PW S p → RY (plG S p) N → IL S L N → FY N0 N → EK d mX4_trade (PRY (nI (cnt (fun f => (trP S f).isSome) (s_n S))) (plG S (trP S)) N0 K) 45 [(0, .ref 40), (1, .int (nI c))] [] N K := by
  intro c
  induction c using Nat.strongRecOn with
  | ind c rec =>
    rintro L p N hc hL ⟨m, hm⟩ hp R hI F
    have hn := w.1.1
    have pp := p10 hn
    have w1 := w.plG hp
    have c10 := cnt_le L.testBit (s_n S)
    cases c with
    | zero =>
      have h0 := cnt_zero hL hc
      subst h0
      have et := trP_is w hm
      rw [et]
      have hcg : CK (d - 1) mX4_goers [.ref 40] N K (PX (some (.int (nI (cnt (fun f => (p f).isSome) (s_n S))))) N K) := c_X4_goers (S := plG S p) (by omega) R w1
      refine K_iload_n dX4_trade_45 rfl rfl ?_
      refine K_if_leN (tgt := 217) dX4_trade_46 (by decide) rfl (by first | omega | fail) (fun c46 => ?_) (fun c46 => ?_)
      · refine K_aload_n dX4_trade_217 rfl rfl ?_
        refine K_cv (ci := 4) (d1 := d - 1) [] dX4_trade_218 ml_X4_167 (by decide) rfl rfl rfl (Nat.le_of_ble_eq_true rfl) hcg (by omega) rfl ?_
        refine K_iret dX4_trade_221 rfl ?_
        exact ⟨rfl, R, F, rfl⟩
      · omega
    | succ c =>
      have h0 : L ≠ 0 := fun z => by rw [z, cnt_0] at hc; cases hc
      have hlv : CK (d - 1) mX4_leaver [.ref 40] N K (PX (some (.int (oI (lv S L)))) N K) := by
        have h := c_X4_leaver (d := d - 1) (K := K) (S := plG S p) (by omega) R w1 hL hI
        rw [lv_plG] at h
        exact h
      have ob : oB (lv S L) := oB_fnd hn
      cases hl : lv S L with
      | some f =>
        rw [hl] at hlv ob
        have hf := fnd_lt hl
        rw [Bool.and_eq_true] at hf
        have hrc := rmB_cnt hn hL hf.2.1
        have ih := rec c (by omega) (rmB L f) p (sM N 67 f (nI 0)) (by omega) (rmB_lt hL) ⟨m + 1, by rw [itS_add, hm]; exact stp_lv hl p⟩ hp (R.scr (by omega)) (fun g hg => by
          rw [sM_at, rmB_bit (by omega)]
          by_cases e3 : g = f
          · rw [if_pos ⟨rfl, e3⟩, e3]; simp; rfl
          · rw [if_neg (by omega), hI g hg]; simp [e3]) (F.set (by decide))
        refine K_iload_n dX4_trade_45 rfl rfl ?_
        refine K_if_leN (tgt := 217) dX4_trade_46 (by decide) rfl (by first | omega | fail) (fun c46 => ?_) (fun c46 => ?_)
        · omega
        · refine K_aload_n dX4_trade_49 rfl rfl ?_
          refine K_cv (ci := 4) (d1 := d - 1) [] dX4_trade_50 ml_X4_219 (by decide) rfl rfl rfl (Nat.le_of_ble_eq_true rfl) hlv (by omega) rfl ?_
          refine K_istore_n (lv' := [(0, _), (1, _), (2, _)]) dX4_trade_53 (by decide) rfl rfl ?_
          refine K_iload_n dX4_trade_54 rfl rfl ?_
          refine K_if_ltO (tgt := 71) dX4_trade_55 (by decide) rfl (by first | assumption | fail) (fun c55 => ?_) (fun c55 => ?_)
          · cases c55
          · change EK d mX4_trade _ 58 [(0, .ref 40), (1, .int (nI (c + 1))), (2, .int (nI f))] [] N K
            refine K_aload_n dX4_trade_58 rfl rfl ?_
            refine K_getR (r := 67) dX4_trade_59 fl_X4_66 rfl rfl rfl rfl ?_
            refine K_iload_n dX4_trade_62 rfl rfl ?_
            refine K_iconst (v := nI 0) dX4_trade_63 (by decide) rfl ?_
            refine K_zast dX4_trade_64 (by first | rfl | exact sk_rk (by omega) | exact sk_hh (by omega)) (by first | omega | fail) (by decide) (by first | exact bI_01 _ | exact Or.inl rfl | exact Or.inr rfl | assumption) rfl ?_
            first | refine K_decN (lv' := [(0, _), (1, _), (2, _)]) dX4_trade_65 rfl (by decide) rfl rfl ?_ | refine K_iinc (lv' := [(0, _), (1, _), (2, _)]) dX4_trade_65 rfl rfl (by decide) rfl rfl ?_
            refine K_goto (tgt := 45) dX4_trade_68 (by decide) ?_
            refine K_pick [0, 1] rfl ?_
            exact ih
      | none =>
        rw [hl] at hlv ob
        obtain ⟨f, hr, hf, hfn⟩ := rg_some w hL h0 hl
        have e3 := stp_rg hl p
        rw [hr] at e3
        have e3 : stp S (L, p) = rwk (sf S L) (s_n S) f (L, p) := e3
        have hless := stp_less w (t := (L, p)) hL h0
        have key : ∀ N1, (∀ r, r ≠ 68 → N1 r = N r) → (∀ f, L.testBit f = true → N1 68 f = oI (fo S L f)) → EK d mX4_trade (PRY (nI (cnt (fun f => (trP S f).isSome) (s_n S))) (plG S (trP S)) N0 K) 119 [(0, .ref 40), (1, .int (nI (c + 1))), (2, .int (oI none)), (3, .int (oI none)), (4, .int (oI none))] [] N1 K := by
          intro N1 y1 y2
          have R1 : RY (plG S p) N1 := R.frame (fun j _ _ => by rw [y1 40 (by decide)]) (fun i hi => y1 i (by omega))
          have h7 : N1 40 1 = nI (s_n S) := R1.1.1
          have hI1 : IL S L N1 := fun f hf => by rw [y1 67 (by decide)]; exact hI f hf
          have F1 : FY N0 N1 := F.trans (fun i hi => y1 i (by omega))
          have hs : ∀ x, L.testBit x = true → N1 68 x = nI (sf S L x) ∧ L.testBit (sf S L x) = true := fun x hx => ⟨by rw [y2 x hx, (lv_none w hL hl hx).1]; rfl, (sf_ne w hL hl hx).1⟩
          have last : EK d mX4_trade (PRY (nI (cnt (fun f => (trP S f).isSome) (s_n S))) (plG S (trP S)) N0 K) 167 [(0, .ref 40), (1, .int (nI (cnt L.testBit (s_n S)))), (2, .int (oI none)), (3, .int (nI f)), (4, .int (nI f))] [] N1 K :=
            lw_X4_trade w hL (fun x hx => sf_ne w hL hl hx) (s_n S) f (L, p) N1 c10 hL (fun j hj => hj) hf hp R1 hI1 F1 (fun x hx => (hs x hx).1) (fun N2 q1 q2 q3 q4 => by
              rw [← e3] at q1 q2 q3 ⊢
              have hl2 : cnt (stp S (L, p)).1.testBit (s_n S) < cnt L.testBit (s_n S) := hless.2
              exact rec (cnt (stp S (L, p)).1.testBit (s_n S)) (by omega) (stp S (L, p)).1 (stp S (L, p)).2 N2 rfl hless.1 ⟨m + 1, by rw [itS_add, hm]; rfl⟩ q2 q1 q3 q4)
          have mid : EK d mX4_trade (PRY (nI (cnt (fun f => (trP S f).isSome) (s_n S))) (plG S (trP S)) N0 K) 164 [(0, .ref 40), (1, .int (nI (c + 1))), (2, .int (oI none)), (3, .int (oI (fnd (fun f => L.testBit f && rd (sf S L) f (s_n (plG S p)) (sf S L f)) (s_n (plG S p))))), (4, .int (oI none))] [] N1 K := by
            rw [show fnd (fun f => L.testBit f && rd (sf S L) f (s_n (plG S p)) (sf S L f)) (s_n (plG S p)) = some f from hr]
            rw [hc] at last
            change EK d mX4_trade _ 164 [(0, .ref 40), (1, .int (nI (c + 1))), (2, .int (oI none)), (3, .int (nI f)), (4, .int (oI none))] [] N1 K
            refine K_iload_n dX4_trade_164 rfl rfl ?_
            refine K_istore (lv' := [(0, _), (1, _), (2, _), (3, _), (4, _)]) dX4_trade_165 (by decide) rfl rfl ?_
            exact last
          have lf := lf_X4_trade (d := d) (K := K) (Post := PRY (nI (cnt (fun f => (trP S f).isSome) (s_n S))) (plG S (trP S)) N0 K) (x1 := nI (c + 1)) (x2 := oI none) (S := plG S p) (s := sf S L) (by omega) R1 w1 hL hI1 hs mid (s_n S) none (Nat.le_refl _) ⟨fun _ f h1 h2 => absurd h2 (Nat.not_lt.mpr h1), fun x hx => by cases hx⟩
          refine K_aload_n dX4_trade_119 rfl rfl ?_
          refine K_getI dX4_trade_120 fl_X4_87 rfl rfl h7 rfl ?_
          refine K_iconst (v := nI 1) dX4_trade_123 (by decide) rfl ?_
          refine K_subO dX4_trade_124 rfl ?_
          refine K_istore (lv' := [(0, _), (1, _), (2, _), (3, _), (4, _)]) dX4_trade_125 (by decide) rfl rfl ?_
          exact lf
        have h7 : N 40 1 = nI (s_n S) := R.1.1
        refine K_iload_n dX4_trade_45 rfl rfl ?_
        refine K_if_leN (tgt := 217) dX4_trade_46 (by decide) rfl (by first | omega | fail) (fun c46 => ?_) (fun c46 => ?_)
        · omega
        · refine K_aload_n dX4_trade_49 rfl rfl ?_
          refine K_cv (ci := 4) (d1 := d - 1) [] dX4_trade_50 ml_X4_219 (by decide) rfl rfl rfl (Nat.le_of_ble_eq_true rfl) hlv (by omega) rfl ?_
          refine K_istore_n (lv' := [(0, _), (1, _), (2, _)]) dX4_trade_53 (by decide) rfl rfl ?_
          refine K_iload_n dX4_trade_54 rfl rfl ?_
          refine K_if_ltO (tgt := 71) dX4_trade_55 (by decide) rfl (by first | assumption | fail) (fun c55 => ?_) (fun c55 => ?_)
          · refine K_iconst (v := (-1)) dX4_trade_71 (by decide) rfl ?_
            refine K_istore_n (lv' := [(0, _), (1, _), (2, _), (3, _)]) dX4_trade_72 (by decide) rfl rfl ?_
            refine K_aload_n dX4_trade_73 rfl rfl ?_
            refine K_getI dX4_trade_74 fl_X4_87 rfl rfl h7 rfl ?_
            refine K_iconst (v := nI 1) dX4_trade_77 (by decide) rfl ?_
            refine K_subO dX4_trade_78 rfl ?_
            refine K_istore (lv' := [(0, _), (1, _), (2, _), (3, _), (4, _)]) dX4_trade_79 (by decide) rfl rfl ?_
            exact ls_X4_trade (S := plG S p) (by omega) R w1 hL hI key (s_n S) N (Nat.le_refl _) (fun _ _ => rfl) (fun f h1 h2 => absurd (bit_lt hL h2) (Nat.not_lt.mpr h1))
          · exact absurd rfl c55
theorem cnt_all (n : Nat) : ∀ k, k ≤ n → cnt (2 ^ n - 1).testBit k = k
  | 0, _ => rfl
  | k + 1, h => by
    unfold cnt
    rw [cnt_all n k (by omega), Nat.testBit_two_pow_sub_one, decide_eq_true (show k < n by omega)]
    rfl
theorem li_X4_trade {d : Nat} {S : GS} (w : WF S) {N0 N : Mem} {K : Mej} {Post : PK} {x1 : Int32} (R : RY S N) (F : FY N0 N)
    (next : ∀ N1, RY (plG S (fun _ => none)) N1 → IL S (2 ^ s_n S - 1) N1 → FY N0 N1 → EK d mX4_trade Post 45 [(0, .ref 40), (1, .int x1)] [] N1 K) :
    ∀ (k i : Nat) (N1 : Mem), i + k = s_n S → (∀ r, r ≠ 67 → r ≠ 55 → N1 r = N r) → (∀ f, f < i → N1 67 f = nI 1 ∧ N1 55 f = -1) → EK d mX4_trade Post 17 [(0, .ref 40), (1, .int x1), (2, .int (nI i))] [] N1 K
  | 0, i, N1, e, hF, hC => by
    have hn := w.1.1
    have hi : i = s_n S := by omega
    subst hi
    have h7 : N1 40 1 = nI (s_n S) := by rw [hF 40 (by decide) (by decide)]; exact R.1.1
    refine K_iload_n dX4_trade_17 rfl rfl ?_
    refine K_aload_n dX4_trade_18 rfl rfl ?_
    refine K_getI dX4_trade_19 fl_X4_87 (by first | rfl | exact sk_rk (by omega) | exact sk_hh (by omega)) rfl (by first | assumption | rfl) rfl ?_
    refine K_icmp_geN (tgt := 45) dX4_trade_22 (by decide) rfl (by first | omega | fail) (by first | omega | fail) (fun c22 => ?_) (fun c22 => ?_)
    · refine K_pick [0, 1] rfl ?_
      exact next N1 (R.plG (fun k _ _ => by rw [hF 40 (by decide) (by decide)]) (fun i hi => hF i (by omega) (by omega)) (fun f hf => (hC f hf).2)) (fun f hf => by
        rw [(hC f hf).1, Nat.testBit_two_pow_sub_one, decide_eq_true hf]
        rfl) (F.trans (fun i hi => hF i (by omega) (by omega)))
    · omega
  | k + 1, i, N1, e, hF, hC => by
    have hn := w.1.1
    have h7 : N1 40 1 = nI (s_n S) := by rw [hF 40 (by decide) (by decide)]; exact R.1.1
    have ih := li_X4_trade (d := d) w R F next k (i + 1) (sM (sM N1 67 i (nI 1)) 55 i (-1)) (by omega) (fun r h1 h2 => (sM_row h2).trans ((sM_row h1).trans (hF r h1 h2))) (fun f hf => by
      rw [sM_ne (Or.inl (by decide)), sM_at, sM_at]
      by_cases e3 : f = i
      · rw [if_pos ⟨rfl, e3⟩, if_pos ⟨rfl, e3⟩]; exact ⟨rfl, rfl⟩
      · rw [if_neg (by omega), if_neg (by omega), sM_ne (Or.inl (by decide))]
        exact hC f (by omega))
    refine K_iload_n dX4_trade_17 rfl rfl ?_
    refine K_aload_n dX4_trade_18 rfl rfl ?_
    refine K_getI dX4_trade_19 fl_X4_87 (by first | rfl | exact sk_rk (by omega) | exact sk_hh (by omega)) rfl (by first | assumption | rfl) rfl ?_
    refine K_icmp_geN (tgt := 45) dX4_trade_22 (by decide) rfl (by first | omega | fail) (by first | omega | fail) (fun c22 => ?_) (fun c22 => ?_)
    · omega
    · refine K_aload_n dX4_trade_25 rfl rfl ?_
      refine K_getR (r := 67) dX4_trade_26 fl_X4_66 rfl rfl rfl rfl ?_
      refine K_iload_n dX4_trade_29 rfl rfl ?_
      refine K_iconst (v := nI 1) dX4_trade_30 (by decide) rfl ?_
      refine K_zast dX4_trade_31 (by first | rfl | exact sk_rk (by omega) | exact sk_hh (by omega)) (by first | omega | fail) (by decide) (by first | exact bI_01 _ | exact Or.inl rfl | exact Or.inr rfl | assumption) rfl ?_
      refine K_aload_n dX4_trade_32 rfl rfl ?_
      refine K_getR (r := 55) dX4_trade_33 fl_X4_50 rfl rfl rfl rfl ?_
      refine K_iload_n dX4_trade_36 rfl rfl ?_
      refine K_iconst (v := (-1)) dX4_trade_37 (by decide) rfl ?_
      refine K_iast dX4_trade_38 (by first | rfl | exact sk_rk (by omega) | exact sk_hh (by omega)) (by first | omega | fail) (by decide) rfl ?_
      first | refine K_incN (lv' := [(0, _), (1, _), (2, _)]) dX4_trade_39 rfl (by decide) rfl rfl ?_ | refine K_iinc (lv' := [(0, _), (1, _), (2, _)]) dX4_trade_39 rfl rfl (by decide) rfl rfl ?_
      refine K_goto (tgt := 17) dX4_trade_42 (by decide) ?_
      exact ih
set_option maxRecDepth 100000 in
theorem c_X4_trade {d : Nat} (hd : 6 ≤ d) {S : GS} {N : Mem} {K : Mej} (R : RY S N) (w : WF S) : CK d mX4_trade [.ref 40] N K (PRY (o_trade S).1 (o_trade S).2 N K) := by
  have R0 := R.c0
  have w0 := w.c0
  have h7 : sM (sM N 40 0 (nI 0)) 40 19 (nI 0) 40 1 = nI (s_n S) := R0.1.1
  have p0 : 0 < 2 ^ s_n S := Nat.two_pow_pos _
  have hc : cnt (2 ^ s_n S - 1).testBit (s_n S) = s_n S := cnt_all (s_n S) (s_n S) (Nat.le_refl _)
  have key : ∀ N1, RY (plG (gC S) (fun _ => none)) N1 → IL (gC S) (2 ^ s_n (gC S) - 1) N1 → FY N N1 → EK d mX4_trade (PRY (o_trade S).1 (o_trade S).2 N K) 45 [(0, .ref 40), (1, .int (nI (s_n S)))] [] N1 K := fun N1 q1 q2 q3 => by
    have h := lm_X4_trade (S := gC S) hd w0 (N0 := N) (K := K) (s_n S) (2 ^ s_n S - 1) (fun _ => none) N1 hc (by show 2 ^ s_n S - 1 < 2 ^ s_n S; omega) ⟨0, rfl⟩ (fun f g h => by cases h) q1 q2 q3
    rw [trP_gC] at h
    exact h
  refine CK.start [(0, _)] (plainFor_of_name (by decide)) (Nat.le_of_ble_eq_true rfl) rfl ?_
  refine K_aload_n dX4_trade_0 rfl rfl ?_
  refine K_iconst (v := nI 0) dX4_trade_1 (by decide) rfl ?_
  refine K_putI dX4_trade_2 fl_X4_84 (by first | rfl | exact sk_rk (by omega) | exact sk_hh (by omega)) rfl rfl rfl rfl ?_
  refine K_aload_n dX4_trade_5 rfl rfl ?_
  refine K_iconst (v := nI 0) dX4_trade_6 (by decide) rfl ?_
  refine K_putI dX4_trade_7 fl_X4_98 (by first | rfl | exact sk_rk (by omega) | exact sk_hh (by omega)) rfl rfl rfl rfl ?_
  refine K_aload_n dX4_trade_10 rfl rfl ?_
  refine K_getI dX4_trade_11 fl_X4_87 (by first | rfl | exact sk_rk (by omega) | exact sk_hh (by omega)) rfl (by first | assumption | rfl) rfl ?_
  refine K_istore_n (lv' := [(0, _), (1, _)]) dX4_trade_14 (by decide) rfl rfl ?_
  refine K_iconst (v := nI 0) dX4_trade_15 (by decide) rfl ?_
  refine K_istore_n (lv' := [(0, _), (1, _), (2, _)]) dX4_trade_16 (by decide) rfl rfl ?_
  exact li_X4_trade (S := gC S) w0 R0 (FY.c0 N) key (s_n S) 0 _ (Nat.zero_add _) (fun _ _ _ => rfl) (fun f hf => absurd hf (Nat.not_lt_zero f))
