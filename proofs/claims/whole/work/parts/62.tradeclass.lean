def PSA (S : GS) (L0 : Nat) (t1 : Nat × (Nat → Option Nat)) (N0 : Mem) (K : Mej) : PK := fun r N1 K1 => ∃ g1, r = some (.int (nI g1)) ∧ g1 < 1024 ∧ (∀ j, j < 10 → t1.1.testBit j = (L0.testBit j && !g1.testBit j)) ∧ PW S t1.2 ∧ RX (plG S t1.2) N1 K ∧ FX N0 N1 ∧ K1 = K
set_option maxRecDepth 100000 in
theorem c_X3_sendAsShown {d : Nat} {S : GS} (w : WF S) {N0 N : Mem} {K : Mej} {s : Nat → Nat} {L0 f : Nat} {p : Nat → Option Nat} (hs : ∀ x, L0.testBit x = true → L0.testBit (s x) = true ∧ s x ≠ x) (hL0 : L0 < 2 ^ s_n S) (hf : L0.testBit f = true) (hp : PW S p) (R : RX (plG S p) N K) (F : FX N0 N) (h5 : ∀ x, L0.testBit x = true → N 5 x = nI (s x)) : CK d mX3_sendAsShown [.ref 0, .int (nI f)] N K (PSA S L0 (rwk s (s_n S) f (L0, p)) N0 K) := by
  refine CK.start [(0, _), (1, _)] (plainFor_of_name (by decide)) (Nat.le_of_ble_eq_true rfl) rfl ?_
  refine K_iconst (v := nI 0) dX3_sendAsShown_0 (by decide) rfl ?_
  refine K_istore_n (lv' := [(0, _), (1, _), (2, _)]) dX3_sendAsShown_1 (by decide) rfl rfl ?_
  refine K_iload_n dX3_sendAsShown_2 rfl rfl ?_
  refine K_istore_n (lv' := [(0, _), (1, _), (2, _), (3, _)]) dX3_sendAsShown_3 (by decide) rfl rfl ?_
  refine K_iconst (v := nI 0) dX3_sendAsShown_4 (by decide) rfl ?_
  refine K_istore (lv' := [(0, _), (1, _), (2, _), (3, _), (4, _)]) dX3_sendAsShown_5 (by decide) rfl rfl ?_
  exact l_X3_sendAsShown w hs hL0 (s_n S) 0 f 0 (L0, p) N (by omega) hf (by decide) (fun j _ => by show L0.testBit j = _; rw [Nat.zero_testBit]; simp) hL0 hp R F h5
theorem stp_rg {S : GS} {L : Nat} (h : lv S L = none) (p : Nat → Option Nat) : stp S (L, p) = match rg S L with | none => (L, p) | some f => rwk (sf S L) (s_n S) f (L, p) := by
  unfold stp
  rw [show lv S (L, p).1 = none from h]
  rfl
theorem sf_ne {S : GS} (w : WF S) {L x : Nat} (hL : L < 2 ^ s_n S) (h : lv S L = none) (hx : L.testBit x = true) : L.testBit (sf S L x) = true ∧ sf S L x ≠ x := by
  have hn := w.1.1
  have x10 : x < 10 := by have := bit_lt hL hx; omega
  obtain ⟨a, b, c⟩ := lv_none w hL h hx
  exact ⟨b, (w.rkn x10 (tk_rk (fo_some w x10 a).2.1)).2.2⟩
theorem l_X3_sendShownRing {d : Nat} (hd : 1 ≤ d) {S : GS} (w : WF S) {N0 N : Mem} {K : Mej} {L : Nat} {p : Nat → Option Nat} (hL : L < 2 ^ s_n S) (hl : lv S L = none) (hp : PW S p) (R : RX (plG S p) N K) (F : FX N0 N) (h5 : ∀ x, L.testBit x = true → N 5 x = nI (sf S L x)) :
    ∀ (k f : Nat), f + k = s_n S → (∀ j, j < f → (L.testBit j && rd (sf S L) j (s_n S) (sf S L j)) = false) → EK d mX3_sendShownRing (PSA S L (stp S (L, p)) N0 K) 2 [(0, .ref 0), (1, .int (nI L)), (2, .int (nI f))] [] N K
  | 0, f, e, hz => by
    have hn := w.1.1
    have h7 : N 0 7 = nI (s_n S) := R.1.1
    have hr : rg S L = none := fnd_none (fun j hj => hz j (by omega))
    rw [stp_rg hl, hr]
    refine K_iload_n dX3_sendShownRing_2 rfl rfl ?_
    refine K_aload_n dX3_sendShownRing_3 rfl rfl ?_
    refine K_getI dX3_sendShownRing_4 fl_X3_42 (by first | rfl | exact sk_rk (by omega) | exact sk_hh (by omega)) rfl (by first | assumption | rfl) rfl ?_
    refine K_icmp_geN (tgt := 39) dX3_sendShownRing_7 (by decide) rfl (by first | omega | fail) (by first | omega | fail) (fun c7 => ?_) (fun c7 => ?_)
    · refine K_iconst (v := nI 0) dX3_sendShownRing_39 (by decide) rfl ?_
      refine K_iret dX3_sendShownRing_40 rfl ?_
      exact ⟨0, rfl, by decide, (fun j _ => by show L.testBit j = _; rw [Nat.zero_testBit]; simp), hp, R, F, rfl⟩
    · omega
  | k + 1, f, e, hz => by
    have hn := w.1.1
    have pp := p10 hn
    have h7 : N 0 7 = nI (s_n S) := R.1.1
    have nx := fun (z : (L.testBit f && rd (sf S L) f (s_n S) (sf S L f)) = false) => l_X3_sendShownRing (d := d) hd w (N0 := N0) hL hl hp R F h5 k (f + 1) (by omega) (fun j hj => by
      rcases Nat.lt_succ_iff_lt_or_eq.mp hj with hj | rfl
      · exact hz j hj
      · exact z)
    cases hf : L.testBit f with
    | false =>
      refine K_iload_n dX3_sendShownRing_2 rfl rfl ?_
      refine K_aload_n dX3_sendShownRing_3 rfl rfl ?_
      refine K_getI dX3_sendShownRing_4 fl_X3_42 (by first | rfl | exact sk_rk (by omega) | exact sk_hh (by omega)) rfl (by first | assumption | rfl) rfl ?_
      refine K_icmp_geN (tgt := 39) dX3_sendShownRing_7 (by decide) rfl (by first | omega | fail) (by first | omega | fail) (fun c7 => ?_) (fun c7 => ?_)
      · omega
      · refine K_iload_n dX3_sendShownRing_10 rfl rfl ?_
        refine K_iload_n dX3_sendShownRing_11 rfl rfl ?_
        first | refine K_shrN dX3_sendShownRing_12 (by first | omega | fail) (by first | omega | fail) rfl ?_ | refine K_ishr dX3_sendShownRing_12 rfl ?_
        refine K_iconst (v := nI 1) dX3_sendShownRing_13 (by decide) rfl ?_
        first | refine K_bitN dX3_sendShownRing_14 rfl ?_ | refine K_andN dX3_sendShownRing_14 rfl ?_ | refine K_iand dX3_sendShownRing_14 rfl ?_
        refine K_iconst (v := nI 1) dX3_sendShownRing_15 (by decide) rfl ?_
        refine K_icmp_neB1 (tgt := 33) dX3_sendShownRing_16 (by decide) rfl (fun c16 => ?_) (fun c16 => ?_)
        · first | refine K_incN (lv' := [(0, _), (1, _), (2, _)]) dX3_sendShownRing_33 rfl (by decide) rfl rfl ?_ | refine K_iinc (lv' := [(0, _), (1, _), (2, _)]) dX3_sendShownRing_33 rfl rfl (by decide) rfl rfl ?_
          refine K_goto (tgt := 2) dX3_sendShownRing_36 (by decide) ?_
          exact nx (by rw [hf]; rfl)
        · rw [hf] at c16; cases c16
    | true =>
      have hcr := c_X3_comesRound (d := d - 1) (N := N) (K := K) (s := sf S L) (L := L) hn h7 hf (fun x hx => ⟨h5 x hx, (sf_ne w hL hl hx).1⟩) (by omega)
      have hsa := c_X3_sendAsShown (d := d - 1) w (N0 := N0) (fun x hx => sf_ne w hL hl hx) hL hf hp R F h5
      cases hq : rd (sf S L) f (s_n S) (sf S L f) with
      | false =>
        refine K_iload_n dX3_sendShownRing_2 rfl rfl ?_
        refine K_aload_n dX3_sendShownRing_3 rfl rfl ?_
        refine K_getI dX3_sendShownRing_4 fl_X3_42 (by first | rfl | exact sk_rk (by omega) | exact sk_hh (by omega)) rfl (by first | assumption | rfl) rfl ?_
        refine K_icmp_geN (tgt := 39) dX3_sendShownRing_7 (by decide) rfl (by first | omega | fail) (by first | omega | fail) (fun c7 => ?_) (fun c7 => ?_)
        · omega
        · refine K_iload_n dX3_sendShownRing_10 rfl rfl ?_
          refine K_iload_n dX3_sendShownRing_11 rfl rfl ?_
          first | refine K_shrN dX3_sendShownRing_12 (by first | omega | fail) (by first | omega | fail) rfl ?_ | refine K_ishr dX3_sendShownRing_12 rfl ?_
          refine K_iconst (v := nI 1) dX3_sendShownRing_13 (by decide) rfl ?_
          first | refine K_bitN dX3_sendShownRing_14 rfl ?_ | refine K_andN dX3_sendShownRing_14 rfl ?_ | refine K_iand dX3_sendShownRing_14 rfl ?_
          refine K_iconst (v := nI 1) dX3_sendShownRing_15 (by decide) rfl ?_
          refine K_icmp_neB1 (tgt := 33) dX3_sendShownRing_16 (by decide) rfl (fun c16 => ?_) (fun c16 => ?_)
          · rw [hf] at c16; cases c16
          · refine K_aload_n dX3_sendShownRing_19 rfl rfl ?_
            refine K_iload_n dX3_sendShownRing_20 rfl rfl ?_
            refine K_cv (ci := 3) (d1 := d - 1) [_] dX3_sendShownRing_21 ml_X3_264 (by decide) rfl rfl rfl (Nat.le_of_ble_eq_true rfl) hcr (by omega) rfl ?_
            refine K_if_eqB (tgt := 33) dX3_sendShownRing_24 (by decide) rfl (fun c24 => ?_) (fun c24 => ?_)
            · first | refine K_incN (lv' := [(0, _), (1, _), (2, _)]) dX3_sendShownRing_33 rfl (by decide) rfl rfl ?_ | refine K_iinc (lv' := [(0, _), (1, _), (2, _)]) dX3_sendShownRing_33 rfl rfl (by decide) rfl rfl ?_
              refine K_goto (tgt := 2) dX3_sendShownRing_36 (by decide) ?_
              exact nx (by rw [hf, hq]; rfl)
            · rw [hq] at c24; cases c24
      | true =>
        have hr : rg S L = some f := fnd_first (by rw [hf, hq]; rfl) hz (by omega)
        rw [stp_rg hl, hr]
        refine K_iload_n dX3_sendShownRing_2 rfl rfl ?_
        refine K_aload_n dX3_sendShownRing_3 rfl rfl ?_
        refine K_getI dX3_sendShownRing_4 fl_X3_42 (by first | rfl | exact sk_rk (by omega) | exact sk_hh (by omega)) rfl (by first | assumption | rfl) rfl ?_
        refine K_icmp_geN (tgt := 39) dX3_sendShownRing_7 (by decide) rfl (by first | omega | fail) (by first | omega | fail) (fun c7 => ?_) (fun c7 => ?_)
        · omega
        · refine K_iload_n dX3_sendShownRing_10 rfl rfl ?_
          refine K_iload_n dX3_sendShownRing_11 rfl rfl ?_
          first | refine K_shrN dX3_sendShownRing_12 (by first | omega | fail) (by first | omega | fail) rfl ?_ | refine K_ishr dX3_sendShownRing_12 rfl ?_
          refine K_iconst (v := nI 1) dX3_sendShownRing_13 (by decide) rfl ?_
          first | refine K_bitN dX3_sendShownRing_14 rfl ?_ | refine K_andN dX3_sendShownRing_14 rfl ?_ | refine K_iand dX3_sendShownRing_14 rfl ?_
          refine K_iconst (v := nI 1) dX3_sendShownRing_15 (by decide) rfl ?_
          refine K_icmp_neB1 (tgt := 33) dX3_sendShownRing_16 (by decide) rfl (fun c16 => ?_) (fun c16 => ?_)
          · rw [hf] at c16; cases c16
          · refine K_aload_n dX3_sendShownRing_19 rfl rfl ?_
            refine K_iload_n dX3_sendShownRing_20 rfl rfl ?_
            refine K_cv (ci := 3) (d1 := d - 1) [_] dX3_sendShownRing_21 ml_X3_264 (by decide) rfl rfl rfl (Nat.le_of_ble_eq_true rfl) hcr (by omega) rfl ?_
            refine K_if_eqB (tgt := 33) dX3_sendShownRing_24 (by decide) rfl (fun c24 => ?_) (fun c24 => ?_)
            · rw [hq] at c24; cases c24
            · refine K_aload_n dX3_sendShownRing_27 rfl rfl ?_
              refine K_iload_n dX3_sendShownRing_28 rfl rfl ?_
              refine K_callV (ci := 3) (d1 := d - 1) [_] dX3_sendShownRing_29 ml_X3_267 (by decide) rfl rfl rfl (Nat.le_of_ble_eq_true rfl) hsa (by omega) rfl ?_
              rintro r N1 K1 ⟨g1, z1, z2⟩
              subst z1
              refine K_iret dX3_sendShownRing_32 rfl ?_
              exact ⟨g1, rfl, z2⟩
set_option maxRecDepth 100000 in
theorem c_X3_sendShownRing {d : Nat} (hd : 1 ≤ d) {S : GS} (w : WF S) {N0 N : Mem} {K : Mej} {L : Nat} {p : Nat → Option Nat} (hL : L < 2 ^ s_n S) (hl : lv S L = none) (hp : PW S p) (R : RX (plG S p) N K) (F : FX N0 N) (h5 : ∀ x, L.testBit x = true → N 5 x = nI (sf S L x)) : CK d mX3_sendShownRing [.ref 0, .int (nI L)] N K (PSA S L (stp S (L, p)) N0 K) := by
  refine CK.start [(0, _), (1, _)] (plainFor_of_name (by decide)) (Nat.le_of_ble_eq_true rfl) rfl ?_
  refine K_iconst (v := nI 0) dX3_sendShownRing_0 (by decide) rfl ?_
  refine K_istore_n (lv' := [(0, _), (1, _), (2, _)]) dX3_sendShownRing_1 (by decide) rfl rfl ?_
  exact l_X3_sendShownRing hd w hL hl hp R F h5 (s_n S) 0 (by omega) (fun j hj => absurd hj (Nat.not_lt_zero j))
theorem an_is {L g L1 : Nat} (h1 : L1 < 1024) (h : ∀ j, j < 10 → L1.testBit j = (L.testBit j && !g.testBit j)) : anB L g = L1 := Nat.eq_of_testBit_eq (fun i => by
  unfold anB
  rw [bs_bit]
  by_cases hi : i < 10
  · rw [h i hi]; simp [hi]
  · cases e : L1.testBit i with
    | false => simp [hi]
    | true => exact absurd (bit_lt (n := 10) h1 e) hi)
theorem fo_plG (S : GS) (p : Nat → Option Nat) : fo (plG S p) = fo S := rfl
theorem sf_plG (S : GS) (p : Nat → Option Nat) : sf (plG S p) = sf S := by
  funext L f
  unfold sf
  rw [fo_plG]
theorem lv_plG (S : GS) (p : Nat → Option Nat) : lv (plG S p) = lv S := by
  funext L
  unfold lv
  rw [fo_plG]
  rfl
theorem rg_plG (S : GS) (p : Nat → Option Nat) : rg (plG S p) = rg S := by
  funext L
  unfold rg
  rw [sf_plG]
  rfl
theorem stp_plG (S : GS) (p : Nat → Option Nat) : stp (plG S p) = stp S := by
  funext t
  unfold stp
  rw [lv_plG, rg_plG, sf_plG]
  rfl
theorem itS_plG (S : GS) (p : Nat → Option Nat) : ∀ k t, itS (plG S p) k t = itS S k t
  | 0, _ => rfl
  | k + 1, t => by
    show itS (plG S p) k (stp (plG S p) t) = itS S k (stp S t)
    rw [stp_plG, itS_plG S p k]
theorem PSH.of {S : GS} {p : Nat → Option Nat} {L : Nat} {N : Mem} {K : Mej} {r : Option Value} {N1 : Mem} {K1 : Mej} (h : PSH (plG S p) L N K r N1 K1) : PSH S L N K r N1 K1 := by
  obtain ⟨L1, k, a, b, c, d, e, f, g, i⟩ := h
  refine ⟨L1, k, a, fun q => ?_, c, d, ?_, fun x hx => ?_, g, i⟩
  · rw [← itS_plG S p]; exact b q
  · rw [← lv_plG S p]; exact e
  · rw [← sf_plG S p]; exact f x hx
theorem l_X3_trade {d : Nat} (hd : 7 ≤ d) {S : GS} (w : WF S) {N0 : Mem} {K : Mej} :
    ∀ (k i L : Nat) (p : Nat → Option Nat) (N : Mem), i + k = 10 → L < 2 ^ s_n S → cnt L.testBit (s_n S) + i ≤ 10 → (∃ m, itS S m (2 ^ s_n S - 1, fun _ => none) = (L, p)) → PW S p → RX (plG S p) N K → FX N0 N → EK d mX3_trade (fun r N1 K1 => r = some (.int (nI (cnt (fun f => (trP S f).isSome) (s_n S)))) ∧ RX (plG S (trP S)) N1 K1 ∧ FX N0 N1) 20 [(0, .ref 0), (1, .int (nI L)), (2, .int (nI i))] [] N K
  | k, i, L, p, N, e, hL, hc, ⟨m, hm⟩, hp, R, F => by
    have hn := w.1.1
    have pp := p10 hn
    have w1 := w.plG hp
    have hcg : CK (d - 1) mX3_countGoing [.ref 0] N K (PX (some (.int (nI (cnt (fun f => (p f).isSome) (s_n S))))) N K) := c_X3_countGoing (S := plG S p) R w1
    by_cases h0 : L = 0
    · subst h0
      have et := trP_is w hm
      rw [et]
      cases k with
      | zero =>
        refine K_iload_n dX3_trade_20 rfl rfl ?_
        refine K_bipush (v := nI 10) dX3_trade_21 (by decide) rfl ?_
        refine K_icmp_geN (tgt := 52) dX3_trade_23 (by decide) rfl (by first | omega | fail) (by first | omega | fail) (fun c23 => ?_) (fun c23 => ?_)
        · refine K_aload_n dX3_trade_52 rfl rfl ?_
          refine K_cv (ci := 3) (d1 := d - 1) [] dX3_trade_53 ml_X3_121 (by decide) rfl rfl rfl (Nat.le_of_ble_eq_true rfl) hcg (by omega) rfl ?_
          refine K_iret dX3_trade_56 rfl ?_
          exact ⟨rfl, R, F⟩
        · omega
      | succ k =>
        refine K_iload_n dX3_trade_20 rfl rfl ?_
        refine K_bipush (v := nI 10) dX3_trade_21 (by decide) rfl ?_
        refine K_icmp_geN (tgt := 52) dX3_trade_23 (by decide) rfl (by first | omega | fail) (by first | omega | fail) (fun c23 => ?_) (fun c23 => ?_)
        · omega
        · refine K_iload_n dX3_trade_26 rfl rfl ?_
          refine K_if_eqN (tgt := 52) dX3_trade_27 (by decide) rfl (by first | omega | fail) (fun c27 => ?_) (fun c27 => ?_)
          · refine K_aload_n dX3_trade_52 rfl rfl ?_
            refine K_cv (ci := 3) (d1 := d - 1) [] dX3_trade_53 ml_X3_121 (by decide) rfl rfl rfl (Nat.le_of_ble_eq_true rfl) hcg (by omega) rfl ?_
            refine K_iret dX3_trade_56 rfl ?_
            exact ⟨rfl, R, F⟩
          · omega
    · cases k with
      | zero => exact absurd (cnt_zero hL (by omega)) h0
      | succ k =>
        have hsh := c_X3_showHomes (d := d - 1) (S := plG S p) (by omega) R w1 hL
        refine K_iload_n dX3_trade_20 rfl rfl ?_
        refine K_bipush (v := nI 10) dX3_trade_21 (by decide) rfl ?_
        refine K_icmp_geN (tgt := 52) dX3_trade_23 (by decide) rfl (by first | omega | fail) (by first | omega | fail) (fun c23 => ?_) (fun c23 => ?_)
        · omega
        · refine K_iload_n dX3_trade_26 rfl rfl ?_
          refine K_if_eqN (tgt := 52) dX3_trade_27 (by decide) rfl (by first | omega | fail) (fun c27 => ?_) (fun c27 => ?_)
          · omega
          · refine K_aload_n dX3_trade_30 rfl rfl ?_
            refine K_iload_n dX3_trade_31 rfl rfl ?_
            refine K_callV (ci := 3) (d1 := d - 1) [_] dX3_trade_32 ml_X3_179 (by decide) rfl rfl rfl (Nat.le_of_ble_eq_true rfl) hsh (by omega) rfl ?_
            intro r N1 K1 hsz
            obtain ⟨L1, j, z1, z2, z3, z4, z5, z6, z7, z8⟩ := hsz.of
            clear hsz
            subst z1
            subst z8
            have R1 : RX (plG S p) N1 K1 := R.frame (fun i hi => z7 i (by omega)) (fun _ _ => rfl)
            have F1 : FX N0 N1 := F.trans (fun i hi => z7 i (by omega))
            refine K_istore_n (lv' := [(0, _), (1, _), (2, _)]) dX3_trade_35 (by decide) rfl rfl ?_
            refine K_iload_n dX3_trade_36 rfl rfl ?_
            refine K_aload_n dX3_trade_37 rfl rfl ?_
            refine K_iload_n dX3_trade_38 rfl rfl ?_
            refine K_callV (ci := 3) (d1 := d - 1) [_] dX3_trade_39 ml_X3_182 (by decide) rfl rfl rfl (Nat.le_of_ble_eq_true rfl) (c_X3_sendShownRing (by omega) w (N0 := N0) z3 z5 hp R1 F1 z6) (by omega) rfl ?_
            rintro r N2 K2 ⟨g1, y1, y2, y3, y4, y5, y6, y7⟩
            subst y1
            subst y7
            refine K_iconst (v := (-1)) dX3_trade_42 (by decide) rfl ?_
            refine K_ixor dX3_trade_43 rfl ?_
            refine K_iand dX3_trade_44 rfl ?_
            refine K_istore_n (lv' := [(0, _), (1, _), (2, _)]) dX3_trade_45 (by decide) rfl rfl ?_
            first | refine K_incN (lv' := [(0, _), (1, _), (2, _)]) dX3_trade_46 rfl (by decide) rfl rfl ?_ | refine K_iinc (lv' := [(0, _), (1, _), (2, _)]) dX3_trade_46 rfl rfl (by decide) rfl rfl ?_
            refine K_goto (tgt := 20) dX3_trade_49 (by decide) ?_
            rw [an_eq (by omega)]
            have s1 : (stp S (L1, p)).1 < 2 ^ s_n S ∧ cnt (stp S (L1, p)).1.testBit (s_n S) + 1 ≤ cnt L.testBit (s_n S) := by
              by_cases h1 : L1 = 0
              · have hc1 : 0 < cnt L.testBit (s_n S) := Nat.pos_of_ne_zero (fun z => h0 (cnt_zero hL z))
                rw [h1, stp_0]
                exact ⟨Nat.two_pow_pos _, by show cnt (Nat.testBit 0) _ + 1 ≤ _; rw [cnt_0]; omega⟩
              · have := stp_less w (t := (L1, p)) z3 h1
                exact ⟨this.1, Nat.le_trans this.2 z4⟩
            rw [an_is (by omega) y3]
            exact l_X3_trade hd w k (i + 1) (stp S (L1, p)).1 (stp S (L1, p)).2 N2 (by omega) s1.1 (by omega) ⟨m + (j + 1), by rw [itS_add, hm, itS_add, z2]; rfl⟩ y4 y5 y6
  termination_by k => k
theorem trP_c {S S2 : GS} (h1 : s_n S2 = s_n S) (h2 : s_wl S2 = s_wl S) (h3 : s_wc S2 = s_wc S) (h4 : s_tk S2 = s_tk S) : trP S2 = trP S := by
  have a1 : fo S2 = fo S := by funext L f; unfold fo; rw [h2, h3, h4]
  have a2 : sf S2 = sf S := by funext L f; unfold sf; rw [a1]
  have a3 : lv S2 = lv S := by funext L; unfold lv; rw [a1, h1]
  have a4 : rg S2 = rg S := by funext L; unfold rg; rw [a2, h1]
  have a5 : stp S2 = stp S := by funext t; unfold stp; rw [a2, a3, a4, h1]
  have a6 : ∀ k t, itS S2 k t = itS S k t := by
    intro k
    induction k with
    | zero => intro t; rfl
    | succ k ih => intro t; show itS S2 k (stp S2 t) = itS S k (stp S t); rw [a5, ih]
  unfold trP
  rw [a6, h1]
theorem trP_gC (S : GS) : trP (gC S) = trP S := trP_c rfl rfl rfl rfl
set_option maxRecDepth 100000 in
theorem c_X3_trade {d : Nat} (hd : 7 ≤ d) {S : GS} {N : Mem} {K : Mej} (R : RX S N K) (w : WF S) : CK d mX3_trade [.ref 0] N K (PRX (o_trade S).1 (o_trade S).2 N) := by
  have R0 := R.c0
  have w0 := w.c0
  have hn := w.1.1
  have p0 : 0 < 2 ^ s_n S := Nat.two_pow_pos _
  have pp := p10 hn
  have h7 : fillM (sM N 0 13 (nI 0)) 2 10 (-1) 0 7 = nI (s_n S) := by
    unfold fillM
    rw [if_neg (by decide)]
    exact R0.1.1
  have R1 : RX (plG (gC S) (fun _ => none)) (fillM (sM N 0 13 (nI 0)) 2 10 (-1)) K := R0.plG (fun i _ hi => by
    funext j
    unfold fillM
    rw [if_neg (by omega)]) (fun f hf => by
    unfold fillM
    rw [if_pos ⟨rfl, hf⟩]
    rfl) (fun _ _ => rfl)
  have F1 : FX N (fillM (sM N 0 13 (nI 0)) 2 10 (-1)) := fun i hi => by
    funext j
    unfold fillM
    rw [if_neg (by omega), sM_ne (Or.inl (by omega))]
  refine CK.start [(0, _)] (plainFor_of_name (by decide)) (Nat.le_of_ble_eq_true rfl) rfl ?_
  refine K_aload_n dX3_trade_0 rfl rfl ?_
  refine K_iconst (v := nI 0) dX3_trade_1 (by decide) rfl ?_
  refine K_putZ dX3_trade_2 fl_X3_61 (by first | rfl | exact sk_rk (by omega) | exact sk_hh (by omega)) rfl rfl rfl (by first | exact bI_01 _ | exact Or.inl rfl | exact Or.inr rfl | assumption) rfl ?_
  refine K_aload_n dX3_trade_5 rfl rfl ?_
  refine K_c0 (ci := 3) (d1 := d - 1) [] dX3_trade_6 ml_X3_176 (by decide) rfl rfl rfl (Nat.le_of_ble_eq_true rfl) c_X3_clearPlan (by omega) rfl ?_
  refine K_iconst (v := nI 1) dX3_trade_9 (by decide) rfl ?_
  refine K_aload_n dX3_trade_10 rfl rfl ?_
  refine K_getI dX3_trade_11 fl_X3_42 (by first | rfl | exact sk_rk (by omega) | exact sk_hh (by omega)) rfl (by first | assumption | rfl) rfl ?_
  first | refine K_shl1 dX3_trade_14 (by first | omega | fail) rfl ?_ | refine K_shlN dX3_trade_14 (by first | omega | fail) (by first | omega | fail) rfl ?_ | refine K_ishl dX3_trade_14 rfl ?_
  refine K_iconst (v := nI 1) dX3_trade_15 (by decide) rfl ?_
  refine K_subN dX3_trade_16 (by first | omega | fail) rfl ?_
  refine K_istore_n (lv' := [(0, _), (1, _)]) dX3_trade_17 (by decide) rfl rfl ?_
  refine K_iconst (v := nI 0) dX3_trade_18 (by decide) rfl ?_
  refine K_istore_n (lv' := [(0, _), (1, _), (2, _)]) dX3_trade_19 (by decide) rfl rfl ?_
  have key := l_X3_trade (S := gC S) hd w0 (N0 := N) (K := K) 10 0 (2 ^ s_n S - 1) (fun _ => none) (fillM (sM N 0 13 (nI 0)) 2 10 (-1)) rfl (by show 2 ^ s_n S - 1 < 2 ^ s_n S; omega) (Nat.le_trans (cnt_le _ _) hn) ⟨0, rfl⟩ (fun f g h => by cases h) R1 F1
  rw [trP_gC] at key
  exact key
