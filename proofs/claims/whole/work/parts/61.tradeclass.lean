def PSH (S : GS) (L : Nat) (N : Mem) (K : Mej) : PK := fun r N1 K1 => ∃ L1 k, r = some (.int (nI L1)) ∧ (∀ p, itS S k (L, p) = (L1, p)) ∧ L1 < 2 ^ s_n S ∧ cnt L1.testBit (s_n S) ≤ cnt L.testBit (s_n S) ∧ lv S L1 = none ∧ (∀ f, L1.testBit f = true → N1 5 f = nI (sf S L1 f)) ∧ (∀ i, i ≠ 5 → N1 i = N i) ∧ K1 = K
theorem nI_m1 {f : Nat} (h : f < 2 ^ 31) : ¬ nI f = -1 := fun e => by
  have h1 := congrArg Int32.toInt e
  rw [nI_toInt h, show ((-1 : Int32)).toInt = -1 from by decide] at h1
  omega
theorem lv_0 (S : GS) : lv S 0 = none := fnd_none (fun i _ => by rw [Nat.zero_testBit]; rfl)
theorem stp_lv {S : GS} {L f : Nat} (h : lv S L = some f) (p : Nat → Option Nat) : stp S (L, p) = (rmB L f, p) := by
  unfold stp
  rw [show lv S (L, p).1 = some f from h]
theorem l_X3_showHomes {d : Nat} (hd : 6 ≤ d) {S : GS} {N : Mem} {K : Mej} (R : RX S N K) (w : WF S) {L0 : Nat} {x : Int32} :
    ∀ (k i L : Nat) (N1 : Mem), i + k = 10 → L < 2 ^ s_n S → cnt L.testBit (s_n S) + i ≤ 10 → cnt L.testBit (s_n S) ≤ cnt L0.testBit (s_n S) → (∃ m, ∀ p, itS S m (L0, p) = (L, p)) → (∀ i, i ≠ 5 → N1 i = N i) → EK d mX3_showHomes (PSH S L0 N K) 4 [(0, .ref 0), (1, .int x), (2, .int (nI L)), (3, .int (nI i))] [] N1 K
  | 0, i, L, N1, e, hL, hc, hc0, ⟨m, hm⟩, hF => by
    obtain rfl : i = 10 := by omega
    have h0 := cnt_zero hL (by omega)
    subst h0
    refine K_iload_n dX3_showHomes_4 rfl rfl ?_
    refine K_bipush (v := nI 10) dX3_showHomes_5 (by decide) rfl ?_
    refine K_icmp_geN (tgt := 40) dX3_showHomes_7 (by decide) rfl (by first | omega | fail) (by first | omega | fail) (fun c7 => ?_) (fun c7 => ?_)
    · refine K_iload_n dX3_showHomes_40 rfl rfl ?_
      refine K_iret dX3_showHomes_41 rfl ?_
      exact ⟨0, m, rfl, hm, hL, hc0, lv_0 S, (fun f hf => by rw [Nat.zero_testBit] at hf; cases hf), hF, rfl⟩
    · omega
  | k + 1, i, L, N1, e, hL, hc, hc0, ⟨m, hm⟩, hF => by
    have hn := w.1.1
    have p := p10 hn
    have R1 : RX S N1 K := R.frame (fun i hi => hF i (by omega)) (fun _ _ => rfl)
    have ob : oB (lv S L) := oB_fnd hn
    cases hl : lv S L with
    | none =>
      refine K_iload_n dX3_showHomes_4 rfl rfl ?_
      refine K_bipush (v := nI 10) dX3_showHomes_5 (by decide) rfl ?_
      refine K_icmp_geN (tgt := 40) dX3_showHomes_7 (by decide) rfl (by first | omega | fail) (by first | omega | fail) (fun c7 => ?_) (fun c7 => ?_)
      · omega
      · refine K_aload_n dX3_showHomes_10 rfl rfl ?_
        refine K_iload_n dX3_showHomes_11 rfl rfl ?_
        refine K_callV (ci := 3) (d1 := d - 1) [_] dX3_showHomes_12 ml_X3_258 (by decide) rfl rfl rfl (Nat.le_of_ble_eq_true rfl) (c_X3_firstWithoutHome (by omega) R1 w hL) (by omega) rfl ?_
        rintro r N2 K2 ⟨z1, z2, z3, z4⟩
        subst z1
        subst z4
        refine K_istore (lv' := [(0, _), (1, _), (2, _), (3, _), (4, _)]) dX3_showHomes_15 (by decide) rfl rfl ?_
        refine K_iload dX3_showHomes_17 rfl rfl ?_
        refine K_iconst (v := (-1)) dX3_showHomes_19 (by decide) rfl ?_
        refine K_icmp_neO (tgt := 25) dX3_showHomes_20 (by decide) rfl (by first | assumption | fail) (fun c20 => ?_) (fun c20 => ?_)
        · exact absurd hl c20
        · refine K_iload_n dX3_showHomes_23 rfl rfl ?_
          refine K_iret dX3_showHomes_24 rfl ?_
          exact ⟨L, m, rfl, hm, hL, hc0, hl, (fun f hf => by
            rw [z3 hl f (bit_lt hL hf) hf, (lv_none w hL hl hf).1]
            rfl), fun i hi => (z2 i hi).trans (hF i hi), rfl⟩
    | some f =>
      have hf := fnd_lt hl
      rw [Bool.and_eq_true] at hf
      have hrc := rmB_cnt hn hL hf.2.1
      have hem : ∀ p, itS S (m + 1) (L0, p) = (rmB L f, p) := fun p => by
        rw [itS_add, hm]
        exact stp_lv hl p
      refine K_iload_n dX3_showHomes_4 rfl rfl ?_
      refine K_bipush (v := nI 10) dX3_showHomes_5 (by decide) rfl ?_
      refine K_icmp_geN (tgt := 40) dX3_showHomes_7 (by decide) rfl (by first | omega | fail) (by first | omega | fail) (fun c7 => ?_) (fun c7 => ?_)
      · omega
      · refine K_aload_n dX3_showHomes_10 rfl rfl ?_
        refine K_iload_n dX3_showHomes_11 rfl rfl ?_
        refine K_callV (ci := 3) (d1 := d - 1) [_] dX3_showHomes_12 ml_X3_258 (by decide) rfl rfl rfl (Nat.le_of_ble_eq_true rfl) (c_X3_firstWithoutHome (by omega) R1 w hL) (by omega) rfl ?_
        rintro r N2 K2 ⟨z1, z2, z3, z4⟩
        rw [hl] at z1
        subst z1
        subst z4
        rw [hl] at ob
        show EK d _ _ _ _ (.int (nI f) :: []) N2 _
        refine K_istore (lv' := [(0, _), (1, _), (2, _), (3, _), (4, _)]) dX3_showHomes_15 (by decide) rfl rfl ?_
        refine K_iload dX3_showHomes_17 rfl rfl ?_
        refine K_iconst (v := (-1)) dX3_showHomes_19 (by decide) rfl ?_
        refine K_icmp_ne (tgt := 25) dX3_showHomes_20 (by decide) rfl (fun c20 => ?_) (fun c20 => ?_)
        · refine K_iload_n dX3_showHomes_25 rfl rfl ?_
          refine K_iconst (v := nI 1) dX3_showHomes_26 (by decide) rfl ?_
          refine K_iload dX3_showHomes_27 rfl rfl ?_
          first | refine K_shl1 dX3_showHomes_29 (by first | omega | fail) rfl ?_ | refine K_shlN dX3_showHomes_29 (by first | omega | fail) (by first | omega | fail) rfl ?_ | refine K_ishl dX3_showHomes_29 rfl ?_
          refine K_iconst (v := (-1)) dX3_showHomes_30 (by decide) rfl ?_
          refine K_ixor dX3_showHomes_31 rfl ?_
          refine K_iand dX3_showHomes_32 rfl ?_
          refine K_istore_n (lv' := [(0, _), (1, _), (2, _), (3, _), (4, _)]) dX3_showHomes_33 (by decide) rfl rfl ?_
          first | refine K_incN (lv' := [(0, _), (1, _), (2, _), (3, _), (4, _)]) dX3_showHomes_34 rfl (by decide) rfl rfl ?_ | refine K_iinc (lv' := [(0, _), (1, _), (2, _), (3, _), (4, _)]) dX3_showHomes_34 rfl rfl (by decide) rfl rfl ?_
          refine K_goto (tgt := 4) dX3_showHomes_37 (by decide) ?_
          refine K_pick [0, 1, 2, 3] rfl ?_
          rw [rm_eq (by omega)]
          exact l_X3_showHomes hd R w k (i + 1) (rmB L f) N2 (by omega) (rmB_lt hL) (by omega) (by omega) ⟨m + 1, hem⟩ (fun i hi => (z2 i hi).trans (hF i hi))
        · exact absurd c20 (nI_m1 (by omega))
set_option maxRecDepth 100000 in
theorem c_X3_showHomes {d : Nat} (hd : 6 ≤ d) {S : GS} {N : Mem} {K : Mej} (R : RX S N K) (w : WF S) {L : Nat} (hL : L < 2 ^ s_n S) : CK d mX3_showHomes [.ref 0, .int (nI L)] N K (PSH S L N K) := by
  refine CK.start [(0, _), (1, _)] (plainFor_of_name (by decide)) (Nat.le_of_ble_eq_true rfl) rfl ?_
  refine K_iload_n dX3_showHomes_0 rfl rfl ?_
  refine K_istore_n (lv' := [(0, _), (1, _), (2, _)]) dX3_showHomes_1 (by decide) rfl rfl ?_
  refine K_iconst (v := nI 0) dX3_showHomes_2 (by decide) rfl ?_
  refine K_istore_n (lv' := [(0, _), (1, _), (2, _), (3, _)]) dX3_showHomes_3 (by decide) rfl rfl ?_
  exact l_X3_showHomes hd R w 10 0 L N rfl hL (by have := cnt_le L.testBit (s_n S); have := w.1.1; omega) (Nat.le_refl _) ⟨0, fun _ => rfl⟩ (fun _ _ => rfl)
theorem l_X3_comesRound {d : Nat} {n : Nat} {N : Mem} {K : Mej} {s : Nat → Nat} {L f : Nat} (hn : n ≤ 10) (h7 : N 0 7 = nI n) (hf : f < 10) (hs : ∀ x, L.testBit x = true → N 5 x = nI (s x) ∧ L.testBit (s x) = true) (hL : L < 1024) :
    ∀ (k i x : Nat), i + k = n → L.testBit x = true → EK d mX3_comesRound (PX (some (.int (bI (rd s f k x)))) N K) 9 [(0, .ref 0), (1, .int (nI f)), (2, .int (nI x)), (3, .int (nI i))] [] N K
  | 0, i, x, e, hx => by
    have x10 := bit_lt (n := 10) hL hx
    refine K_iload_n dX3_comesRound_9 rfl rfl ?_
    refine K_aload_n dX3_comesRound_10 rfl rfl ?_
    refine K_getI dX3_comesRound_11 fl_X3_42 (by first | rfl | exact sk_rk (by omega) | exact sk_hh (by omega)) rfl (by first | assumption | rfl) rfl ?_
    refine K_icmp_geN (tgt := 35) dX3_comesRound_14 (by decide) rfl (by first | omega | fail) (by first | omega | fail) (fun c14 => ?_) (fun c14 => ?_)
    · refine K_iload_n dX3_comesRound_35 rfl rfl ?_
      refine K_iload_n dX3_comesRound_36 rfl rfl ?_
      refine K_icmp_neN (tgt := 44) dX3_comesRound_37 (by decide) rfl (by first | omega | fail) (by first | omega | fail) (fun c37 => ?_) (fun c37 => ?_)
      · refine K_iconst (v := nI 0) dX3_comesRound_44 (by decide) rfl ?_
        refine K_zret dX3_comesRound_45 rfl (by first | rfl | exact bI_nar _) ?_
        rw [rd]
        first | (rw [decide_eq_true c37]; exact ⟨rfl, rfl, rfl⟩) | (rw [decide_eq_false c37]; exact ⟨rfl, rfl, rfl⟩)
      · refine K_iconst (v := nI 1) dX3_comesRound_40 (by decide) rfl ?_
        refine K_goto (tgt := 45) dX3_comesRound_41 (by decide) ?_
        refine K_zret dX3_comesRound_45 rfl (by first | rfl | exact bI_nar _) ?_
        rw [rd]
        first | (rw [decide_eq_true c37]; exact ⟨rfl, rfl, rfl⟩) | (rw [decide_eq_false c37]; exact ⟨rfl, rfl, rfl⟩)
    · omega
  | k + 1, i, x, e, hx => by
    have x10 := bit_lt (n := 10) hL hx
    have h5 := (hs x hx).1
    by_cases hz : x = f
    · have e2 : rd s f (k + 1) x = true := by unfold rd; rw [if_pos hz]
      rw [e2]
      refine K_iload_n dX3_comesRound_9 rfl rfl ?_
      refine K_aload_n dX3_comesRound_10 rfl rfl ?_
      refine K_getI dX3_comesRound_11 fl_X3_42 (by first | rfl | exact sk_rk (by omega) | exact sk_hh (by omega)) rfl (by first | assumption | rfl) rfl ?_
      refine K_icmp_geN (tgt := 35) dX3_comesRound_14 (by decide) rfl (by first | omega | fail) (by first | omega | fail) (fun c14 => ?_) (fun c14 => ?_)
      · omega
      · refine K_iload_n dX3_comesRound_17 rfl rfl ?_
        refine K_iload_n dX3_comesRound_18 rfl rfl ?_
        refine K_icmp_eqN (tgt := 35) dX3_comesRound_19 (by decide) rfl (by first | omega | fail) (by first | omega | fail) (fun c19 => ?_) (fun c19 => ?_)
        · refine K_iload_n dX3_comesRound_35 rfl rfl ?_
          refine K_iload_n dX3_comesRound_36 rfl rfl ?_
          refine K_icmp_neN (tgt := 44) dX3_comesRound_37 (by decide) rfl (by first | omega | fail) (by first | omega | fail) (fun c37 => ?_) (fun c37 => ?_)
          · exact absurd hz c37
          · refine K_iconst (v := nI 1) dX3_comesRound_40 (by decide) rfl ?_
            refine K_goto (tgt := 45) dX3_comesRound_41 (by decide) ?_
            refine K_zret dX3_comesRound_45 rfl (by first | rfl | exact bI_nar _) ?_
            exact ⟨rfl, rfl, rfl⟩
        · exact absurd hz c19
    · have e2 : rd s f (k + 1) x = rd s f k (s x) := by show (if x = f then true else _) = _; rw [if_neg hz]
      have ih := l_X3_comesRound (d := d) (K := K) hn h7 hf hs hL k (i + 1) (s x) (by omega) (hs x hx).2
      rw [e2]
      refine K_iload_n dX3_comesRound_9 rfl rfl ?_
      refine K_aload_n dX3_comesRound_10 rfl rfl ?_
      refine K_getI dX3_comesRound_11 fl_X3_42 (by first | rfl | exact sk_rk (by omega) | exact sk_hh (by omega)) rfl (by first | assumption | rfl) rfl ?_
      refine K_icmp_geN (tgt := 35) dX3_comesRound_14 (by decide) rfl (by first | omega | fail) (by first | omega | fail) (fun c14 => ?_) (fun c14 => ?_)
      · omega
      · refine K_iload_n dX3_comesRound_17 rfl rfl ?_
        refine K_iload_n dX3_comesRound_18 rfl rfl ?_
        refine K_icmp_eqN (tgt := 35) dX3_comesRound_19 (by decide) rfl (by first | omega | fail) (by first | omega | fail) (fun c19 => ?_) (fun c19 => ?_)
        · exact absurd c19 hz
        · refine K_aload_n dX3_comesRound_22 rfl rfl ?_
          refine K_getR (r := 5) dX3_comesRound_23 fl_X3_25 rfl rfl rfl rfl ?_
          refine K_iload_n dX3_comesRound_26 rfl rfl ?_
          refine K_iald dX3_comesRound_27 (by first | rfl | exact sk_rk (by omega) | exact sk_hh (by omega)) (by first | omega | fail) (by decide) (by first | assumption | rfl) rfl ?_
          refine K_istore_n (lv' := [(0, _), (1, _), (2, _), (3, _)]) dX3_comesRound_28 (by decide) rfl rfl ?_
          first | refine K_incN (lv' := [(0, _), (1, _), (2, _), (3, _)]) dX3_comesRound_29 rfl (by decide) rfl rfl ?_ | refine K_iinc (lv' := [(0, _), (1, _), (2, _), (3, _)]) dX3_comesRound_29 rfl rfl (by decide) rfl rfl ?_
          refine K_goto (tgt := 9) dX3_comesRound_32 (by decide) ?_
          exact ih
set_option maxRecDepth 100000 in
theorem c_X3_comesRound {d : Nat} {n : Nat} {N : Mem} {K : Mej} {s : Nat → Nat} {L f : Nat} (hn : n ≤ 10) (h7 : N 0 7 = nI n) (hf : L.testBit f = true) (hs : ∀ x, L.testBit x = true → N 5 x = nI (s x) ∧ L.testBit (s x) = true) (hL : L < 1024) : CK d mX3_comesRound [.ref 0, .int (nI f)] N K (PX (some (.int (bI (rd s f n (s f))))) N K) := by
  have f10 := bit_lt (n := 10) hL hf
  have h5 := (hs f hf).1
  refine CK.start [(0, _), (1, _)] (plainFor_of_name (by decide)) (Nat.le_of_ble_eq_true rfl) rfl ?_
  refine K_aload_n dX3_comesRound_0 rfl rfl ?_
  refine K_getR (r := 5) dX3_comesRound_1 fl_X3_25 rfl rfl rfl rfl ?_
  refine K_iload_n dX3_comesRound_4 rfl rfl ?_
  refine K_iald dX3_comesRound_5 (by first | rfl | exact sk_rk (by omega) | exact sk_hh (by omega)) (by first | omega | fail) (by decide) (by first | assumption | rfl) rfl ?_
  refine K_istore_n (lv' := [(0, _), (1, _), (2, _)]) dX3_comesRound_6 (by decide) rfl rfl ?_
  refine K_iconst (v := nI 0) dX3_comesRound_7 (by decide) rfl ?_
  refine K_istore_n (lv' := [(0, _), (1, _), (2, _), (3, _)]) dX3_comesRound_8 (by decide) rfl rfl ?_
  exact l_X3_comesRound hn h7 f10 hs hL n 0 (s f) (by omega) (hs f hf).2
/-- the plan keeps within the families -/
def PW (S : GS) (p : Nat → Option Nat) : Prop := ∀ f g, p f = some g → f < s_n S ∧ g < s_n S ∧ g ≠ f
theorem WF.plG {S : GS} (w : WF S) {q : Nat → Option Nat} (h : PW S q) : WF (plG S q) := by
  obtain ⟨w1, w2, w3, w4, -, w6, w7⟩ := w
  refine ⟨w1, w2, fun f h1 h2 => ?_, w4, fun f g _ hq => h f g hq, w6, w7⟩
  obtain ⟨a1, a2, a3, a4, a5, a6, -, a8, a9⟩ := w3 f h1 h2
  refine ⟨a1, a2, a3, a4, a5, a6, ?_, a8, a9⟩
  show q f = none
  cases e : q f with
  | none => rfl
  | some g =>
    have := (h f g e).1
    have h1 : s_n S ≤ f := h1
    omega
theorem plG_2 (S : GS) (p q : Nat → Option Nat) : plG (plG S p) q = plG S q := by
  unfold plG
  congr 3
  funext a b c
  show (if a = 0 then q b else if a = 0 then p b else _) = _
  split <;> rfl
theorem plG_twice {S : GS} {p q : Nat → Option Nat} {N : Mem} {K : Mej} (R : RX (plG (plG S p) q) N K) : RX (plG S q) N K := by rw [plG_2] at R; exact R
theorem l_X3_sendAsShown {d : Nat} {S : GS} (w : WF S) {N0 : Mem} {K : Mej} {s : Nat → Nat} {L0 : Nat} {y : Int32} (hs : ∀ x, L0.testBit x = true → L0.testBit (s x) = true ∧ s x ≠ x) (hL0 : L0 < 2 ^ s_n S) :
    ∀ (k i x gone : Nat) (t : Nat × (Nat → Option Nat)) (N : Mem), i + k = s_n S → L0.testBit x = true → gone < 1024 → (∀ j, j < 10 → t.1.testBit j = (L0.testBit j && !gone.testBit j)) → t.1 < 2 ^ s_n S → PW S t.2 → RX (plG S t.2) N K → FX N0 N → (∀ x, L0.testBit x = true → N 5 x = nI (s x)) →
    EK d mX3_sendAsShown (fun r N1 K1 => ∃ g1, r = some (.int (nI g1)) ∧ g1 < 1024 ∧ (∀ j, j < 10 → (rwk s k x t).1.testBit j = (L0.testBit j && !g1.testBit j)) ∧ PW S (rwk s k x t).2 ∧ RX (plG S (rwk s k x t).2) N1 K ∧ FX N0 N1 ∧ K1 = K) 7 [(0, .ref 0), (1, .int y), (2, .int (nI gone)), (3, .int (nI x)), (4, .int (nI i))] [] N K
  | 0, i, x, gone, t, N, e, hx, hg, ht, hL, hp, R, F, h5 => by
    have hn := w.1.1
    have h7 : N 0 7 = nI (s_n S) := R.1.1
    refine K_iload dX3_sendAsShown_7 rfl rfl ?_
    refine K_aload_n dX3_sendAsShown_9 rfl rfl ?_
    refine K_getI dX3_sendAsShown_10 fl_X3_42 (by first | rfl | exact sk_rk (by omega) | exact sk_hh (by omega)) rfl (by first | assumption | rfl) rfl ?_
    refine K_icmp_geN (tgt := 55) dX3_sendAsShown_13 (by decide) rfl (by first | omega | fail) (by first | omega | fail) (fun c13 => ?_) (fun c13 => ?_)
    · refine K_iload_n dX3_sendAsShown_55 rfl rfl ?_
      refine K_iret dX3_sendAsShown_56 rfl ?_
      exact ⟨gone, rfl, hg, ht, hp, R, F, rfl⟩
    · omega
  | k + 1, i, x, gone, t, N, e, hx, hg, ht, hL, hp, R, F, h5 => by
    have hn := w.1.1
    have h7 : N 0 7 = nI (s_n S) := R.1.1
    have hxn := bit_lt hL0 hx
    have h5x := h5 x hx
    have htx := ht x (by omega)
    rw [hx, Bool.true_and] at htx
    cases hgx : gone.testBit x with
    | true =>
      rw [hgx] at htx
      have e2 : rwk s (k + 1) x t = t := by show (if t.1.testBit x = true then _ else t) = t; rw [if_neg (by rw [htx]; decide)]
      rw [e2]
      refine K_iload dX3_sendAsShown_7 rfl rfl ?_
      refine K_aload_n dX3_sendAsShown_9 rfl rfl ?_
      refine K_getI dX3_sendAsShown_10 fl_X3_42 (by first | rfl | exact sk_rk (by omega) | exact sk_hh (by omega)) rfl (by first | assumption | rfl) rfl ?_
      refine K_icmp_geN (tgt := 55) dX3_sendAsShown_13 (by decide) rfl (by first | omega | fail) (by first | omega | fail) (fun c13 => ?_) (fun c13 => ?_)
      · omega
      · refine K_iload_n dX3_sendAsShown_16 rfl rfl ?_
        refine K_iload_n dX3_sendAsShown_17 rfl rfl ?_
        first | refine K_shrN dX3_sendAsShown_18 (by first | omega | fail) (by first | omega | fail) rfl ?_ | refine K_ishr dX3_sendAsShown_18 rfl ?_
        refine K_iconst (v := nI 1) dX3_sendAsShown_19 (by decide) rfl ?_
        first | refine K_bitN dX3_sendAsShown_20 rfl ?_ | refine K_andN dX3_sendAsShown_20 rfl ?_ | refine K_iand dX3_sendAsShown_20 rfl ?_
        refine K_if_neB (tgt := 55) dX3_sendAsShown_21 (by decide) rfl (fun c21 => ?_) (fun c21 => ?_)
        · refine K_iload_n dX3_sendAsShown_55 rfl rfl ?_
          refine K_iret dX3_sendAsShown_56 rfl ?_
          exact ⟨gone, rfl, hg, ht, hp, R, F, rfl⟩
        · rw [hgx] at c21; cases c21
    | false =>
      rw [hgx] at htx
      have htx : t.1.testBit x = true := htx
      have e2 : rwk s (k + 1) x t = rwk s k (s x) (rmB t.1 x, fun i => if i = x then some (s x) else t.2 i) := by show (if t.1.testBit x = true then _ else t) = _; rw [if_pos htx]
      have sxn := bit_lt hL0 (hs x hx).1
      have h5x2 : sM N 2 x (nI (s x)) 5 x = nI (s x) := (sM_ne (Or.inl (by decide))).trans h5x
      have ih := l_X3_sendAsShown (d := d) w (N0 := N0) (K := K) (y := y) hs hL0 k (i + 1) (s x) (gone ||| 2 ^ x) (rmB t.1 x, fun i => if i = x then some (s x) else t.2 i) (sM N 2 x (nI (s x))) (by omega) (hs x hx).1 (Nat.or_lt_two_pow (n := 10) hg (Nat.pow_lt_pow_right (by omega) (by omega))) (fun j hj => by
        show (rmB t.1 x).testBit j = _
        rw [rmB_bit hj, ht j hj, or_bit]
        by_cases e3 : j = x
        · simp [e3]
        · simp [e3]) (rmB_lt hL) (fun f g hfg => by
        by_cases e3 : f = x
        · have hfg : (if f = x then some (s x) else t.2 f) = some g := hfg
          rw [if_pos e3] at hfg
          cases hfg
          rw [e3]
          exact ⟨hxn, sxn, (hs x hx).2⟩
        · have hfg : (if f = x then some (s x) else t.2 f) = some g := hfg
          rw [if_neg e3] at hfg
          exact hp f g hfg) (RX.plG (q := fun i => if i = x then some (s x) else t.2 i) (S := plG S t.2) R (fun j _ hj => sM_row hj) (fun f hf => by
        rw [sM_at]
        by_cases e3 : f = x
        · rw [if_pos ⟨rfl, e3⟩, if_pos e3]; rfl
        · rw [if_neg (by omega), if_neg e3]
          exact R.2.2.2.1 f hf) (fun _ _ => rfl) |> plG_twice) (F.set (by decide)) (fun z hz => (sM_ne (Or.inl (by decide))).trans (h5 z hz))
      rw [e2]
      refine K_iload dX3_sendAsShown_7 rfl rfl ?_
      refine K_aload_n dX3_sendAsShown_9 rfl rfl ?_
      refine K_getI dX3_sendAsShown_10 fl_X3_42 (by first | rfl | exact sk_rk (by omega) | exact sk_hh (by omega)) rfl (by first | assumption | rfl) rfl ?_
      refine K_icmp_geN (tgt := 55) dX3_sendAsShown_13 (by decide) rfl (by first | omega | fail) (by first | omega | fail) (fun c13 => ?_) (fun c13 => ?_)
      · omega
      · refine K_iload_n dX3_sendAsShown_16 rfl rfl ?_
        refine K_iload_n dX3_sendAsShown_17 rfl rfl ?_
        first | refine K_shrN dX3_sendAsShown_18 (by first | omega | fail) (by first | omega | fail) rfl ?_ | refine K_ishr dX3_sendAsShown_18 rfl ?_
        refine K_iconst (v := nI 1) dX3_sendAsShown_19 (by decide) rfl ?_
        first | refine K_bitN dX3_sendAsShown_20 rfl ?_ | refine K_andN dX3_sendAsShown_20 rfl ?_ | refine K_iand dX3_sendAsShown_20 rfl ?_
        refine K_if_neB (tgt := 55) dX3_sendAsShown_21 (by decide) rfl (fun c21 => ?_) (fun c21 => ?_)
        · rw [hgx] at c21; cases c21
        · refine K_iload_n dX3_sendAsShown_24 rfl rfl ?_
          refine K_iconst (v := nI 1) dX3_sendAsShown_25 (by decide) rfl ?_
          refine K_iload_n dX3_sendAsShown_26 rfl rfl ?_
          first | refine K_shl1 dX3_sendAsShown_27 (by first | omega | fail) rfl ?_ | refine K_shlN dX3_sendAsShown_27 (by first | omega | fail) (by first | omega | fail) rfl ?_ | refine K_ishl dX3_sendAsShown_27 rfl ?_
          refine K_orN dX3_sendAsShown_28 rfl ?_
          refine K_istore_n (lv' := [(0, _), (1, _), (2, _), (3, _), (4, _)]) dX3_sendAsShown_29 (by decide) rfl rfl ?_
          refine K_aload_n dX3_sendAsShown_30 rfl rfl ?_
          refine K_getR (r := 2) dX3_sendAsShown_31 fl_X3_15 rfl rfl rfl rfl ?_
          refine K_iload_n dX3_sendAsShown_34 rfl rfl ?_
          refine K_aload_n dX3_sendAsShown_35 rfl rfl ?_
          refine K_getR (r := 5) dX3_sendAsShown_36 fl_X3_25 rfl rfl rfl rfl ?_
          refine K_iload_n dX3_sendAsShown_39 rfl rfl ?_
          refine K_iald dX3_sendAsShown_40 (by first | rfl | exact sk_rk (by omega) | exact sk_hh (by omega)) (by first | omega | fail) (by decide) (by first | assumption | rfl) rfl ?_
          refine K_iast dX3_sendAsShown_41 (by first | rfl | exact sk_rk (by omega) | exact sk_hh (by omega)) (by first | omega | fail) (by decide) rfl ?_
          refine K_aload_n dX3_sendAsShown_42 rfl rfl ?_
          refine K_getR (r := 5) dX3_sendAsShown_43 fl_X3_25 rfl rfl rfl rfl ?_
          refine K_iload_n dX3_sendAsShown_46 rfl rfl ?_
          refine K_iald dX3_sendAsShown_47 (by first | rfl | exact sk_rk (by omega) | exact sk_hh (by omega)) (by first | omega | fail) (by decide) (by first | assumption | rfl) rfl ?_
          refine K_istore_n (lv' := [(0, _), (1, _), (2, _), (3, _), (4, _)]) dX3_sendAsShown_48 (by decide) rfl rfl ?_
          first | refine K_incN (lv' := [(0, _), (1, _), (2, _), (3, _), (4, _)]) dX3_sendAsShown_49 rfl (by decide) rfl rfl ?_ | refine K_iinc (lv' := [(0, _), (1, _), (2, _), (3, _), (4, _)]) dX3_sendAsShown_49 rfl rfl (by decide) rfl rfl ?_
          refine K_goto (tgt := 7) dX3_sendAsShown_52 (by decide) ?_
          exact ih
