theorem lo_X1_growWays {d : Nat} (hd : 2 ≤ d) {S : GS} {k : Bool} {s : Nat} {N : Mem} {K0 : Mej} (hn : s_n S ≤ 10) (hmo : s_mo S ≤ 10) (hs : s < s_n S) (h5 : N 6 5 = nI (s_n S)) (E : ETb S k K0) :
    ∀ (kk A : Nat) (O : Nat → Nat → Option Int) (R : Nat → Option Int) (K : Mej), A + kk = 2 ^ (s_n S - 1 - s) → 0 < A → GI S k s O R K0 K → (∀ B i, 0 < B → B < A → s + 1 + i < s_n S → PrO S k s O R B i) → EK d mX1_growWays (fun r N1 K1 => r = none ∧ N1 = N ∧ (∀ b, b ≠ 13 → b ≠ 14 → K1 b = K0 b) ∧ ∃ R, RTb S R K1 ∧ SndR S k R ∧ ∀ s2, s2 < s + 1 → CmR S k R s2) 12 [(0, .ref 6), (1, .int (nI s)), (2, .int (nI (s_mo S))), (3, .int (nI (s_n S - 1 - s))), (4, .int (nI A))] [] N K
  | 0, A, O, R, K, e, A0, I, hB => by
    have p := p9 (s := s) hn
    have hA : A = 2 ^ (s_n S - 1 - s) := by omega
    subst hA
    refine K_iload dX1_growWays_12 rfl rfl ?_
    refine K_iconst (v := nI 1) dX1_growWays_14 (by decide) rfl ?_
    refine K_iload_n dX1_growWays_15 rfl rfl ?_
    first | refine K_shl1 dX1_growWays_16 (by first | omega | fail) rfl ?_ | refine K_shlN dX1_growWays_16 (by first | omega | fail) (by first | omega | fail) rfl ?_ | refine K_ishl dX1_growWays_16 rfl ?_
    refine K_icmp_geN (tgt := 100) dX1_growWays_17 (by decide) rfl (by first | omega | fail) (by first | omega | fail) (fun c17 => ?_) (fun c17 => ?_)
    · refine K_ret dX1_growWays_100 rfl ?_
      refine ⟨rfl, rfl, I.2.2.2.2.2.2, R, I.2.2.2.2.1, I.2.1, fun s2 h => ?_⟩
      rcases Nat.lt_succ_iff_lt_or_eq.mp h with h | rfl
      · exact I.2.2.2.2.2.1 s2 h
      · exact cmR hn I.2.2.1 (fun B j b1 b2 b3 => hB B j b1 (by rw [show s_n S - 1 - s2 = s_n S - (s2 + 1) by omega]; exact b2) b3)
    · omega
  | kk + 1, A, O, R, K, e, A0, I, hB => by
    have p := p9 (s := s) hn
    refine K_iload dX1_growWays_12 rfl rfl ?_
    refine K_iconst (v := nI 1) dX1_growWays_14 (by decide) rfl ?_
    refine K_iload_n dX1_growWays_15 rfl rfl ?_
    first | refine K_shl1 dX1_growWays_16 (by first | omega | fail) rfl ?_ | refine K_shlN dX1_growWays_16 (by first | omega | fail) (by first | omega | fail) rfl ?_ | refine K_ishl dX1_growWays_16 rfl ?_
    refine K_icmp_geN (tgt := 100) dX1_growWays_17 (by decide) rfl (by first | omega | fail) (by first | omega | fail) (fun c17 => ?_) (fun c17 => ?_)
    · omega
    · refine K_iload dX1_growWays_20 rfl rfl ?_
      refine K_sv (d1 := d - 1) [_] dX1_growWays_22 ml_X1_55 rfl rfl (Nat.le_of_ble_eq_true rfl) (c_J6_bitCount (m := A) (by omega)) (by omega) rfl ?_
      refine K_iconst (v := nI 1) dX1_growWays_25 (by decide) rfl ?_
      refine K_addN dX1_growWays_26 rfl ?_
      refine K_istore (lv' := [(0, _), (1, _), (2, _), (3, _), (4, _), (5, _)]) dX1_growWays_27 (by decide) rfl rfl ?_
      refine K_iconst (v := nI 0) dX1_growWays_29 (by decide) rfl ?_
      refine K_istore (lv' := [(0, _), (1, _), (2, _), (3, _), (4, _), (5, _), (6, _)]) dX1_growWays_30 (by decide) rfl rfl ?_
      exact li_X1_growWays hd hn hmo hs h5 E (by omega) A0 (fun O2 R2 K2 J hP => lo_X1_growWays hd hn hmo hs h5 E kk (A + 1) O2 R2 K2 (by omega) (by omega) J hP) (s_n S - 1 - s) 0 O R K (by omega) I hB (fun i hi => absurd hi (Nat.not_lt_zero i))
set_option maxRecDepth 100000 in
theorem c_X1_growWays {d : Nat} (hd : 2 ≤ d) {S : GS} {k : Bool} {s : Nat} {N : Mem} {K : Mej} {R : Nat → Option Int} (hn : s_n S ≤ 10) (hmo : s_mo S ≤ 10) (hs : s < s_n S) (h5 : N 6 5 = nI (s_n S)) (E : ETb S k K) (TO : OTb S s (O0 S k s (s_n S - 1 - s)) K) (TR : RTb S R K) (sR : SndR S k R) (cR : ∀ s2, s2 < s → CmR S k R s2) : CK d mX1_growWays [.ref 6, .int (nI s), .int (nI (s_mo S))] N K (fun r N1 K1 => r = none ∧ N1 = N ∧ (∀ b, b ≠ 13 → b ≠ 14 → K1 b = K b) ∧ ∃ R, RTb S R K1 ∧ SndR S k R ∧ ∀ s2, s2 < s + 1 → CmR S k R s2) := by
  have p0 : 0 < 2 ^ (s_n S - 1 - s) := Nat.two_pow_pos _
  refine CK.start [(0, _), (1, _), (2, _)] (plainFor_of_name (by decide)) (Nat.le_of_ble_eq_true rfl) rfl ?_
  refine K_aload_n dX1_growWays_0 rfl rfl ?_
  refine K_getI dX1_growWays_1 fl_X1_27 (by first | rfl | exact sk_rk (by omega) | exact sk_hh (by omega)) rfl (by first | assumption | rfl) rfl ?_
  refine K_iconst (v := nI 1) dX1_growWays_4 (by decide) rfl ?_
  refine K_subN dX1_growWays_5 (by first | omega | fail) rfl ?_
  refine K_iload_n dX1_growWays_6 rfl rfl ?_
  refine K_subN dX1_growWays_7 (by first | omega | fail) rfl ?_
  refine K_istore_n (lv' := [(0, _), (1, _), (2, _), (3, _)]) dX1_growWays_8 (by decide) rfl rfl ?_
  refine K_iconst (v := nI 1) dX1_growWays_9 (by decide) rfl ?_
  refine K_istore (lv' := [(0, _), (1, _), (2, _), (3, _), (4, _)]) dX1_growWays_10 (by decide) rfl rfl ?_
  exact lo_X1_growWays hd hn hmo hs h5 E (2 ^ (s_n S - 1 - s) - 1) 1 _ R K (by omega) (by omega) ⟨O0_snd hs, sR, O0_ini, TO, TR, cR, fun _ _ _ => rfl⟩ (fun B i b1 b2 => by omega)
theorem l2_X1_findRings {d : Nat} (hd : 3 ≤ d) {S : GS} {k : Bool} {N : Mem} {K0 : Mej} (hn : s_n S ≤ 10) (hmo : s_mo S ≤ 10) (h5 : N 6 5 = nI (s_n S)) (E : ETb S k K0) :
    ∀ (kk s : Nat) (R : Nat → Option Int) (K : Mej), s + kk = s_n S → (∀ b, b ≠ 13 → b ≠ 14 → K b = K0 b) → RTb S R K → SndR S k R → (∀ s2, s2 < s → CmR S k R s2) → EK d mX1_findRings (fun r N1 K1 => r = none ∧ N1 = N ∧ (∀ b, b ≠ 13 → b ≠ 14 → K1 b = K0 b) ∧ ∃ R, RTb S R K1 ∧ SndR S k R ∧ ∀ s2, s2 < s_n S → CmR S k R s2) 29 [(0, .ref 6), (1, .int (nI (s_mo S))), (2, .int (nI s))] [] N K
  | 0, s, R, K, e, hF, TR, sR, cR => by
    have hs : s = s_n S := by omega
    subst hs
    refine K_iload_n dX1_findRings_29 rfl rfl ?_
    refine K_aload_n dX1_findRings_30 rfl rfl ?_
    refine K_getI dX1_findRings_31 fl_X1_27 (by first | rfl | exact sk_rk (by omega) | exact sk_hh (by omega)) rfl (by first | assumption | rfl) rfl ?_
    refine K_icmp_geN (tgt := 54) dX1_findRings_34 (by decide) rfl (by first | omega | fail) (by first | omega | fail) (fun c34 => ?_) (fun c34 => ?_)
    · refine K_ret dX1_findRings_54 rfl ?_
      exact ⟨rfl, rfl, hF, R, TR, sR, cR⟩
    · omega
  | kk + 1, s, R, K, e, hF, TR, sR, cR => by
    have hs : s < s_n S := by omega
    have E1 : ETb S k K := fun f g hf hg => by rw [hF 12 (by decide) (by decide)]; exact E f g hf hg
    refine K_iload_n dX1_findRings_29 rfl rfl ?_
    refine K_aload_n dX1_findRings_30 rfl rfl ?_
    refine K_getI dX1_findRings_31 fl_X1_27 (by first | rfl | exact sk_rk (by omega) | exact sk_hh (by omega)) rfl (by first | assumption | rfl) rfl ?_
    refine K_icmp_geN (tgt := 54) dX1_findRings_34 (by decide) rfl (by first | omega | fail) (by first | omega | fail) (fun c34 => ?_) (fun c34 => ?_)
    · omega
    · refine K_aload_n dX1_findRings_37 rfl rfl ?_
      refine K_iload_n dX1_findRings_38 rfl rfl ?_
      refine K_callV (ci := 1) (d1 := d - 1) [_] dX1_findRings_39 ml_X1_48 (by decide) rfl rfl rfl (Nat.le_of_ble_eq_true rfl) (c_X1_openWays hn hs h5 E1) (by omega) rfl ?_
      rintro r N2 K2 ⟨z1, z2, z3, z4⟩
      subst z1
      subst z2
      have E2 : ETb S k K2 := fun f g hf hg => by rw [z3 12 (by decide)]; exact E1 f g hf hg
      have T2 : RTb S R K2 := fun X hX => by rw [z3 14 (by decide)]; exact TR X hX
      refine K_aload_n dX1_findRings_42 rfl rfl ?_
      refine K_iload_n dX1_findRings_43 rfl rfl ?_
      refine K_iload_n dX1_findRings_44 rfl rfl ?_
      refine K_callV (ci := 1) (d1 := d - 1) [_, _] dX1_findRings_45 ml_X1_51 (by decide) rfl rfl rfl (Nat.le_of_ble_eq_true rfl) (c_X1_growWays (by omega) hn hmo hs h5 E2 z4 T2 sR cR) (by omega) rfl ?_
      rintro r N3 K3 ⟨y1, y2, y3, R3, y4, y5, y6⟩
      subst y1
      subst y2
      first | refine K_incN (lv' := [(0, _), (1, _), (2, _)]) dX1_findRings_48 rfl (by decide) rfl rfl ?_ | refine K_iinc (lv' := [(0, _), (1, _), (2, _)]) dX1_findRings_48 rfl rfl (by decide) rfl rfl ?_
      refine K_goto (tgt := 29) dX1_findRings_51 (by decide) ?_
      exact l2_X1_findRings hd hn hmo h5 E kk (s + 1) R3 K3 (by omega) (fun b b1 b2 => (y3 b b1 b2).trans ((z3 b b1).trans (hF b b1 b2))) y4 y5 y6
theorem l1_X1_findRings {d : Nat} {n : Nat} {N : Mem} {K : Mej} {Post : PK} {x : Int32} (hn : n ≤ 10) (h5 : N 6 5 = nI n)
    (next : EK d mX1_findRings Post 27 [(0, .ref 6), (1, .int x), (2, .int (nI (2 ^ n)))] [] N (fillJ K 14 (2 ^ n) (jO none))) :
    ∀ (kk i : Nat), i + kk = 2 ^ n → EK d mX1_findRings Post 2 [(0, .ref 6), (1, .int x), (2, .int (nI i))] [] N (fillJ K 14 i (jO none))
  | 0, i, e => by
    have p := p10 hn
    obtain rfl : i = 2 ^ n := by omega
    refine K_iload_n dX1_findRings_2 rfl rfl ?_
    refine K_iconst (v := nI 1) dX1_findRings_3 (by decide) rfl ?_
    refine K_aload_n dX1_findRings_4 rfl rfl ?_
    refine K_getI dX1_findRings_5 fl_X1_27 (by first | rfl | exact sk_rk (by omega) | exact sk_hh (by omega)) rfl (by first | assumption | rfl) rfl ?_
    first | refine K_shl1 dX1_findRings_8 (by first | omega | fail) rfl ?_ | refine K_shlN dX1_findRings_8 (by first | omega | fail) (by first | omega | fail) rfl ?_ | refine K_ishl dX1_findRings_8 rfl ?_
    refine K_icmp_geN (tgt := 27) dX1_findRings_9 (by decide) rfl (by first | omega | fail) (by first | omega | fail) (fun c9 => ?_) (fun c9 => ?_)
    · exact next
    · omega
  | kk + 1, i, e => by
    have p := p10 hn
    have ih := l1_X1_findRings (d := d) hn h5 next kk (i + 1) (by omega)
    refine K_iload_n dX1_findRings_2 rfl rfl ?_
    refine K_iconst (v := nI 1) dX1_findRings_3 (by decide) rfl ?_
    refine K_aload_n dX1_findRings_4 rfl rfl ?_
    refine K_getI dX1_findRings_5 fl_X1_27 (by first | rfl | exact sk_rk (by omega) | exact sk_hh (by omega)) rfl (by first | assumption | rfl) rfl ?_
    first | refine K_shl1 dX1_findRings_8 (by first | omega | fail) rfl ?_ | refine K_shlN dX1_findRings_8 (by first | omega | fail) (by first | omega | fail) rfl ?_ | refine K_ishl dX1_findRings_8 rfl ?_
    refine K_icmp_geN (tgt := 27) dX1_findRings_9 (by decide) rfl (by first | omega | fail) (by first | omega | fail) (fun c9 => ?_) (fun c9 => ?_)
    · omega
    · refine K_aload_n dX1_findRings_12 rfl rfl ?_
      refine K_getR (r := 14) dX1_findRings_13 fl_X1_21 rfl rfl rfl rfl ?_
      refine K_iload_n dX1_findRings_16 rfl rfl ?_
      refine K_ldc2 dX1_findRings_17 kl_X1_33 rfl ?_
      refine K_last dX1_findRings_20 (by first | rfl | exact sk_rk (by omega) | exact sk_hh (by omega)) (by first | omega | fail) (by decide) rfl ?_
      first | refine K_incN (lv' := [(0, _), (1, _), (2, _)]) dX1_findRings_21 rfl (by decide) rfl rfl ?_ | refine K_iinc (lv' := [(0, _), (1, _), (2, _)]) dX1_findRings_21 rfl rfl (by decide) rfl rfl ?_
      refine K_goto (tgt := 2) dX1_findRings_24 (by decide) ?_
      show EK d _ _ _ _ _ N (sJ (fillJ K 14 i (jO none)) 14 i (jO none))
      rw [fillJ_s]
      exact ih
set_option maxRecDepth 100000 in
theorem c_X1_findRings {d : Nat} (hd : 3 ≤ d) {S : GS} {k : Bool} {N : Mem} {K : Mej} (hn : s_n S ≤ 10) (hmo : s_mo S ≤ 10) (h5 : N 6 5 = nI (s_n S)) (E : ETb S k K) : CK d mX1_findRings [.ref 6, .int (nI (s_mo S))] N K (fun r N1 K1 => r = none ∧ N1 = N ∧ (∀ b, b ≠ 13 → b ≠ 14 → K1 b = K b) ∧ ∃ R, RTb S R K1 ∧ SndR S k R ∧ ∀ s2, s2 < s_n S → CmR S k R s2) := by
  have mid : EK d mX1_findRings (fun r N1 K1 => r = none ∧ N1 = N ∧ (∀ b, b ≠ 13 → b ≠ 14 → K1 b = K b) ∧ ∃ R, RTb S R K1 ∧ SndR S k R ∧ ∀ s2, s2 < s_n S → CmR S k R s2) 27 [(0, .ref 6), (1, .int (nI (s_mo S))), (2, .int (nI (2 ^ s_n S)))] [] N (fillJ K 14 (2 ^ s_n S) (jO none)) := by
    refine K_iconst (v := nI 0) dX1_findRings_27 (by decide) rfl ?_
    refine K_istore_n (lv' := [(0, _), (1, _), (2, _)]) dX1_findRings_28 (by decide) rfl rfl ?_
    exact l2_X1_findRings hd hn hmo h5 E (s_n S) 0 (fun _ => none) _ (by omega) (fun b _ b2 => by funext j; unfold fillJ; rw [if_neg (fun z => b2 z.1)]) (fun X hX => by unfold fillJ; rw [if_pos ⟨rfl, hX⟩]) (fun X v e => by cases e) (fun s2 h => absurd h (Nat.not_lt_zero s2))
  refine CK.start [(0, _), (1, _)] (plainFor_of_name (by decide)) (Nat.le_of_ble_eq_true rfl) rfl ?_
  refine K_iconst (v := nI 0) dX1_findRings_0 (by decide) rfl ?_
  refine K_istore_n (lv' := [(0, _), (1, _), (2, _)]) dX1_findRings_1 (by decide) rfl rfl ?_
  have h := l1_X1_findRings hn h5 mid (2 ^ s_n S) 0 (by omega)
  rw [fillJ_0] at h
  exact h
/-! settling -/
def DTb (S : GS) (D : Nat → Option Int) (K : Mej) : Prop := ∀ X, X < 2 ^ s_n S → K 15 X = jO (D X)
theorem upR_mono {R : Nat → Option Int} {X Y : Nat} {b : Option Int} {x : Int} (h : geO (R Y) x) : geO (upR R X (omx (R X) b) Y) x := by
  unfold upR
  split
  · next e => rw [e] at h; exact omx_l h
  · exact h
theorem PrS.mono {D D2 R : Nat → Option Int} {X : Nat} (h : PrS D R X) (h1 : D2 X = D X) (h2 : ∀ Y x, geO (D Y) x → geO (D2 Y) x) : PrS D2 R X := fun v e => by
  rw [h1] at e
  obtain ⟨a, b⟩ := h v e
  exact ⟨h2 _ _ a, fun W w0 w1 r hr => h2 _ _ (b W w0 w1 r hr)⟩
theorem SndS.up {S : GS} {k : Bool} {D : Nat → Option Int} {X : Nat} {v : Int} (h : SndS S k D) (hv : X < 2 ^ s_n S → ∃ t, PVP S X t ∧ v = scL S k X t) : SndS S k (upR D X (omx (D X) (some v))) := fun Y x hY e => by
  unfold upR at e
  split at e
  · next eY =>
    subst eY
    rcases omx_or (D Y) (some v) with e2 | e2
    · rw [e2] at e; exact h Y x hY e
    · rw [e2] at e; cases e; exact hv hY
  · exact h Y x hY e
