/-! the class's openWays, closeWay, growWay -/
theorem sJ_row {K : Mej} {a k : Nat} {v : Int64} {b : Nat} (h : b ≠ a) : sJ K a k v b = K b := by
  funext j
  exact sJ_ne (Or.inl h)
def ETb (S : GS) (k : Bool) (K : Mej) : Prop := ∀ f g, f < 10 → g < 10 → K 12 (f * 10 + g) = jO (ed S k f g)
def OTb (S : GS) (s : Nat) (O : Nat → Nat → Option Int) (K : Mej) : Prop := ∀ A j, A < 2 ^ (s_n S - 1 - s) → j < 9 → K 13 (A * 9 + j) = jO (O A j)
def RTb (S : GS) (R : Nat → Option Int) (K : Mej) : Prop := ∀ X, X < 2 ^ s_n S → K 14 X = jO (R X)
theorem ed_b {S : GS} {k : Bool} {f g : Nat} (hg : g < 10) : jBo (ed S k f g) := fun v e => by
  unfold ed at e
  split at e
  · cases e
    have := cc_b (S := S) (k := k) (f := f) hg
    exact jB_of (by omega)
  · cases e
def O0 (S : GS) (k : Bool) (s : Nat) (i A j : Nat) : Option Int := if A = 2 ^ j ∧ j < i then ed S k s (s + 1 + j) else none
theorem p9 {n s : Nat} (hn : n ≤ 10) : 2 ^ (n - 1 - s) ≤ 512 := show 2 ^ (n - 1 - s) ≤ 2 ^ 9 from Nat.pow_le_pow_right (by omega) (by omega)
theorem l2_X1_openWays {d : Nat} {S : GS} {k : Bool} {s : Nat} {N : Mem} {K0 : Mej} {x3 : Int32} (hn : s_n S ≤ 10) (hs : s < s_n S) (E : ETb S k K0) :
    ∀ (kk i : Nat) (K : Mej), i + kk = s_n S - 1 - s → (∀ b, b ≠ 13 → K b = K0 b) → OTb S s (O0 S k s i) K → EK d mX1_openWays (fun r N1 K1 => r = none ∧ N1 = N ∧ (∀ b, b ≠ 13 → K1 b = K0 b) ∧ OTb S s (O0 S k s (s_n S - 1 - s)) K1) 44 [(0, .ref 6), (1, .int (nI s)), (2, .int (nI (s_n S - 1 - s))), (3, .int x3), (4, .int (nI i))] [] N K
  | 0, i, K, e, hF, hO => by
    have hi : i = s_n S - 1 - s := by omega
    subst hi
    refine K_iload dX1_openWays_44 rfl rfl ?_
    refine K_iload_n dX1_openWays_46 rfl rfl ?_
    refine K_icmp_geN (tgt := 87) dX1_openWays_47 (by decide) rfl (by first | omega | fail) (by first | omega | fail) (fun c47 => ?_) (fun c47 => ?_)
    · refine K_ret dX1_openWays_87 rfl ?_
      exact ⟨rfl, rfl, hF, hO⟩
    · omega
  | kk + 1, i, K, e, hF, hO => by
    have p := p9 (s := s) hn
    have l4 : 2 ^ i ≤ 256 := show 2 ^ i ≤ 2 ^ 8 from Nat.pow_le_pow_right (by omega) (by omega)
    have h12 : K 12 (s * 10 + s + 1 + i) = jO (ed S k s (s + 1 + i)) := by
      rw [hF 12 (by decide), show s * 10 + s + 1 + i = s * 10 + (s + 1 + i) by omega]
      exact E s (s + 1 + i) (by omega) (by omega)
    have ih := l2_X1_openWays (d := d) (N := N) (x3 := x3) hn hs E kk (i + 1) (sJ K 13 (2 ^ i * 9 + i) (jO (ed S k s (s + 1 + i)))) (by omega) (fun b hb => (sJ_row hb).trans (hF b hb)) (fun A j hA hj => by
      rw [sJ_at]
      by_cases e3 : A = 2 ^ i ∧ j = i
      · rw [if_pos ⟨rfl, by rw [e3.1, e3.2]⟩]
        unfold O0
        rw [if_pos ⟨by rw [e3.1, e3.2], by omega⟩, e3.2]
      · rw [if_neg (by omega), hO A j hA hj]
        unfold O0
        by_cases e4 : A = 2 ^ j ∧ j < i
        · rw [if_pos e4, if_pos ⟨e4.1, by omega⟩]
        · rw [if_neg e4, if_neg (fun z => by
            by_cases e5 : j = i
            · exact e3 ⟨by rw [← e5]; exact z.1, e5⟩
            · exact e4 ⟨z.1, by omega⟩)])
    refine K_iload dX1_openWays_44 rfl rfl ?_
    refine K_iload_n dX1_openWays_46 rfl rfl ?_
    refine K_icmp_geN (tgt := 87) dX1_openWays_47 (by decide) rfl (by first | omega | fail) (by first | omega | fail) (fun c47 => ?_) (fun c47 => ?_)
    · omega
    · refine K_aload_n dX1_openWays_50 rfl rfl ?_
      refine K_getR (r := 13) dX1_openWays_51 fl_X1_18 rfl rfl rfl rfl ?_
      refine K_iconst (v := nI 1) dX1_openWays_54 (by decide) rfl ?_
      refine K_iload dX1_openWays_55 rfl rfl ?_
      first | refine K_shl1 dX1_openWays_57 (by first | omega | fail) rfl ?_ | refine K_shlN dX1_openWays_57 (by first | omega | fail) (by first | omega | fail) rfl ?_ | refine K_ishl dX1_openWays_57 rfl ?_
      refine K_bipush (v := nI 9) dX1_openWays_58 (by decide) rfl ?_
      refine K_mulN dX1_openWays_60 rfl ?_
      refine K_iload dX1_openWays_61 rfl rfl ?_
      refine K_addN dX1_openWays_63 rfl ?_
      refine K_aload_n dX1_openWays_64 rfl rfl ?_
      refine K_getR (r := 12) dX1_openWays_65 fl_X1_15 rfl rfl rfl rfl ?_
      refine K_iload_n dX1_openWays_68 rfl rfl ?_
      refine K_bipush (v := nI 10) dX1_openWays_69 (by decide) rfl ?_
      refine K_mulN dX1_openWays_71 rfl ?_
      refine K_iload_n dX1_openWays_72 rfl rfl ?_
      refine K_addN dX1_openWays_73 rfl ?_
      refine K_iconst (v := nI 1) dX1_openWays_74 (by decide) rfl ?_
      refine K_addN dX1_openWays_75 rfl ?_
      refine K_iload dX1_openWays_76 rfl rfl ?_
      refine K_addN dX1_openWays_78 rfl ?_
      refine K_lald dX1_openWays_79 (by first | rfl | exact sk_rk (by omega) | exact sk_hh (by omega)) (by first | omega | fail) (by decide) (by first | assumption | rfl) rfl ?_
      refine K_last dX1_openWays_80 (by first | rfl | exact sk_rk (by omega) | exact sk_hh (by omega)) (by first | omega | fail) (by decide) rfl ?_
      first | refine K_incN (lv' := [(0, _), (1, _), (2, _), (3, _), (4, _)]) dX1_openWays_81 rfl (by decide) rfl rfl ?_ | refine K_iinc (lv' := [(0, _), (1, _), (2, _), (3, _), (4, _)]) dX1_openWays_81 rfl rfl (by decide) rfl rfl ?_
      refine K_goto (tgt := 44) dX1_openWays_84 (by decide) ?_
      exact ih
theorem l1_X1_openWays {d : Nat} {s n c : Nat} {N : Mem} {K : Mej} {Post : PK} (hc : c ≤ 4608)
    (next : EK d mX1_openWays Post 41 [(0, .ref 6), (1, .int (nI s)), (2, .int (nI n)), (3, .int (nI c)), (4, .int (nI c))] [] N (fillJ K 13 c (jO none))) :
    ∀ (kk i : Nat), i + kk = c → EK d mX1_openWays Post 19 [(0, .ref 6), (1, .int (nI s)), (2, .int (nI n)), (3, .int (nI c)), (4, .int (nI i))] [] N (fillJ K 13 i (jO none))
  | 0, i, e => by
    obtain rfl : i = c := by omega
    refine K_iload dX1_openWays_19 rfl rfl ?_
    refine K_iload_n dX1_openWays_21 rfl rfl ?_
    refine K_icmp_geN (tgt := 41) dX1_openWays_22 (by decide) rfl (by first | omega | fail) (by first | omega | fail) (fun c22 => ?_) (fun c22 => ?_)
    · exact next
    · omega
  | kk + 1, i, e => by
    have ih := l1_X1_openWays (d := d) hc next kk (i + 1) (by omega)
    refine K_iload dX1_openWays_19 rfl rfl ?_
    refine K_iload_n dX1_openWays_21 rfl rfl ?_
    refine K_icmp_geN (tgt := 41) dX1_openWays_22 (by decide) rfl (by first | omega | fail) (by first | omega | fail) (fun c22 => ?_) (fun c22 => ?_)
    · omega
    · refine K_aload_n dX1_openWays_25 rfl rfl ?_
      refine K_getR (r := 13) dX1_openWays_26 fl_X1_18 rfl rfl rfl rfl ?_
      refine K_iload dX1_openWays_29 rfl rfl ?_
      refine K_ldc2 dX1_openWays_31 kl_X1_33 rfl ?_
      refine K_last dX1_openWays_34 (by first | rfl | exact sk_rk (by omega) | exact sk_hh (by omega)) (by first | omega | fail) (by decide) rfl ?_
      first | refine K_incN (lv' := [(0, _), (1, _), (2, _), (3, _), (4, _)]) dX1_openWays_35 rfl (by decide) rfl rfl ?_ | refine K_iinc (lv' := [(0, _), (1, _), (2, _), (3, _), (4, _)]) dX1_openWays_35 rfl rfl (by decide) rfl rfl ?_
      refine K_goto (tgt := 19) dX1_openWays_38 (by decide) ?_
      show EK d _ _ _ _ _ N (sJ (fillJ K 13 i (jO none)) 13 i (jO none))
      rw [fillJ_s]
      exact ih
set_option maxRecDepth 100000 in
theorem c_X1_openWays {d : Nat} {S : GS} {k : Bool} {s : Nat} {N : Mem} {K : Mej} (hn : s_n S ≤ 10) (hs : s < s_n S) (h5 : N 6 5 = nI (s_n S)) (E : ETb S k K) : CK d mX1_openWays [.ref 6, .int (nI s)] N K (fun r N1 K1 => r = none ∧ N1 = N ∧ (∀ b, b ≠ 13 → K1 b = K b) ∧ OTb S s (O0 S k s (s_n S - 1 - s)) K1) := by
  have p := p9 (s := s) hn
  have mid : EK d mX1_openWays (fun r N1 K1 => r = none ∧ N1 = N ∧ (∀ b, b ≠ 13 → K1 b = K b) ∧ OTb S s (O0 S k s (s_n S - 1 - s)) K1) 41 [(0, .ref 6), (1, .int (nI s)), (2, .int (nI (s_n S - 1 - s))), (3, .int (nI (2 ^ (s_n S - 1 - s) * 9))), (4, .int (nI (2 ^ (s_n S - 1 - s) * 9)))] [] N (fillJ K 13 (2 ^ (s_n S - 1 - s) * 9) (jO none)) := by
    refine K_iconst (v := nI 0) dX1_openWays_41 (by decide) rfl ?_
    refine K_istore (lv' := [(0, _), (1, _), (2, _), (3, _), (4, _)]) dX1_openWays_42 (by decide) rfl rfl ?_
    exact l2_X1_openWays hn hs E (s_n S - 1 - s) 0 _ (by omega) (fun b hb => by funext j; unfold fillJ; rw [if_neg (by omega)]) (fun A j hA hj => by
      unfold fillJ O0
      rw [if_pos ⟨rfl, by omega⟩, if_neg (by omega)])
  refine CK.start [(0, _), (1, _)] (plainFor_of_name (by decide)) (Nat.le_of_ble_eq_true rfl) rfl ?_
  refine K_aload_n dX1_openWays_0 rfl rfl ?_
  refine K_getI dX1_openWays_1 fl_X1_27 (by first | rfl | exact sk_rk (by omega) | exact sk_hh (by omega)) rfl (by first | assumption | rfl) rfl ?_
  refine K_iconst (v := nI 1) dX1_openWays_4 (by decide) rfl ?_
  refine K_subN dX1_openWays_5 (by first | omega | fail) rfl ?_
  refine K_iload_n dX1_openWays_6 rfl rfl ?_
  refine K_subN dX1_openWays_7 (by first | omega | fail) rfl ?_
  refine K_istore_n (lv' := [(0, _), (1, _), (2, _)]) dX1_openWays_8 (by decide) rfl rfl ?_
  refine K_iconst (v := nI 1) dX1_openWays_9 (by decide) rfl ?_
  refine K_iload_n dX1_openWays_10 rfl rfl ?_
  first | refine K_shl1 dX1_openWays_11 (by first | omega | fail) rfl ?_ | refine K_shlN dX1_openWays_11 (by first | omega | fail) (by first | omega | fail) rfl ?_ | refine K_ishl dX1_openWays_11 rfl ?_
  refine K_bipush (v := nI 9) dX1_openWays_12 (by decide) rfl ?_
  refine K_mulN dX1_openWays_14 rfl ?_
  refine K_istore_n (lv' := [(0, _), (1, _), (2, _), (3, _)]) dX1_openWays_15 (by decide) rfl rfl ?_
  refine K_iconst (v := nI 0) dX1_openWays_16 (by decide) rfl ?_
  refine K_istore (lv' := [(0, _), (1, _), (2, _), (3, _), (4, _)]) dX1_openWays_17 (by decide) rfl rfl ?_
  have h := l1_X1_openWays (by omega) mid (2 ^ (s_n S - 1 - s) * 9) 0 (by omega)
  rw [fillJ_0] at h
  exact h
theorem O0_snd {S : GS} {k : Bool} {s : Nat} (hs : s < s_n S) : SndO S k s (O0 S k s (s_n S - 1 - s)) := fun A j v e => by
  unfold O0 at e
  split at e
  · next h =>
    unfold ed at e
    split at e
    · next h2 =>
      cases e
      refine ⟨1, fun i => if i = 0 then s else s + 1 + j, Nat.le_refl 1, ⟨rfl, fun i h1 h3 => ?_, fun i j2 h1 h3 => ?_, fun i hi => ?_⟩, rfl, ?_, ?_⟩
      · show s < (if i = 0 then s else s + 1 + j) ∧ (if i = 0 then s else s + 1 + j) < s_n S
        rw [if_neg (by omega)]
        omega
      · show (if i = 0 then s else s + 1 + j) ≠ (if j2 = 0 then s else s + 1 + j)
        rw [if_pos (by omega), if_neg (by omega)]
        omega
      · obtain rfl : i = 0 := by omega
        exact h2
      · show 0 ||| 2 ^ (s + 1 + j - (s + 1)) = A
        rw [Nat.zero_or, show s + 1 + j - (s + 1) = j by omega]
        exact h.1.symm
      · show cc S k s (s + 1 + j) = 0 + cc S k s (s + 1 + j)
        rw [Int.zero_add]
    · cases e
  · cases e
theorem O0_ini {S : GS} {k : Bool} {s : Nat} : IniO S k s (O0 S k s (s_n S - 1 - s)) := fun j h1 h2 => ⟨cc S k s (s + 1 + j), by unfold O0; rw [if_pos ⟨rfl, by omega⟩, ed_t h2], Int.le_refl _⟩
def upR (R : Nat → Option Int) (X : Nat) (v : Option Int) : Nat → Option Int := fun Y => if Y = X then v else R Y
def clR (S : GS) (k : Bool) (s A j : Nat) (v : Int) (R : Nat → Option Int) : Nat → Option Int := if s_tk S (s + 1 + j) s = true then upR R (A * 2 ^ (s + 1) ||| 2 ^ s) (omx (R (A * 2 ^ (s + 1) ||| 2 ^ s)) (some (v + cc S k (s + 1 + j) s))) else R
theorem memb_lt {n s A : Nat} (hs : s < n) (hA : A < 2 ^ (n - 1 - s)) : A * 2 ^ (s + 1) < 2 ^ n ∧ A * 2 ^ (s + 1) ||| 2 ^ s < 2 ^ n := by
  have h1 : A * 2 ^ (s + 1) < 2 ^ (n - 1 - s) * 2 ^ (s + 1) := Nat.mul_lt_mul_of_pos_right hA (Nat.two_pow_pos _)
  rw [← Nat.pow_add, show n - 1 - s + (s + 1) = n by omega] at h1
  exact ⟨h1, Nat.or_lt_two_pow h1 (Nat.pow_lt_pow_right (by omega) hs)⟩
set_option maxRecDepth 100000 in
theorem c_X1_closeWay {d : Nat} (hd : 1 ≤ d) {S : GS} {k : Bool} {s A j : Nat} {v : Int} {O : Nat → Nat → Option Int} {R : Nat → Option Int} {N : Mem} {K : Mej} (hn : s_n S ≤ 10) (hs : s < s_n S) (hA : A < 2 ^ (s_n S - 1 - s)) (hj : s + 1 + j < s_n S) (E : ETb S k K) (TO : OTb S s O K) (TR : RTb S R K) (hv : O A j = some v) (bO : SndO S k s O) (bR : SndR S k R) :
    CK d mX1_closeWay [.ref 6, .int (nI s), .int (nI A), .int (nI j)] N K (fun r N1 K1 => r = none ∧ N1 = N ∧ (∀ b, b ≠ 14 → K1 b = K b) ∧ RTb S (clR S k s A j v R) K1) := by
  have p := p9 (s := s) hn
  have pp := p10 hn
  obtain ⟨m1, m2⟩ := memb_lt hs hA
  have h12 : K 12 ((s + 1 + j) * 10 + s) = jO (ed S k (s + 1 + j) s) := E _ _ (by omega) (by omega)
  have h13 : K 13 (A * 9 + j) = jO (some v) := by rw [TO A j hA (by omega), hv]
  have h14 := TR _ m2
  have eb := ed_b (S := S) (k := k) (f := s + 1 + j) (g := s) (by omega)
  have bv := bO.b hn A j v hv
  have bc := cc_b (S := S) (k := k) (f := s + 1 + j) (g := s) (by omega)
  have l4 : 2 ^ s < 1024 := show 2 ^ s < 2 ^ 10 from Nat.pow_lt_pow_right (by omega) (by omega)
  cases ht : s_tk S (s + 1 + j) s with
  | false =>
    rw [ed_f ht] at h12
    refine CK.start [(0, _), (1, _), (2, _), (3, _)] (plainFor_of_name (by decide)) (Nat.le_of_ble_eq_true rfl) rfl ?_
    refine K_aload_n dX1_closeWay_0 rfl rfl ?_
    refine K_getR (r := 12) dX1_closeWay_1 fl_X1_15 rfl rfl rfl rfl ?_
    refine K_iload_n dX1_closeWay_4 rfl rfl ?_
    refine K_iconst (v := nI 1) dX1_closeWay_5 (by decide) rfl ?_
    refine K_addN dX1_closeWay_6 rfl ?_
    refine K_iload_n dX1_closeWay_7 rfl rfl ?_
    refine K_addN dX1_closeWay_8 rfl ?_
    refine K_bipush (v := nI 10) dX1_closeWay_9 (by decide) rfl ?_
    refine K_mulN dX1_closeWay_11 rfl ?_
    refine K_iload_n dX1_closeWay_12 rfl rfl ?_
    refine K_addN dX1_closeWay_13 rfl ?_
    refine K_lald dX1_closeWay_14 (by first | rfl | exact sk_rk (by omega) | exact sk_hh (by omega)) (by first | omega | fail) (by decide) (by first | assumption | rfl) rfl ?_
    refine K_lstore (lv' := [(0, _), (1, _), (2, _), (3, _), (4, _)]) dX1_closeWay_15 (by decide) rfl rfl ?_
    refine K_lload dX1_closeWay_17 rfl rfl ?_
    refine K_ldc2 dX1_closeWay_19 kl_X1_33 rfl ?_
    refine K_lcmp dX1_closeWay_22 rfl ?_
    refine K_if_eq (tgt := 68) dX1_closeWay_23 (by decide) rfl (fun c23 => ?_) (fun c23 => ?_)
    · refine K_ret dX1_closeWay_68 rfl ?_
      exact ⟨rfl, rfl, fun _ _ => rfl, by unfold clR; rw [ht]; exact TR⟩
    · exact absurd ((lg_cmp_eq _ _).mpr rfl) c23
  | true =>
    rw [ed_t ht] at h12 eb
    have nm : jO (some (cc S k (s + 1 + j) s)) ≠ -4611686018427387904 := fun z => by
      have := (jO_eq eb).mp z
      cases this
    have es : jO (some v) + jO (some (cc S k (s + 1 + j) s)) = jO (some (v + cc S k (s + 1 + j) s)) := (Int64.ofInt_add _ _).symm
    have hmx : CK (d - 1) mJ9_max_f86c9 [.long (jO (R (A * 2 ^ (s + 1) ||| 2 ^ s))), .long (jO (some v) + jO (some (cc S k (s + 1 + j) s)))] N K (PX (some (.long (jO (omx (R (A * 2 ^ (s + 1) ||| 2 ^ s)) (some (v + cc S k (s + 1 + j) s)))))) N K) := by
      rw [es, ← mx_jO (fun x e => jB_of (by have := bR.b hn _ x e; omega)) (fun x e => by cases e; exact jB_of (by omega))]
      exact c_J9_max_f86c9
    refine CK.start [(0, _), (1, _), (2, _), (3, _)] (plainFor_of_name (by decide)) (Nat.le_of_ble_eq_true rfl) rfl ?_
    refine K_aload_n dX1_closeWay_0 rfl rfl ?_
    refine K_getR (r := 12) dX1_closeWay_1 fl_X1_15 rfl rfl rfl rfl ?_
    refine K_iload_n dX1_closeWay_4 rfl rfl ?_
    refine K_iconst (v := nI 1) dX1_closeWay_5 (by decide) rfl ?_
    refine K_addN dX1_closeWay_6 rfl ?_
    refine K_iload_n dX1_closeWay_7 rfl rfl ?_
    refine K_addN dX1_closeWay_8 rfl ?_
    refine K_bipush (v := nI 10) dX1_closeWay_9 (by decide) rfl ?_
    refine K_mulN dX1_closeWay_11 rfl ?_
    refine K_iload_n dX1_closeWay_12 rfl rfl ?_
    refine K_addN dX1_closeWay_13 rfl ?_
    refine K_lald dX1_closeWay_14 (by first | rfl | exact sk_rk (by omega) | exact sk_hh (by omega)) (by first | omega | fail) (by decide) (by first | assumption | rfl) rfl ?_
    refine K_lstore (lv' := [(0, _), (1, _), (2, _), (3, _), (4, _)]) dX1_closeWay_15 (by decide) rfl rfl ?_
    refine K_lload dX1_closeWay_17 rfl rfl ?_
    refine K_ldc2 dX1_closeWay_19 kl_X1_33 rfl ?_
    refine K_lcmp dX1_closeWay_22 rfl ?_
    refine K_if_eq (tgt := 68) dX1_closeWay_23 (by decide) rfl (fun c23 => ?_) (fun c23 => ?_)
    · exact absurd ((lg_cmp_eq _ _).mp c23) nm
    · refine K_iload_n dX1_closeWay_26 rfl rfl ?_
      refine K_iload_n dX1_closeWay_27 rfl rfl ?_
      refine K_iconst (v := nI 1) dX1_closeWay_28 (by decide) rfl ?_
      refine K_addN dX1_closeWay_29 rfl ?_
      first | refine K_shl1 dX1_closeWay_30 (by first | omega | exact Nat.lt_trans m1 (by omega) | fail) rfl ?_ | refine K_shlN dX1_closeWay_30 (by first | omega | exact Nat.lt_trans m1 (by omega) | fail) (by first | omega | exact Nat.lt_trans m1 (by omega) | fail) rfl ?_ | refine K_ishl dX1_closeWay_30 rfl ?_
      refine K_iconst (v := nI 1) dX1_closeWay_31 (by decide) rfl ?_
      refine K_iload_n dX1_closeWay_32 rfl rfl ?_
      first | refine K_shl1 dX1_closeWay_33 (by first | omega | exact Nat.lt_trans m1 (by omega) | fail) rfl ?_ | refine K_shlN dX1_closeWay_33 (by first | omega | exact Nat.lt_trans m1 (by omega) | fail) (by first | omega | exact Nat.lt_trans m1 (by omega) | fail) rfl ?_ | refine K_ishl dX1_closeWay_33 rfl ?_
      refine K_orN dX1_closeWay_34 rfl ?_
      refine K_istore (lv' := [(0, _), (1, _), (2, _), (3, _), (4, _), (6, _)]) dX1_closeWay_35 (by decide) rfl rfl ?_
      refine K_aload_n dX1_closeWay_37 rfl rfl ?_
      refine K_getR (r := 14) dX1_closeWay_38 fl_X1_21 rfl rfl rfl rfl ?_
      refine K_iload dX1_closeWay_41 rfl rfl ?_
      refine K_aload_n dX1_closeWay_43 rfl rfl ?_
      refine K_getR (r := 14) dX1_closeWay_44 fl_X1_21 rfl rfl rfl rfl ?_
      refine K_iload dX1_closeWay_47 rfl rfl ?_
      refine K_lald dX1_closeWay_49 (by first | rfl | exact sk_rk (by omega) | exact sk_hh (by omega)) (by first | omega | fail) (by decide) (by first | assumption | rfl) rfl ?_
      refine K_aload_n dX1_closeWay_50 rfl rfl ?_
      refine K_getR (r := 13) dX1_closeWay_51 fl_X1_18 rfl rfl rfl rfl ?_
      refine K_iload_n dX1_closeWay_54 rfl rfl ?_
      refine K_bipush (v := nI 9) dX1_closeWay_55 (by decide) rfl ?_
      refine K_mulN dX1_closeWay_57 rfl ?_
      refine K_iload_n dX1_closeWay_58 rfl rfl ?_
      refine K_addN dX1_closeWay_59 rfl ?_
      refine K_lald dX1_closeWay_60 (by first | rfl | exact sk_rk (by omega) | exact sk_hh (by omega)) (by first | omega | fail) (by decide) (by first | assumption | rfl) rfl ?_
      refine K_lload dX1_closeWay_61 rfl rfl ?_
      refine K_ladd dX1_closeWay_63 rfl ?_
      refine K_sv (d1 := d - 1) [_, _] dX1_closeWay_64 ml_X1_68 rfl rfl (Nat.le_of_ble_eq_true rfl) hmx (by omega) rfl ?_
      refine K_last dX1_closeWay_67 (by first | rfl | exact sk_rk (by omega) | exact sk_hh (by omega)) (by first | omega | fail) (by decide) rfl ?_
      refine K_ret dX1_closeWay_68 rfl ?_
      refine ⟨rfl, rfl, fun b hb => sJ_row hb, fun X hX => ?_⟩
      unfold clR upR
      rw [if_pos ht, sJ_at]
      by_cases e3 : X = A * 2 ^ (s + 1) ||| 2 ^ s
      · rw [if_pos ⟨rfl, e3⟩, if_pos e3]
      · rw [if_neg (fun z => e3 z.2), if_neg e3]; exact TR X hX
