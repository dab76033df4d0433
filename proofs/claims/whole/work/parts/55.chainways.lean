/-! Integer.bitCount; the class's findStarts, mostSteps, startsApart, tellLongestWay -/
def bcS (x y : Int32) : Int32 := (x.toUInt32 >>> (y.toUInt32 &&& Int32.toUInt32 31)).toInt32
def bc1 (x : Int32) : Int32 := x - (bcS x (nI 1) &&& 1431655765)
def bc2 (x : Int32) : Int32 := (x &&& 858993459) + (bcS x (nI 2) &&& 858993459)
def bc3 (x : Int32) : Int32 := (x + bcS x (nI 4)) &&& 252645135
def bc4 (x : Int32) : Int32 := x + bcS x (nI 8)
def bc5 (x : Int32) : Int32 := x + bcS x (nI 16)
def bcF (x : Int32) : Int32 := bc5 (bc4 (bc3 (bc2 (bc1 x)))) &&& nI 63
theorem bc_all : ∀ m, m < 1024 → bcF (nI m) = nI (pop m) := by decide +kernel
set_option maxRecDepth 100000 in
theorem c_bc {d : Nat} {N : Mem} {K : Mej} {x : Int32} : CK d mJ6_bitCount_0f7a4 [.int x] N K (PX (some (.int (bcF x))) N K) := by
  refine CK.start [(0, _)] (by decide +kernel) (Nat.le_of_ble_eq_true rfl) rfl ?_
  refine K_iload_n dJ6_bitCount_0f7a4_0 rfl rfl ?_
  refine K_iload_n dJ6_bitCount_0f7a4_1 rfl rfl ?_
  refine K_iconst (v := nI 1) dJ6_bitCount_0f7a4_2 (by decide) rfl ?_
  refine K_iushr dJ6_bitCount_0f7a4_3 rfl ?_
  refine K_ldcw dJ6_bitCount_0f7a4_4 kl_J6_265 rfl ?_
  refine K_iand dJ6_bitCount_0f7a4_7 rfl ?_
  refine K_isub dJ6_bitCount_0f7a4_8 rfl ?_
  refine K_istore_n (lv' := [(0, _)]) dJ6_bitCount_0f7a4_9 (by decide) rfl rfl ?_
  refine K_iload_n dJ6_bitCount_0f7a4_10 rfl rfl ?_
  refine K_ldcw dJ6_bitCount_0f7a4_11 kl_J6_266 rfl ?_
  refine K_iand dJ6_bitCount_0f7a4_14 rfl ?_
  refine K_iload_n dJ6_bitCount_0f7a4_15 rfl rfl ?_
  refine K_iconst (v := nI 2) dJ6_bitCount_0f7a4_16 (by decide) rfl ?_
  refine K_iushr dJ6_bitCount_0f7a4_17 rfl ?_
  refine K_ldcw dJ6_bitCount_0f7a4_18 kl_J6_266 rfl ?_
  refine K_iand dJ6_bitCount_0f7a4_21 rfl ?_
  refine K_iadd dJ6_bitCount_0f7a4_22 rfl ?_
  refine K_istore_n (lv' := [(0, _)]) dJ6_bitCount_0f7a4_23 (by decide) rfl rfl ?_
  refine K_iload_n dJ6_bitCount_0f7a4_24 rfl rfl ?_
  refine K_iload_n dJ6_bitCount_0f7a4_25 rfl rfl ?_
  refine K_iconst (v := nI 4) dJ6_bitCount_0f7a4_26 (by decide) rfl ?_
  refine K_iushr dJ6_bitCount_0f7a4_27 rfl ?_
  refine K_iadd dJ6_bitCount_0f7a4_28 rfl ?_
  refine K_ldcw dJ6_bitCount_0f7a4_29 kl_J6_267 rfl ?_
  refine K_iand dJ6_bitCount_0f7a4_32 rfl ?_
  refine K_istore_n (lv' := [(0, _)]) dJ6_bitCount_0f7a4_33 (by decide) rfl rfl ?_
  refine K_iload_n dJ6_bitCount_0f7a4_34 rfl rfl ?_
  refine K_iload_n dJ6_bitCount_0f7a4_35 rfl rfl ?_
  refine K_bipush (v := nI 8) dJ6_bitCount_0f7a4_36 (by decide) rfl ?_
  refine K_iushr dJ6_bitCount_0f7a4_38 rfl ?_
  refine K_iadd dJ6_bitCount_0f7a4_39 rfl ?_
  refine K_istore_n (lv' := [(0, _)]) dJ6_bitCount_0f7a4_40 (by decide) rfl rfl ?_
  refine K_iload_n dJ6_bitCount_0f7a4_41 rfl rfl ?_
  refine K_iload_n dJ6_bitCount_0f7a4_42 rfl rfl ?_
  refine K_bipush (v := nI 16) dJ6_bitCount_0f7a4_43 (by decide) rfl ?_
  refine K_iushr dJ6_bitCount_0f7a4_45 rfl ?_
  refine K_iadd dJ6_bitCount_0f7a4_46 rfl ?_
  refine K_istore_n (lv' := [(0, _)]) dJ6_bitCount_0f7a4_47 (by decide) rfl rfl ?_
  refine K_iload_n dJ6_bitCount_0f7a4_48 rfl rfl ?_
  refine K_bipush (v := nI 63) dJ6_bitCount_0f7a4_49 (by decide) rfl ?_
  refine K_iand dJ6_bitCount_0f7a4_51 rfl ?_
  refine K_iret dJ6_bitCount_0f7a4_52 rfl ?_
  exact ⟨rfl, rfl, rfl⟩
theorem c_J6_bitCount {d : Nat} {N : Mem} {K : Mej} {m : Nat} (hm : m < 1024) : CK d mJ6_bitCount_0f7a4 [.int (nI m)] N K (PX (some (.int (nI (pop m)))) N K) := by
  have h := c_bc (d := d) (N := N) (K := K) (x := nI m)
  rw [bc_all m hm] at h
  exact h
theorem xor_less : ∀ s, s < 1024 → ∀ f, f < 10 → s.testBit f = true → s ^^^ 2 ^ f < s := by decide +kernel
theorem pop_le (s : Nat) : pop s ≤ 10 := cnt_le _ _
theorem p10 {n : Nat} (hn : n ≤ 10) : 2 ^ n ≤ 1024 := show 2 ^ n ≤ 2 ^ 10 from Nat.pow_le_pow_right (by omega) hn
/-- the Ways hold h, and the starts of the sets below i -/
def WH (h : Nat → Nat) (n i : Nat) (N : Mem) : Prop := N 7 3 = nI n ∧ (∀ f, f < 10 → N 8 f = nI (h f)) ∧ ∀ s, 0 < s → s < i → N 10 s = nI (st h s)
theorem l_X2_startsWithin {d : Nat} {h : Nat → Nat} {n s : Nat} {N : Mem} {K : Mej} (hn : n ≤ 10) (I : WH h n s N) (hb : ∀ f, f < 10 → h f < 1024) (hs : s < 2 ^ n) (h1 : s &&& (s - 1) ≠ 0) :
    ∀ (k f : Nat), f + k = n → EK d mX2_startsWithin (PX (some (.int (nI (st h s)))) N K) 4 [(0, .ref 7), (1, .int (nI s)), (2, .int (nI (bs (fun f => s.testBit f && decide (h f &&& st h (s ^^^ 2 ^ f) ≠ 0)) f))), (3, .int (nI f))] [] N K
  | 0, f, e => by
    obtain rfl : f = n := by omega
    have h7 := I.1
    have hl := bs_10 (p := fun f => s.testBit f && decide (h f &&& st h (s ^^^ 2 ^ f) ≠ 0)) hn
    refine K_iload_n dX2_startsWithin_4 rfl rfl ?_
    refine K_aload_n dX2_startsWithin_5 rfl rfl ?_
    refine K_getI dX2_startsWithin_6 fl_X2_21 (by first | rfl | exact sk_rk (by omega) | exact sk_hh (by omega)) rfl (by first | assumption | rfl) rfl ?_
    refine K_icmp_geN (tgt := 54) dX2_startsWithin_9 (by decide) rfl (by first | omega | fail) (by first | omega | fail) (fun c9 => ?_) (fun c9 => ?_)
    · refine K_iload_n dX2_startsWithin_54 rfl rfl ?_
      refine K_iret dX2_startsWithin_55 rfl ?_
      rw [st_within hn hs h1]
      exact ⟨rfl, rfl, rfl⟩
    · omega
  | k + 1, f, e => by
    have h7 := I.1
    have p := p10 hn
    have h8 := I.2.1 f (by omega)
    have l1 := hb f (by omega)
    have l2 : h f &&& st h (s ^^^ 2 ^ f) < 1024 := Nat.lt_of_le_of_lt Nat.and_le_left l1
    have l3 : s &&& 2 ^ f < 1024 := Nat.lt_of_le_of_lt Nat.and_le_left (by omega)
    have l4 : 2 ^ f < 1024 := show 2 ^ f < 2 ^ 10 from Nat.pow_lt_pow_right (by omega) (by omega)
    have ih := l_X2_startsWithin (d := d) (K := K) hn I hb hs h1 k (f + 1) (by omega)
    by_cases hf : s.testBit f = true
    · have hx : s ^^^ 2 ^ f < s := xor_less s (by omega) f (by omega) hf
      have hx0 : 0 < s ^^^ 2 ^ f := by
        rcases Nat.eq_zero_or_pos (s ^^^ 2 ^ f) with q | q
        · exfalso
          have e1 := or_xor hf
          rw [q, Nat.zero_or] at e1
          rw [← e1] at h1
          exact h1 (single2 f (by omega))
        · exact q
      have h10 := I.2.2 (s ^^^ 2 ^ f) hx0 hx
      have hne : s &&& 2 ^ f ≠ 0 := and_ne.mpr ⟨f, hf, by rw [Nat.testBit_two_pow]; simp⟩
      refine K_iload_n dX2_startsWithin_4 rfl rfl ?_
      refine K_aload_n dX2_startsWithin_5 rfl rfl ?_
      refine K_getI dX2_startsWithin_6 fl_X2_21 (by first | rfl | exact sk_rk (by omega) | exact sk_hh (by omega)) rfl (by first | assumption | rfl) rfl ?_
      refine K_icmp_geN (tgt := 54) dX2_startsWithin_9 (by decide) rfl (by first | omega | fail) (by first | omega | fail) (fun c9 => ?_) (fun c9 => ?_)
      · omega
      · refine K_iconst (v := nI 1) dX2_startsWithin_12 (by decide) rfl ?_
        refine K_iload_n dX2_startsWithin_13 rfl rfl ?_
        first | refine K_shl1 dX2_startsWithin_14 (by first | omega | fail) rfl ?_ | refine K_shlN dX2_startsWithin_14 (by first | omega | fail) (by first | omega | fail) rfl ?_ | refine K_ishl dX2_startsWithin_14 rfl ?_
        refine K_istore (lv' := [(0, _), (1, _), (2, _), (3, _), (4, _)]) dX2_startsWithin_15 (by decide) rfl rfl ?_
        refine K_iload_n dX2_startsWithin_17 rfl rfl ?_
        refine K_iload dX2_startsWithin_18 rfl rfl ?_
        refine K_andN dX2_startsWithin_20 rfl ?_
        refine K_if_eqN (tgt := 48) dX2_startsWithin_21 (by decide) rfl (by first | omega | fail) (fun c21 => ?_) (fun c21 => ?_)
        · exact absurd c21 hne
        · refine K_aload_n dX2_startsWithin_24 rfl rfl ?_
          refine K_getR (r := 8) dX2_startsWithin_25 fl_X2_9 rfl rfl rfl rfl ?_
          refine K_iload_n dX2_startsWithin_28 rfl rfl ?_
          refine K_iald dX2_startsWithin_29 (by first | rfl | exact sk_rk (by omega) | exact sk_hh (by omega)) (by first | omega | fail) (by decide) (by first | assumption | rfl) rfl ?_
          refine K_aload_n dX2_startsWithin_30 rfl rfl ?_
          refine K_getR (r := 10) dX2_startsWithin_31 fl_X2_18 rfl rfl rfl rfl ?_
          refine K_iload_n dX2_startsWithin_34 rfl rfl ?_
          refine K_iload dX2_startsWithin_35 rfl rfl ?_
          refine K_xorN dX2_startsWithin_37 rfl ?_
          refine K_iald dX2_startsWithin_38 (by first | rfl | exact sk_rk (by omega) | exact sk_hh (by omega)) (by first | omega | fail) (by decide) (by first | assumption | rfl) rfl ?_
          refine K_andN dX2_startsWithin_39 rfl ?_
          refine K_if_eqN (tgt := 48) dX2_startsWithin_40 (by decide) rfl (by first | omega | fail) (fun c40 => ?_) (fun c40 => ?_)
          · first | refine K_incN (lv' := [(0, _), (1, _), (2, _), (3, _), (4, _)]) dX2_startsWithin_48 rfl (by decide) rfl rfl ?_ | refine K_iinc (lv' := [(0, _), (1, _), (2, _), (3, _), (4, _)]) dX2_startsWithin_48 rfl rfl (by decide) rfl rfl ?_
            refine K_goto (tgt := 4) dX2_startsWithin_51 (by decide) ?_
            refine K_pick [0, 1, 2, 3] rfl ?_
            first | (rw [bs_f (by simp [c40])] at ih; exact ih) | (rw [bs_t (by simp [c40, hf])] at ih; exact ih)
          · refine K_iload_n dX2_startsWithin_43 rfl rfl ?_
            refine K_iload dX2_startsWithin_44 rfl rfl ?_
            refine K_orN dX2_startsWithin_46 rfl ?_
            refine K_istore_n (lv' := [(0, _), (1, _), (2, _), (3, _), (4, _)]) dX2_startsWithin_47 (by decide) rfl rfl ?_
            first | refine K_incN (lv' := [(0, _), (1, _), (2, _), (3, _), (4, _)]) dX2_startsWithin_48 rfl (by decide) rfl rfl ?_ | refine K_iinc (lv' := [(0, _), (1, _), (2, _), (3, _), (4, _)]) dX2_startsWithin_48 rfl rfl (by decide) rfl rfl ?_
            refine K_goto (tgt := 4) dX2_startsWithin_51 (by decide) ?_
            refine K_pick [0, 1, 2, 3] rfl ?_
            first | (rw [bs_f (by simp [c40])] at ih; exact ih) | (rw [bs_t (by simp [c40, hf])] at ih; exact ih)
    · have hz : s &&& 2 ^ f = 0 := by
        rcases Nat.eq_zero_or_pos (s &&& 2 ^ f) with q | q
        · exact q
        · exfalso
          obtain ⟨i, i1, i2⟩ := and_ne.mp (Nat.ne_of_gt q)
          rw [Nat.testBit_two_pow] at i2
          have : f = i := by simpa using i2
          rw [← this] at i1
          exact hf i1
      refine K_iload_n dX2_startsWithin_4 rfl rfl ?_
      refine K_aload_n dX2_startsWithin_5 rfl rfl ?_
      refine K_getI dX2_startsWithin_6 fl_X2_21 (by first | rfl | exact sk_rk (by omega) | exact sk_hh (by omega)) rfl (by first | assumption | rfl) rfl ?_
      refine K_icmp_geN (tgt := 54) dX2_startsWithin_9 (by decide) rfl (by first | omega | fail) (by first | omega | fail) (fun c9 => ?_) (fun c9 => ?_)
      · omega
      · refine K_iconst (v := nI 1) dX2_startsWithin_12 (by decide) rfl ?_
        refine K_iload_n dX2_startsWithin_13 rfl rfl ?_
        first | refine K_shl1 dX2_startsWithin_14 (by first | omega | fail) rfl ?_ | refine K_shlN dX2_startsWithin_14 (by first | omega | fail) (by first | omega | fail) rfl ?_ | refine K_ishl dX2_startsWithin_14 rfl ?_
        refine K_istore (lv' := [(0, _), (1, _), (2, _), (3, _), (4, _)]) dX2_startsWithin_15 (by decide) rfl rfl ?_
        refine K_iload_n dX2_startsWithin_17 rfl rfl ?_
        refine K_iload dX2_startsWithin_18 rfl rfl ?_
        refine K_andN dX2_startsWithin_20 rfl ?_
        refine K_if_eqN (tgt := 48) dX2_startsWithin_21 (by decide) rfl (by first | omega | fail) (fun c21 => ?_) (fun c21 => ?_)
        · first | refine K_incN (lv' := [(0, _), (1, _), (2, _), (3, _), (4, _)]) dX2_startsWithin_48 rfl (by decide) rfl rfl ?_ | refine K_iinc (lv' := [(0, _), (1, _), (2, _), (3, _), (4, _)]) dX2_startsWithin_48 rfl rfl (by decide) rfl rfl ?_
          refine K_goto (tgt := 4) dX2_startsWithin_51 (by decide) ?_
          refine K_pick [0, 1, 2, 3] rfl ?_
          rw [bs_f (by simp [hf])] at ih
          exact ih
        · exact absurd hz c21
set_option maxRecDepth 100000 in
theorem c_X2_startsWithin {d : Nat} {h : Nat → Nat} {n s : Nat} {N : Mem} {K : Mej} (hn : n ≤ 10) (I : WH h n s N) (hb : ∀ f, f < 10 → h f < 1024) (hs : s < 2 ^ n) (h1 : s &&& (s - 1) ≠ 0) : CK d mX2_startsWithin [.ref 7, .int (nI s)] N K (PX (some (.int (nI (st h s)))) N K) := by
  refine CK.start [(0, _), (1, _)] (plainFor_of_name (by decide)) (Nat.le_of_ble_eq_true rfl) rfl ?_
  refine K_iconst (v := nI 0) dX2_startsWithin_0 (by decide) rfl ?_
  refine K_istore_n (lv' := [(0, _), (1, _), (2, _)]) dX2_startsWithin_1 (by decide) rfl rfl ?_
  refine K_iconst (v := nI 0) dX2_startsWithin_2 (by decide) rfl ?_
  refine K_istore_n (lv' := [(0, _), (1, _), (2, _), (3, _)]) dX2_startsWithin_3 (by decide) rfl rfl ?_
  exact l_X2_startsWithin hn I hb hs h1 n 0 (by omega)
theorem l_X2_findStarts {d : Nat} (hd : 1 ≤ d) {h : Nat → Nat} {n : Nat} {N : Mem} {K : Mej} (hn : n ≤ 10) (hb : ∀ f, f < 10 → h f < 1024) :
    ∀ (k s : Nat) (N1 : Mem), s + k = 2 ^ n → 0 < s → WH h n s N1 → (∀ i, i ≠ 10 → N1 i = N i) → EK d mX2_findStarts (fun r N2 K2 => r = none ∧ WH h n (2 ^ n) N2 ∧ (∀ i, i ≠ 10 → N2 i = N i) ∧ K2 = K) 2 [(0, .ref 7), (1, .int (nI s))] [] N1 K
  | 0, s, N1, e, h0, I, hF => by
    have h7 := I.1
    have p := p10 hn
    obtain rfl : s = 2 ^ n := by omega
    refine K_iload_n dX2_findStarts_2 rfl rfl ?_
    refine K_iconst (v := nI 1) dX2_findStarts_3 (by decide) rfl ?_
    refine K_aload_n dX2_findStarts_4 rfl rfl ?_
    refine K_getI dX2_findStarts_5 fl_X2_21 (by first | rfl | exact sk_rk (by omega) | exact sk_hh (by omega)) rfl (by first | assumption | rfl) rfl ?_
    first | refine K_shl1 dX2_findStarts_8 (by first | omega | fail) rfl ?_ | refine K_shlN dX2_findStarts_8 (by first | omega | fail) (by first | omega | fail) rfl ?_ | refine K_ishl dX2_findStarts_8 rfl ?_
    refine K_icmp_geN (tgt := 51) dX2_findStarts_9 (by decide) rfl (by first | omega | fail) (by first | omega | fail) (fun c9 => ?_) (fun c9 => ?_)
    · refine K_ret dX2_findStarts_51 rfl ?_
      exact ⟨rfl, I, hF, rfl⟩
    · omega
  | k + 1, s, N1, e, h0, I, hF => by
    have h7 := I.1
    have p := p10 hn
    have l1 : s &&& (s - 1) < 1024 := Nat.lt_of_le_of_lt Nat.and_le_left (by omega)
    have nx : ∀ v, v = st h s → EK d mX2_findStarts (fun r N2 K2 => r = none ∧ WH h n (2 ^ n) N2 ∧ (∀ i, i ≠ 10 → N2 i = N i) ∧ K2 = K) 2 [(0, .ref 7), (1, .int (nI (s + 1)))] [] (sM N1 10 s (nI v)) K := fun v ev =>
      l_X2_findStarts hd hn hb k (s + 1) _ (by omega) (by omega) ⟨(sM_ne (Or.inl (by decide))).trans I.1, fun f hf => (sM_ne (Or.inl (by decide))).trans (I.2.1 f hf), fun t h1 h2 => by
        rw [sM_at]
        by_cases e2 : t = s
        · rw [if_pos ⟨rfl, e2⟩, ev, e2]
        · rw [if_neg (by omega)]
          exact I.2.2 t h1 (by omega)⟩ (fun i hi => (sM_row hi).trans (hF i hi))
    by_cases hz : s &&& (s - 1) = 0
    · have hst := (st_single (h := h) (by omega) (by omega) hz).symm
      refine K_iload_n dX2_findStarts_2 rfl rfl ?_
      refine K_iconst (v := nI 1) dX2_findStarts_3 (by decide) rfl ?_
      refine K_aload_n dX2_findStarts_4 rfl rfl ?_
      refine K_getI dX2_findStarts_5 fl_X2_21 (by first | rfl | exact sk_rk (by omega) | exact sk_hh (by omega)) rfl (by first | assumption | rfl) rfl ?_
      first | refine K_shl1 dX2_findStarts_8 (by first | omega | fail) rfl ?_ | refine K_shlN dX2_findStarts_8 (by first | omega | fail) (by first | omega | fail) rfl ?_ | refine K_ishl dX2_findStarts_8 rfl ?_
      refine K_icmp_geN (tgt := 51) dX2_findStarts_9 (by decide) rfl (by first | omega | fail) (by first | omega | fail) (fun c9 => ?_) (fun c9 => ?_)
      · omega
      · refine K_iload_n dX2_findStarts_12 rfl rfl ?_
        refine K_iload_n dX2_findStarts_13 rfl rfl ?_
        refine K_iconst (v := nI 1) dX2_findStarts_14 (by decide) rfl ?_
        refine K_subN dX2_findStarts_15 (by first | omega | fail) rfl ?_
        refine K_andN dX2_findStarts_16 rfl ?_
        refine K_if_neN (tgt := 24) dX2_findStarts_17 (by decide) rfl (by first | omega | fail) (fun c17 => ?_) (fun c17 => ?_)
        · exact absurd hz c17
        · refine K_iconst (v := nI 1) dX2_findStarts_20 (by decide) rfl ?_
          refine K_goto (tgt := 25) dX2_findStarts_21 (by decide) ?_
          refine K_istore_n (lv' := [(0, _), (1, _), (2, _)]) dX2_findStarts_25 (by decide) rfl rfl ?_
          refine K_aload_n dX2_findStarts_26 rfl rfl ?_
          refine K_getR (r := 10) dX2_findStarts_27 fl_X2_18 rfl rfl rfl rfl ?_
          refine K_iload_n dX2_findStarts_30 rfl rfl ?_
          refine K_iload_n dX2_findStarts_31 rfl rfl ?_
          refine K_if_eqN (tgt := 39) dX2_findStarts_32 (by decide) rfl (by first | omega | fail) (fun c32 => ?_) (fun c32 => ?_)
          · omega
          · refine K_iload_n dX2_findStarts_35 rfl rfl ?_
            refine K_goto (tgt := 44) dX2_findStarts_36 (by decide) ?_
            refine K_iast dX2_findStarts_44 (by first | rfl | exact sk_rk (by omega) | exact sk_hh (by omega)) (by first | omega | fail) (by decide) rfl ?_
            first | refine K_incN (lv' := [(0, _), (1, _), (2, _)]) dX2_findStarts_45 rfl (by decide) rfl rfl ?_ | refine K_iinc (lv' := [(0, _), (1, _), (2, _)]) dX2_findStarts_45 rfl rfl (by decide) rfl rfl ?_
            refine K_goto (tgt := 2) dX2_findStarts_48 (by decide) ?_
            refine K_pick [0, 1] rfl ?_
            exact nx s hst
    · have _u := hz
      refine K_iload_n dX2_findStarts_2 rfl rfl ?_
      refine K_iconst (v := nI 1) dX2_findStarts_3 (by decide) rfl ?_
      refine K_aload_n dX2_findStarts_4 rfl rfl ?_
      refine K_getI dX2_findStarts_5 fl_X2_21 (by first | rfl | exact sk_rk (by omega) | exact sk_hh (by omega)) rfl (by first | assumption | rfl) rfl ?_
      first | refine K_shl1 dX2_findStarts_8 (by first | omega | fail) rfl ?_ | refine K_shlN dX2_findStarts_8 (by first | omega | fail) (by first | omega | fail) rfl ?_ | refine K_ishl dX2_findStarts_8 rfl ?_
      refine K_icmp_geN (tgt := 51) dX2_findStarts_9 (by decide) rfl (by first | omega | fail) (by first | omega | fail) (fun c9 => ?_) (fun c9 => ?_)
      · omega
      · refine K_iload_n dX2_findStarts_12 rfl rfl ?_
        refine K_iload_n dX2_findStarts_13 rfl rfl ?_
        refine K_iconst (v := nI 1) dX2_findStarts_14 (by decide) rfl ?_
        refine K_subN dX2_findStarts_15 (by first | omega | fail) rfl ?_
        refine K_andN dX2_findStarts_16 rfl ?_
        refine K_if_neN (tgt := 24) dX2_findStarts_17 (by decide) rfl (by first | omega | fail) (fun c17 => ?_) (fun c17 => ?_)
        · refine K_iconst (v := nI 0) dX2_findStarts_24 (by decide) rfl ?_
          refine K_istore_n (lv' := [(0, _), (1, _), (2, _)]) dX2_findStarts_25 (by decide) rfl rfl ?_
          refine K_aload_n dX2_findStarts_26 rfl rfl ?_
          refine K_getR (r := 10) dX2_findStarts_27 fl_X2_18 rfl rfl rfl rfl ?_
          refine K_iload_n dX2_findStarts_30 rfl rfl ?_
          refine K_iload_n dX2_findStarts_31 rfl rfl ?_
          refine K_if_eqN (tgt := 39) dX2_findStarts_32 (by decide) rfl (by first | omega | fail) (fun c32 => ?_) (fun c32 => ?_)
          · refine K_aload_n dX2_findStarts_39 rfl rfl ?_
            refine K_iload_n dX2_findStarts_40 rfl rfl ?_
            refine K_cv (ci := 2) (d1 := d - 1) [_] dX2_findStarts_41 ml_X2_42 (by decide) rfl rfl rfl (Nat.le_of_ble_eq_true rfl) (c_X2_startsWithin hn I hb (by omega) hz) (by omega) rfl ?_
            refine K_iast dX2_findStarts_44 (by first | rfl | exact sk_rk (by omega) | exact sk_hh (by omega)) (by first | omega | fail) (by decide) rfl ?_
            first | refine K_incN (lv' := [(0, _), (1, _), (2, _)]) dX2_findStarts_45 rfl (by decide) rfl rfl ?_ | refine K_iinc (lv' := [(0, _), (1, _), (2, _)]) dX2_findStarts_45 rfl rfl (by decide) rfl rfl ?_
            refine K_goto (tgt := 2) dX2_findStarts_48 (by decide) ?_
            refine K_pick [0, 1] rfl ?_
            exact nx _ rfl
          · omega
        · exact absurd c17 hz
set_option maxRecDepth 100000 in
theorem c_X2_findStarts {d : Nat} (hd : 1 ≤ d) {h : Nat → Nat} {n : Nat} {N : Mem} {K : Mej} (hn : n ≤ 10) (hb : ∀ f, f < 10 → h f < 1024) (h7 : N 7 3 = nI n) (h8 : ∀ f, f < 10 → N 8 f = nI (h f)) : CK d mX2_findStarts [.ref 7] N K (fun r N2 K2 => r = none ∧ WH h n (2 ^ n) N2 ∧ (∀ i, i ≠ 10 → N2 i = N i) ∧ K2 = K) := by
  have p0 : 0 < 2 ^ n := Nat.two_pow_pos n
  refine CK.start [(0, _)] (plainFor_of_name (by decide)) (Nat.le_of_ble_eq_true rfl) rfl ?_
  refine K_iconst (v := nI 1) dX2_findStarts_0 (by decide) rfl ?_
  refine K_istore_n (lv' := [(0, _), (1, _)]) dX2_findStarts_1 (by decide) rfl rfl ?_
  exact l_X2_findStarts hd hn hb (2 ^ n - 1) 1 N (by omega) (by omega) ⟨h7, h8, fun s h1 h2 => by omega⟩ (fun _ _ => rfl)
def mS (h : Nat → Nat) (a i m : Nat) : Prop := (∀ s, 0 < s → s < i → cS h a s → pop s ≤ m) ∧ (m = 0 ∨ ∃ s, 0 < s ∧ s < i ∧ cS h a s ∧ pop s = m)
theorem mS.le {h : Nat → Nat} {a i m : Nat} (I : mS h a i m) : m ≤ 10 := by
  rcases I.2 with rfl | ⟨s, -, -, -, e⟩
  · omega
  · rw [← e]; exact pop_le s
theorem mS.skip {h : Nat → Nat} {a i m : Nat} (I : mS h a i m) (hc : ¬ cS h a i) : mS h a (i + 1) m := by
  refine ⟨fun s h1 h2 h3 => ?_, ?_⟩
  · rcases Nat.lt_succ_iff_lt_or_eq.mp h2 with h2 | rfl
    · exact I.1 s h1 h2 h3
    · exact absurd h3 hc
  · rcases I.2 with e | ⟨s, h1, h2, h3⟩
    · exact Or.inl e
    · exact Or.inr ⟨s, h1, by omega, h3⟩
theorem mS.take {h : Nat → Nat} {a i m : Nat} (I : mS h a i m) (hi : 0 < i) (hc : cS h a i) : mS h a (i + 1) (max m (pop i)) := by
  refine ⟨fun s h1 h2 h3 => ?_, ?_⟩
  · rcases Nat.lt_succ_iff_lt_or_eq.mp h2 with h2 | rfl
    · exact Nat.le_trans (I.1 s h1 h2 h3) (Nat.le_max_left _ _)
    · exact Nat.le_max_right _ _
  · rcases Nat.le_total m (pop i) with e | e
    · exact Or.inr ⟨i, hi, by omega, hc, (Nat.max_eq_right e).symm⟩
    · rw [Nat.max_eq_left e]
      rcases I.2 with e | ⟨s, h1, h2, h3⟩
      · exact Or.inl e
      · exact Or.inr ⟨s, h1, by omega, h3⟩
theorem l_X2_mostSteps {d : Nat} (hd : 1 ≤ d) {h : Nat → Nat} {n a : Nat} {N : Mem} {K : Mej} (hn : n ≤ 10) (ha : a < n) (hb : ∀ f, f < 10 → h f < 1024) (I : WH h n (2 ^ n) N) :
    ∀ (k s m : Nat), s + k = 2 ^ n → 0 < s → mS h a s m → EK d mX2_mostSteps (fun r N2 K2 => (∃ m, r = some (.int (nI m)) ∧ mS h a (2 ^ n) m) ∧ N2 = N ∧ K2 = K) 4 [(0, .ref 7), (1, .int (nI a)), (2, .int (nI m)), (3, .int (nI s))] [] N K
  | 0, s, m, e, h0, J => by
    have h7 := I.1
    have p := p10 hn
    obtain rfl : s = 2 ^ n := by omega
    refine K_iload_n dX2_mostSteps_4 rfl rfl ?_
    refine K_iconst (v := nI 1) dX2_mostSteps_5 (by decide) rfl ?_
    refine K_aload_n dX2_mostSteps_6 rfl rfl ?_
    refine K_getI dX2_mostSteps_7 fl_X2_21 (by first | rfl | exact sk_rk (by omega) | exact sk_hh (by omega)) rfl (by first | assumption | rfl) rfl ?_
    first | refine K_shl1 dX2_mostSteps_10 (by first | omega | fail) rfl ?_ | refine K_shlN dX2_mostSteps_10 (by first | omega | fail) (by first | omega | fail) rfl ?_ | refine K_ishl dX2_mostSteps_10 rfl ?_
    refine K_icmp_geN (tgt := 65) dX2_mostSteps_11 (by decide) rfl (by first | omega | fail) (by first | omega | fail) (fun c11 => ?_) (fun c11 => ?_)
    · refine K_iload_n dX2_mostSteps_65 rfl rfl ?_
      refine K_iret dX2_mostSteps_66 rfl ?_
      exact ⟨⟨m, rfl, J⟩, rfl, rfl⟩
    · omega
  | k + 1, s, m, e, h0, J => by
    have h7 := I.1
    have p := p10 hn
    have h8 := I.2.1 a (by omega)
    have h10 := I.2.2 s h0 (by omega)
    have l1 := hb a (by omega)
    have l2 : h a &&& st h s < 1024 := Nat.lt_of_le_of_lt Nat.and_le_left l1
    have l3 := J.le
    have l4 := pop_le s
    have nx := l_X2_mostSteps (d := d) (K := K) hd hn ha hb I k (s + 1)
    cases hz : s.testBit a with
    | true =>
      refine K_iload_n dX2_mostSteps_4 rfl rfl ?_
      refine K_iconst (v := nI 1) dX2_mostSteps_5 (by decide) rfl ?_
      refine K_aload_n dX2_mostSteps_6 rfl rfl ?_
      refine K_getI dX2_mostSteps_7 fl_X2_21 (by first | rfl | exact sk_rk (by omega) | exact sk_hh (by omega)) rfl (by first | assumption | rfl) rfl ?_
      first | refine K_shl1 dX2_mostSteps_10 (by first | omega | fail) rfl ?_ | refine K_shlN dX2_mostSteps_10 (by first | omega | fail) (by first | omega | fail) rfl ?_ | refine K_ishl dX2_mostSteps_10 rfl ?_
      refine K_icmp_geN (tgt := 65) dX2_mostSteps_11 (by decide) rfl (by first | omega | fail) (by first | omega | fail) (fun c11 => ?_) (fun c11 => ?_)
      · omega
      · refine K_iload_n dX2_mostSteps_14 rfl rfl ?_
        refine K_iload_n dX2_mostSteps_15 rfl rfl ?_
        first | refine K_shrN dX2_mostSteps_16 (by first | omega | fail) (by first | omega | fail) rfl ?_ | refine K_ishr dX2_mostSteps_16 rfl ?_
        refine K_iconst (v := nI 1) dX2_mostSteps_17 (by decide) rfl ?_
        first | refine K_bitN dX2_mostSteps_18 rfl ?_ | refine K_andN dX2_mostSteps_18 rfl ?_ | refine K_iand dX2_mostSteps_18 rfl ?_
        refine K_if_neB (tgt := 26) dX2_mostSteps_19 (by decide) rfl (fun c19 => ?_) (fun c19 => ?_)
        · refine K_iconst (v := nI 0) dX2_mostSteps_26 (by decide) rfl ?_
          refine K_istore (lv' := [(0, _), (1, _), (2, _), (3, _), (4, _)]) dX2_mostSteps_27 (by decide) rfl rfl ?_
          refine K_iload dX2_mostSteps_29 rfl rfl ?_
          refine K_if_eqN (tgt := 59) dX2_mostSteps_31 (by decide) rfl (by first | omega | fail) (fun c31 => ?_) (fun c31 => ?_)
          · first | refine K_incN (lv' := [(0, _), (1, _), (2, _), (3, _), (4, _)]) dX2_mostSteps_59 rfl (by decide) rfl rfl ?_ | refine K_iinc (lv' := [(0, _), (1, _), (2, _), (3, _), (4, _)]) dX2_mostSteps_59 rfl rfl (by decide) rfl rfl ?_
            refine K_goto (tgt := 4) dX2_mostSteps_62 (by decide) ?_
            refine K_pick [0, 1, 2, 3] rfl ?_
            exact nx m (by omega) (by omega) (J.skip (fun z => by have z1 := z.1; rw [hz] at z1; cases z1))
          · omega
        · rw [hz] at c19; cases c19
    | false =>
      refine K_iload_n dX2_mostSteps_4 rfl rfl ?_
      refine K_iconst (v := nI 1) dX2_mostSteps_5 (by decide) rfl ?_
      refine K_aload_n dX2_mostSteps_6 rfl rfl ?_
      refine K_getI dX2_mostSteps_7 fl_X2_21 (by first | rfl | exact sk_rk (by omega) | exact sk_hh (by omega)) rfl (by first | assumption | rfl) rfl ?_
      first | refine K_shl1 dX2_mostSteps_10 (by first | omega | fail) rfl ?_ | refine K_shlN dX2_mostSteps_10 (by first | omega | fail) (by first | omega | fail) rfl ?_ | refine K_ishl dX2_mostSteps_10 rfl ?_
      refine K_icmp_geN (tgt := 65) dX2_mostSteps_11 (by decide) rfl (by first | omega | fail) (by first | omega | fail) (fun c11 => ?_) (fun c11 => ?_)
      · omega
      · refine K_iload_n dX2_mostSteps_14 rfl rfl ?_
        refine K_iload_n dX2_mostSteps_15 rfl rfl ?_
        first | refine K_shrN dX2_mostSteps_16 (by first | omega | fail) (by first | omega | fail) rfl ?_ | refine K_ishr dX2_mostSteps_16 rfl ?_
        refine K_iconst (v := nI 1) dX2_mostSteps_17 (by decide) rfl ?_
        first | refine K_bitN dX2_mostSteps_18 rfl ?_ | refine K_andN dX2_mostSteps_18 rfl ?_ | refine K_iand dX2_mostSteps_18 rfl ?_
        refine K_if_neB (tgt := 26) dX2_mostSteps_19 (by decide) rfl (fun c19 => ?_) (fun c19 => ?_)
        · rw [hz] at c19; cases c19
        · refine K_iconst (v := nI 1) dX2_mostSteps_22 (by decide) rfl ?_
          refine K_goto (tgt := 27) dX2_mostSteps_23 (by decide) ?_
          refine K_istore (lv' := [(0, _), (1, _), (2, _), (3, _), (4, _)]) dX2_mostSteps_27 (by decide) rfl rfl ?_
          refine K_iload dX2_mostSteps_29 rfl rfl ?_
          refine K_if_eqN (tgt := 59) dX2_mostSteps_31 (by decide) rfl (by first | omega | fail) (fun c31 => ?_) (fun c31 => ?_)
          · omega
          · refine K_aload_n dX2_mostSteps_34 rfl rfl ?_
            refine K_getR (r := 8) dX2_mostSteps_35 fl_X2_9 rfl rfl rfl rfl ?_
            refine K_iload_n dX2_mostSteps_38 rfl rfl ?_
            refine K_iald dX2_mostSteps_39 (by first | rfl | exact sk_rk (by omega) | exact sk_hh (by omega)) (by first | omega | fail) (by decide) (by first | assumption | rfl) rfl ?_
            refine K_aload_n dX2_mostSteps_40 rfl rfl ?_
            refine K_getR (r := 10) dX2_mostSteps_41 fl_X2_18 rfl rfl rfl rfl ?_
            refine K_iload_n dX2_mostSteps_44 rfl rfl ?_
            refine K_iald dX2_mostSteps_45 (by first | rfl | exact sk_rk (by omega) | exact sk_hh (by omega)) (by first | omega | fail) (by decide) (by first | assumption | rfl) rfl ?_
            refine K_andN dX2_mostSteps_46 rfl ?_
            refine K_if_eqN (tgt := 59) dX2_mostSteps_47 (by decide) rfl (by first | omega | fail) (fun c47 => ?_) (fun c47 => ?_)
            · first | refine K_incN (lv' := [(0, _), (1, _), (2, _), (3, _), (4, _)]) dX2_mostSteps_59 rfl (by decide) rfl rfl ?_ | refine K_iinc (lv' := [(0, _), (1, _), (2, _), (3, _), (4, _)]) dX2_mostSteps_59 rfl rfl (by decide) rfl rfl ?_
              refine K_goto (tgt := 4) dX2_mostSteps_62 (by decide) ?_
              refine K_pick [0, 1, 2, 3] rfl ?_
              first | exact nx m (by omega) (by omega) (J.skip (fun z => z.2 c47)) | exact nx _ (by omega) (by omega) (J.take h0 ⟨hz, c47⟩)
            · refine K_iload_n dX2_mostSteps_50 rfl rfl ?_
              refine K_iload_n dX2_mostSteps_51 rfl rfl ?_
              refine K_sv (d1 := d - 1) [_] dX2_mostSteps_52 ml_X2_45 rfl rfl (Nat.le_of_ble_eq_true rfl) (c_J6_bitCount (m := s) (by omega)) (by omega) rfl ?_
              refine K_sv (d1 := d - 1) [_, _] dX2_mostSteps_55 ml_X2_50 rfl rfl (Nat.le_of_ble_eq_true rfl) (c_J9_max_7cf53 (by omega) (by omega)) (by omega) rfl ?_
              refine K_istore_n (lv' := [(0, _), (1, _), (2, _), (3, _), (4, _)]) dX2_mostSteps_58 (by decide) rfl rfl ?_
              first | refine K_incN (lv' := [(0, _), (1, _), (2, _), (3, _), (4, _)]) dX2_mostSteps_59 rfl (by decide) rfl rfl ?_ | refine K_iinc (lv' := [(0, _), (1, _), (2, _), (3, _), (4, _)]) dX2_mostSteps_59 rfl rfl (by decide) rfl rfl ?_
              refine K_goto (tgt := 4) dX2_mostSteps_62 (by decide) ?_
              refine K_pick [0, 1, 2, 3] rfl ?_
              first | exact nx m (by omega) (by omega) (J.skip (fun z => z.2 c47)) | exact nx _ (by omega) (by omega) (J.take h0 ⟨hz, c47⟩)
set_option maxRecDepth 100000 in
theorem c_X2_mostSteps {d : Nat} (hd : 1 ≤ d) {h : Nat → Nat} {n a : Nat} {N : Mem} {K : Mej} (hn : n ≤ 10) (ha : a < n) (hb : ∀ f, f < 10 → h f < 1024) (I : WH h n (2 ^ n) N) : CK d mX2_mostSteps [.ref 7, .int (nI a)] N K (fun r N2 K2 => (∃ m, r = some (.int (nI m)) ∧ mS h a (2 ^ n) m) ∧ N2 = N ∧ K2 = K) := by
  have p0 : 0 < 2 ^ n := Nat.two_pow_pos n
  refine CK.start [(0, _), (1, _)] (plainFor_of_name (by decide)) (Nat.le_of_ble_eq_true rfl) rfl ?_
  refine K_iconst (v := nI 0) dX2_mostSteps_0 (by decide) rfl ?_
  refine K_istore_n (lv' := [(0, _), (1, _), (2, _)]) dX2_mostSteps_1 (by decide) rfl rfl ?_
  refine K_iconst (v := nI 1) dX2_mostSteps_2 (by decide) rfl ?_
  refine K_istore_n (lv' := [(0, _), (1, _), (2, _), (3, _)]) dX2_mostSteps_3 (by decide) rfl rfl ?_
  exact l_X2_mostSteps hd hn ha hb I (2 ^ n - 1) 1 0 (by omega) (by omega) ⟨fun s h1 h2 => by omega, Or.inl rfl⟩
theorem l_X2_startsApart {d : Nat} (hd : 1 ≤ d) {h : Nat → Nat} {n met c : Nat} {N : Mem} {K : Mej} (hn : n ≤ 10) (hm : met < 1024) (hc : c ≤ 100) (I : WH h n (2 ^ n) N) :
    ∀ (k s : Nat), s + k = 2 ^ n → 0 < s → EK d mX2_startsApart (PX (some (.int (nI (sa h met c (2 ^ n))))) N K) 5 [(0, .ref 7), (1, .int (nI met)), (2, .int (nI c)), (3, .int (nI (sa h met c s))), (4, .int (nI s))] [] N K
  | 0, s, e, h0 => by
    have h7 := I.1
    have p := p10 hn
    obtain rfl : s = 2 ^ n := by omega
    refine K_iload dX2_startsApart_5 rfl rfl ?_
    refine K_iconst (v := nI 1) dX2_startsApart_7 (by decide) rfl ?_
    refine K_aload_n dX2_startsApart_8 rfl rfl ?_
    refine K_getI dX2_startsApart_9 fl_X2_21 (by first | rfl | exact sk_rk (by omega) | exact sk_hh (by omega)) rfl (by first | assumption | rfl) rfl ?_
    first | refine K_shl1 dX2_startsApart_12 (by first | omega | fail) rfl ?_ | refine K_shlN dX2_startsApart_12 (by first | omega | fail) (by first | omega | fail) rfl ?_ | refine K_ishl dX2_startsApart_12 rfl ?_
    refine K_icmp_geN (tgt := 48) dX2_startsApart_13 (by decide) rfl (by first | omega | fail) (by first | omega | fail) (fun c13 => ?_) (fun c13 => ?_)
    · refine K_iload_n dX2_startsApart_48 rfl rfl ?_
      refine K_iret dX2_startsApart_49 rfl ?_
      exact ⟨rfl, rfl, rfl⟩
    · omega
  | k + 1, s, e, h0 => by
    have h7 := I.1
    have p := p10 hn
    have h10 := I.2.2 s h0 (by omega)
    have l1 : s &&& met < 1024 := Nat.lt_of_le_of_lt Nat.and_le_left (by omega)
    have l4 := pop_le s
    have ih := l_X2_startsApart (d := d) (K := K) hd hn hm hc I k (s + 1) (by omega) (by omega)
    refine K_iload dX2_startsApart_5 rfl rfl ?_
    refine K_iconst (v := nI 1) dX2_startsApart_7 (by decide) rfl ?_
    refine K_aload_n dX2_startsApart_8 rfl rfl ?_
    refine K_getI dX2_startsApart_9 fl_X2_21 (by first | rfl | exact sk_rk (by omega) | exact sk_hh (by omega)) rfl (by first | assumption | rfl) rfl ?_
    first | refine K_shl1 dX2_startsApart_12 (by first | omega | fail) rfl ?_ | refine K_shlN dX2_startsApart_12 (by first | omega | fail) (by first | omega | fail) rfl ?_ | refine K_ishl dX2_startsApart_12 rfl ?_
    refine K_icmp_geN (tgt := 48) dX2_startsApart_13 (by decide) rfl (by first | omega | fail) (by first | omega | fail) (fun c13 => ?_) (fun c13 => ?_)
    · omega
    · refine K_iload dX2_startsApart_16 rfl rfl ?_
      refine K_iload_n dX2_startsApart_18 rfl rfl ?_
      refine K_andN dX2_startsApart_19 rfl ?_
      refine K_if_neN (tgt := 42) dX2_startsApart_20 (by decide) rfl (by first | omega | fail) (fun c20 => ?_) (fun c20 => ?_)
      · first | refine K_incN (lv' := [(0, _), (1, _), (2, _), (3, _), (4, _)]) dX2_startsApart_42 rfl (by decide) rfl rfl ?_ | refine K_iinc (lv' := [(0, _), (1, _), (2, _), (3, _), (4, _)]) dX2_startsApart_42 rfl rfl (by decide) rfl rfl ?_
        refine K_goto (tgt := 5) dX2_startsApart_45 (by decide) ?_
        first | (rw [sa_f (fun z => c20 z.1)] at ih; exact ih) | (rw [sa_f (fun z => c29 z.2)] at ih; exact ih) | (rw [sa_t h0 c20 c29] at ih; exact ih)
      · refine K_iload dX2_startsApart_23 rfl rfl ?_
        refine K_sv (d1 := d - 1) [_] dX2_startsApart_25 ml_X2_45 rfl rfl (Nat.le_of_ble_eq_true rfl) (c_J6_bitCount (m := s) (by omega)) (by omega) rfl ?_
        refine K_iload_n dX2_startsApart_28 rfl rfl ?_
        refine K_icmp_neN (tgt := 42) dX2_startsApart_29 (by decide) rfl (by first | omega | fail) (by first | omega | fail) (fun c29 => ?_) (fun c29 => ?_)
        · first | refine K_incN (lv' := [(0, _), (1, _), (2, _), (3, _), (4, _)]) dX2_startsApart_42 rfl (by decide) rfl rfl ?_ | refine K_iinc (lv' := [(0, _), (1, _), (2, _), (3, _), (4, _)]) dX2_startsApart_42 rfl rfl (by decide) rfl rfl ?_
          refine K_goto (tgt := 5) dX2_startsApart_45 (by decide) ?_
          first | (rw [sa_f (fun z => c20 z.1)] at ih; exact ih) | (rw [sa_f (fun z => c29 z.2)] at ih; exact ih) | (rw [sa_t h0 c20 c29] at ih; exact ih)
        · refine K_iload_n dX2_startsApart_32 rfl rfl ?_
          refine K_aload_n dX2_startsApart_33 rfl rfl ?_
          refine K_getR (r := 10) dX2_startsApart_34 fl_X2_18 rfl rfl rfl rfl ?_
          refine K_iload dX2_startsApart_37 rfl rfl ?_
          refine K_iald dX2_startsApart_39 (by first | rfl | exact sk_rk (by omega) | exact sk_hh (by omega)) (by first | omega | fail) (by decide) (by first | assumption | rfl) rfl ?_
          refine K_orN dX2_startsApart_40 rfl ?_
          refine K_istore_n (lv' := [(0, _), (1, _), (2, _), (3, _), (4, _)]) dX2_startsApart_41 (by decide) rfl rfl ?_
          first | refine K_incN (lv' := [(0, _), (1, _), (2, _), (3, _), (4, _)]) dX2_startsApart_42 rfl (by decide) rfl rfl ?_ | refine K_iinc (lv' := [(0, _), (1, _), (2, _), (3, _), (4, _)]) dX2_startsApart_42 rfl rfl (by decide) rfl rfl ?_
          refine K_goto (tgt := 5) dX2_startsApart_45 (by decide) ?_
          first | (rw [sa_f (fun z => c20 z.1)] at ih; exact ih) | (rw [sa_f (fun z => c29 z.2)] at ih; exact ih) | (rw [sa_t h0 c20 c29] at ih; exact ih)
set_option maxRecDepth 100000 in
theorem c_X2_startsApart {d : Nat} (hd : 1 ≤ d) {h : Nat → Nat} {n met c : Nat} {N : Mem} {K : Mej} (hn : n ≤ 10) (hm : met < 1024) (hc : c ≤ 100) (I : WH h n (2 ^ n) N) : CK d mX2_startsApart [.ref 7, .int (nI met), .int (nI c)] N K (PX (some (.int (nI (sa h met c (2 ^ n))))) N K) := by
  have p0 : 0 < 2 ^ n := Nat.two_pow_pos n
  refine CK.start [(0, _), (1, _), (2, _)] (plainFor_of_name (by decide)) (Nat.le_of_ble_eq_true rfl) rfl ?_
  refine K_iconst (v := nI 0) dX2_startsApart_0 (by decide) rfl ?_
  refine K_istore_n (lv' := [(0, _), (1, _), (2, _), (3, _)]) dX2_startsApart_1 (by decide) rfl rfl ?_
  refine K_iconst (v := nI 1) dX2_startsApart_2 (by decide) rfl ?_
  refine K_istore (lv' := [(0, _), (1, _), (2, _), (3, _), (4, _)]) dX2_startsApart_3 (by decide) rfl rfl ?_
  have h1 := l_X2_startsApart (d := d) (K := K) hd hn hm hc I (2 ^ n - 1) 1 (by omega) (by omega)
  rw [sa_1] at h1
  exact h1
def PTL (h : Nat → Nat) (n a : Nat) (N : Mem) (K : Mej) : PK := fun r N1 K1 => K1 = K ∧ (∀ i, i ≠ 4 → i ≠ 10 → N1 i = N i) ∧ ((lwR h n a = [a] ∧ r = some (.int (nI 0)) ∧ N1 4 = N 4) ∨ (1 < (lwR h n a).length ∧ (lwR h n a).length ≤ 11 ∧ r = some (.int (nI (lwR h n a).length)) ∧ ∀ j, j < (lwR h n a).length → N1 4 j = nI ((lwR h n a).getD j 0)))
/-- the set of those met, the one at which the way is, behind i steps of it -/
noncomputable def gcM (h : Nat → Nat) (n : Nat) : Nat → Nat → Nat → Nat → Nat
  | _, _, met, 0 => met
  | 0, _, met, _ + 1 => met
  | r + 1, f, met, i + 1 => gcM h n r (lst (h f &&& sa h met (r + 1) (2 ^ n))) (met ||| 2 ^ lst (h f &&& sa h met (r + 1) (2 ^ n))) i
theorem gcM_s (h : Nat → Nat) (n : Nat) : ∀ (i r f met : Nat), i < r → (f :: gc h n r f met).getD (i + 1) 0 = lst (h ((f :: gc h n r f met).getD i 0) &&& sa h (gcM h n r f met i) (r - i) (2 ^ n)) ∧ gcM h n r f met (i + 1) = gcM h n r f met i ||| 2 ^ ((f :: gc h n r f met).getD (i + 1) 0)
  | 0, r + 1, f, met, _ => by
    refine ⟨rfl, ?_⟩
    show gcM h n r _ _ 0 = _
    cases r <;> rfl
  | i + 1, r + 1, f, met, hi => by
    obtain ⟨a, b⟩ := gcM_s h n i r (lst (h f &&& sa h met (r + 1) (2 ^ n))) (met ||| 2 ^ lst (h f &&& sa h met (r + 1) (2 ^ n))) (by omega)
    rw [show r + 1 - (i + 1) = r - i by omega]
    exact ⟨a, b⟩
theorem ch_len {W : Nat → Nat → Bool} {n : Nat} : ∀ {q : List Nat} {met f : Nat}, ch W n met f q → cnt met.testBit n + q.length ≤ n
  | [], met, f, _ => cnt_le _ _
  | g :: q, met, f, h => by
    have h1 := ch_len h.2.2.2
    rw [cnt_or h.2.1 h.1] at h1
    rw [List.length_cons]
    omega
theorem ch_mem {W : Nat → Nat → Bool} {n : Nat} : ∀ {q : List Nat} {met f : Nat}, ch W n met f q → ∀ x, x ∈ q → x < n
  | [], _, _, _, x, hx => by cases hx
  | g :: q, met, f, h, x, hx => by
    rcases List.mem_cons.mp hx with rfl | hx
    · exact h.1
    · exact ch_mem h.2.2.2 x hx
theorem l_X2_tellLongestWay {d : Nat} (hd : 2 ≤ d) {h : Nat → Nat} {n a m : Nat} {q : List Nat} {N N0 : Mem} {K : Mej} {Post : PK} (hn : n ≤ 10) (ha : a < n) (hb : ∀ f, f < 10 → h f < 1024) (I : WH h n (2 ^ n) N) (hm : m ≤ 9) (hq : q = a :: gc h n m a (2 ^ a)) (hl : ∀ x, x ∈ q → x < n)
    (hP : ∀ N1, (∀ j, j ≠ 4 → N1 j = N j) → (∀ j, j < m + 1 → N1 4 j = nI (q.getD j 0)) → Post (some (.int (nI (m + 1)))) N1 K) :
    ∀ (k i x : Nat) (N1 : Mem), i + k = m → gcM h n m a (2 ^ a) i < 1024 → (∀ j, j ≠ 4 → N1 j = N j) → (∀ j, j < i + 1 → N1 4 j = nI (q.getD j 0)) →
    EK d mX2_tellLongestWay Post 31 [(0, .ref 7), (1, .int (nI a)), (2, .ref 4), (3, .int (nI m)), (4, .int (nI (gcM h n m a (2 ^ a) i))), (5, .int (nI (q.getD i 0))), (6, .int (nI (i + 1)))] [] N1 K
  | 0, i, x, N1, e, hg, hF, hC => by
    obtain rfl : i = m := by omega
    refine K_iload dX2_tellLongestWay_31 rfl rfl ?_
    refine K_iload_n dX2_tellLongestWay_33 rfl rfl ?_
    refine K_icmp_gtN (tgt := 83) dX2_tellLongestWay_34 (by decide) rfl (by first | omega | fail) (by first | omega | fail) (fun c34 => ?_) (fun c34 => ?_)
    · refine K_iload_n dX2_tellLongestWay_83 rfl rfl ?_
      refine K_iconst (v := nI 1) dX2_tellLongestWay_84 (by decide) rfl ?_
      refine K_addN dX2_tellLongestWay_85 rfl ?_
      refine K_iret dX2_tellLongestWay_86 rfl ?_
      exact hP N1 hF hC
    · omega
  | k + 1, i, x, N1, e, hg, hF, hC => by
    have ql : q.length = m + 1 := by rw [hq, List.length_cons, gc_len]
    have an : q.getD i 0 < n := getD_lt hl (by omega)
    have an1 : q.getD (i + 1) 0 < n := getD_lt hl (by omega)
    obtain ⟨g1, g2⟩ := gcM_s h n i m a (2 ^ a) (by omega)
    rw [← hq] at g1 g2
    have I1 : WH h n (2 ^ n) N1 := ⟨by rw [hF 7 (by decide)]; exact I.1, fun f hf => by rw [hF 8 (by decide)]; exact I.2.1 f hf, fun s h1 h2 => by rw [hF 10 (by decide)]; exact I.2.2 s h1 h2⟩
    have h8 := I1.2.1 (q.getD i 0) (by omega)
    have l1 := hb (q.getD i 0) (by omega)
    have l2 : h (q.getD i 0) &&& sa h (gcM h n m a (2 ^ a) i) (m - i) (2 ^ n) < 1024 := Nat.lt_of_le_of_lt Nat.and_le_left l1
    have l4 : 2 ^ q.getD (i + 1) 0 < 2 ^ 10 := Nat.pow_lt_pow_right (by omega) (by omega)
    have l5 : gcM h n m a (2 ^ a) (i + 1) < 1024 := by rw [g2]; exact Nat.or_lt_two_pow (n := 10) hg l4
    have hls : CK (d - 1) mX2_leastOf [.int (nI (h (q.getD i 0) &&& sa h (gcM h n m a (2 ^ a) i) (m - i) (2 ^ n)))] N1 K (PX (some (.int (nI (q.getD (i + 1) 0)))) N1 K) := by
      rw [g1]
      exact c_X2_leastOf (by omega)
    have hsa : CK (d - 1) mX2_startsApart [.ref 7, .int (nI (gcM h n m a (2 ^ a) i)), .int (nI (m + 1 - (i + 1)))] N1 K (PX (some (.int (nI (sa h (gcM h n m a (2 ^ a) i) (m - i) (2 ^ n))))) N1 K) := by
      rw [show m + 1 - (i + 1) = m - i by omega]
      exact c_X2_startsApart (by omega) hn hg (by omega) I1
    have ih := l_X2_tellLongestWay (d := d) (K := K) (N0 := N0) hd hn ha hb I hm hq hl hP k (i + 1) x (sM N1 4 (i + 1) (nI (q.getD (i + 1) 0))) (by omega) l5 (fun j hj => (sM_row hj).trans (hF j hj)) (fun j hj => by
      rw [sM_at]
      by_cases e3 : j = i + 1
      · rw [if_pos ⟨rfl, e3⟩, e3]
      · rw [if_neg (by omega)]
        exact hC j (by omega))
    rw [g2] at ih
    refine K_iload dX2_tellLongestWay_31 rfl rfl ?_
    refine K_iload_n dX2_tellLongestWay_33 rfl rfl ?_
    refine K_icmp_gtN (tgt := 83) dX2_tellLongestWay_34 (by decide) rfl (by first | omega | fail) (by first | omega | fail) (fun c34 => ?_) (fun c34 => ?_)
    · omega
    · refine K_aload_n dX2_tellLongestWay_37 rfl rfl ?_
      refine K_getR (r := 8) dX2_tellLongestWay_38 fl_X2_9 rfl rfl rfl rfl ?_
      refine K_iload dX2_tellLongestWay_41 rfl rfl ?_
      refine K_iald dX2_tellLongestWay_43 (by first | rfl | exact sk_rk (by omega) | exact sk_hh (by omega)) (by first | omega | fail) (by decide) (by first | assumption | rfl) rfl ?_
      refine K_aload_n dX2_tellLongestWay_44 rfl rfl ?_
      refine K_iload dX2_tellLongestWay_45 rfl rfl ?_
      refine K_iload_n dX2_tellLongestWay_47 rfl rfl ?_
      refine K_iconst (v := nI 1) dX2_tellLongestWay_48 (by decide) rfl ?_
      refine K_addN dX2_tellLongestWay_49 rfl ?_
      refine K_iload dX2_tellLongestWay_50 rfl rfl ?_
      refine K_subN dX2_tellLongestWay_52 (by first | omega | fail) rfl ?_
      refine K_cv (ci := 2) (d1 := d - 1) [_, _] dX2_tellLongestWay_53 ml_X2_38 (by decide) rfl rfl rfl (Nat.le_of_ble_eq_true rfl) hsa (by omega) rfl ?_
      refine K_andN dX2_tellLongestWay_56 rfl ?_
      refine K_sv (d1 := d - 1) [_] dX2_tellLongestWay_57 ml_X2_29 rfl rfl (Nat.le_of_ble_eq_true rfl) hls (by omega) rfl ?_
      refine K_istore (lv' := [(0, _), (1, _), (2, _), (3, _), (4, _), (5, _), (6, _)]) dX2_tellLongestWay_60 (by decide) rfl rfl ?_
      refine K_iload dX2_tellLongestWay_62 rfl rfl ?_
      refine K_iconst (v := nI 1) dX2_tellLongestWay_64 (by decide) rfl ?_
      refine K_iload dX2_tellLongestWay_65 rfl rfl ?_
      first | refine K_shl1 dX2_tellLongestWay_67 (by first | omega | fail) rfl ?_ | refine K_shlN dX2_tellLongestWay_67 (by first | omega | fail) (by first | omega | fail) rfl ?_ | refine K_ishl dX2_tellLongestWay_67 rfl ?_
      refine K_orN dX2_tellLongestWay_68 rfl ?_
      refine K_istore (lv' := [(0, _), (1, _), (2, _), (3, _), (4, _), (5, _), (6, _)]) dX2_tellLongestWay_69 (by decide) rfl rfl ?_
      refine K_aload_n dX2_tellLongestWay_71 rfl rfl ?_
      refine K_iload dX2_tellLongestWay_72 rfl rfl ?_
      refine K_iload dX2_tellLongestWay_74 rfl rfl ?_
      refine K_iast dX2_tellLongestWay_76 (by first | rfl | exact sk_rk (by omega) | exact sk_hh (by omega)) (by first | omega | fail) (by decide) rfl ?_
      first | refine K_incN (lv' := [(0, _), (1, _), (2, _), (3, _), (4, _), (5, _), (6, _)]) dX2_tellLongestWay_77 rfl (by decide) rfl rfl ?_ | refine K_iinc (lv' := [(0, _), (1, _), (2, _), (3, _), (4, _), (5, _), (6, _)]) dX2_tellLongestWay_77 rfl rfl (by decide) rfl rfl ?_
      refine K_goto (tgt := 31) dX2_tellLongestWay_80 (by decide) ?_
      exact ih
set_option maxRecDepth 100000 in
theorem c_X2_tellLongestWay {d : Nat} (hd : 2 ≤ d) {h : Nat → Nat} {n a : Nat} {N : Mem} {K : Mej} (hn : n ≤ 10) (ha : a < n) (hb : ∀ f, f < 10 → h f < 1024) (hbn : ∀ f i, f < n → (h f).testBit i = true → i < n) (h7 : N 7 3 = nI n) (h8 : ∀ f, f < 10 → N 8 f = nI (h f)) : CK d mX2_tellLongestWay [.ref 7, .int (nI a), .ref 4] N K (PTL h n a N K) := by
  refine CK.start [(0, _), (1, _), (2, _)] (plainFor_of_name (by decide)) (Nat.le_of_ble_eq_true rfl) rfl ?_
  refine K_aload_n dX2_tellLongestWay_0 rfl rfl ?_
  refine K_callV (ci := 2) (d1 := d - 1) [] dX2_tellLongestWay_1 ml_X2_32 (by decide) rfl rfl rfl (Nat.le_of_ble_eq_true rfl) (c_X2_findStarts (by omega) hn hb h7 h8) (by omega) rfl ?_
  rintro r N2 K2 ⟨z1, I, z3, z4⟩
  subst z1
  subst z4
  refine K_aload_n dX2_tellLongestWay_4 rfl rfl ?_
  refine K_iload_n dX2_tellLongestWay_5 rfl rfl ?_
  refine K_callV (ci := 2) (d1 := d - 1) [_] dX2_tellLongestWay_6 ml_X2_35 (by decide) rfl rfl rfl (Nat.le_of_ble_eq_true rfl) (c_X2_mostSteps (by omega) hn ha hb I) (by omega) rfl ?_
  rintro r N3 K3 ⟨⟨m, y1, J⟩, y3, y4⟩
  subst y1
  subst y3
  subst y4
  obtain ⟨m1, m2⟩ := most_is hn ha hbn J.1 J.2
  have hlw := lw_is hn ha hbn m1 m2
  have ml := J.le
  refine K_istore_n (lv' := [(0, _), (1, _), (2, _), (3, _)]) dX2_tellLongestWay_9 (by decide) rfl rfl ?_
  refine K_iload_n dX2_tellLongestWay_10 rfl rfl ?_
  refine K_if_neN (tgt := 16) dX2_tellLongestWay_11 (by decide) rfl (by first | omega | fail) (fun c11 => ?_) (fun c11 => ?_)
  · refine K_iconst (v := nI 1) dX2_tellLongestWay_16 (by decide) rfl ?_
    refine K_iload_n dX2_tellLongestWay_17 rfl rfl ?_
    first | refine K_shl1 dX2_tellLongestWay_18 (by first | omega | fail) rfl ?_ | refine K_shlN dX2_tellLongestWay_18 (by first | omega | fail) (by first | omega | fail) rfl ?_ | refine K_ishl dX2_tellLongestWay_18 rfl ?_
    refine K_istore (lv' := [(0, _), (1, _), (2, _), (3, _), (4, _)]) dX2_tellLongestWay_19 (by decide) rfl rfl ?_
    refine K_iload_n dX2_tellLongestWay_21 rfl rfl ?_
    refine K_istore (lv' := [(0, _), (1, _), (2, _), (3, _), (4, _), (5, _)]) dX2_tellLongestWay_22 (by decide) rfl rfl ?_
    refine K_aload_n dX2_tellLongestWay_24 rfl rfl ?_
    refine K_iconst (v := nI 0) dX2_tellLongestWay_25 (by decide) rfl ?_
    refine K_iload_n dX2_tellLongestWay_26 rfl rfl ?_
    refine K_iast dX2_tellLongestWay_27 (by first | rfl | exact sk_rk (by omega) | exact sk_hh (by omega)) (by first | omega | fail) (by decide) rfl ?_
    refine K_iconst (v := nI 1) dX2_tellLongestWay_28 (by decide) rfl ?_
    refine K_istore (lv' := [(0, _), (1, _), (2, _), (3, _), (4, _), (5, _), (6, _)]) dX2_tellLongestWay_29 (by decide) rfl rfl ?_
    obtain ⟨q0, q1, q2⟩ := m2
    have cl := ch_len q1
    have hc := cnt_or (m := 0) (g := a) (Nat.zero_testBit a) ha
    rw [Nat.zero_or, cnt_0] at hc
    obtain ⟨g1, -⟩ := gc_is hn hbn (met := 2 ^ a) ha ⟨q0, q2, q1⟩
    have ll : (lwR h n a).length = m + 1 := by rw [hlw, List.length_cons, gc_len]
    have p2 : 2 ^ a < 2 ^ 10 := Nat.pow_lt_pow_right (by omega) (by omega)
    have hgm : gcM h n m a (2 ^ a) 0 = 2 ^ a := by cases m <;> rfl
    have key := l_X2_tellLongestWay (d := d) (K := K3) (N0 := N3) (Post := PTL h n a N K3) hd hn ha hb I (show m ≤ 9 by omega) hlw (fun x hx => by
      rw [hlw] at hx
      rcases List.mem_cons.mp hx with rfl | hx
      · exact ha
      · exact ch_mem g1 x hx) (fun N4 w1 w2 => ⟨rfl, fun i h1 h2 => (w1 i h1).trans (z3 i h2), Or.inr ⟨by omega, by omega, by rw [ll], fun j hj => w2 j (by omega)⟩⟩) m 0 0 (sM N3 4 0 (nI a)) (by omega) (by rw [hgm]; exact p2) (fun j hj => sM_row hj) (fun j hj => by
      obtain rfl : j = 0 := by omega
      rw [hlw]
      exact sM_eq _ _ _ _)
    rw [hgm, hlw] at key
    exact key
  · refine K_iconst (v := nI 0) dX2_tellLongestWay_14 (by decide) rfl ?_
    refine K_iret dX2_tellLongestWay_15 rfl ?_
    refine ⟨rfl, fun i _ h2 => z3 i h2, Or.inl ⟨?_, rfl, z3 4 (by decide)⟩⟩
    rw [hlw, c11]
    rfl
