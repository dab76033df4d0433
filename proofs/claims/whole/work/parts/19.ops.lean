theorem RX.bkf {S : GS} {N : Mem} {K : Mej} (R : RX S N K) {j : Nat} {v : Int32} (h : s_yr S * 10 ≤ j) : RX S (sM N 3 j v) K := by
  refine ⟨?_, fun f2 hf2 => ?_, fun f2 g2 hf2 hg2 => ?_, fun f2 hf2 => ?_, fun y f2 hy hf2 => ?_, fun i hi => ?_, R.2.2.2.2.2.2⟩
  · rw [sM_row (by decide)]; exact R.1
  · rw [sM_row (by omega)]; exact R.2.1 f2 hf2
  · rw [sM_row (by omega)]; exact R.2.2.1 f2 g2 hf2 hg2
  · rw [sM_row (by decide)]; exact R.2.2.2.1 f2 hf2
  · rw [sM_ne (Or.inr (by omega))]; exact R.2.2.2.2.1 y f2 hy hf2
  · rw [sM_row (by decide)]; exact R.2.2.2.2.2.1 i hi
/-- nobody goes -/
def clP (S : GS) : GS := (S.1, S.2.1, fun a b c => if a = 0 then none else S.2.2.1 a b c, S.2.2.2)
theorem fillM_row {N : Mem} {a i : Nat} {v : Int32} {b : Nat} (h : b ≠ a) : fillM N a i v b = N b := by
  funext j
  simp [fillM, h]
theorem RX.cl {S : GS} {N : Mem} {K : Mej} (R : RX S N K) : RX (clP S) (fillM N 2 10 (-1)) K := by
  refine ⟨?_, fun f2 hf2 => ?_, fun f2 g2 hf2 hg2 => ?_, fun f2 hf2 => ?_, fun y f2 hy hf2 => ?_, fun i hi => ?_, R.2.2.2.2.2.2⟩
  · rw [fillM_row (by decide)]; exact R.1
  · rw [fillM_row (by omega)]; exact R.2.1 f2 hf2
  · rw [fillM_row (by omega)]; exact R.2.2.1 f2 g2 hf2 hg2
  · show (if 2 = 2 ∧ f2 < 10 then -1 else N 2 f2) = _
    rw [if_pos ⟨rfl, hf2⟩]
    rfl
  · rw [fillM_row (by decide)]; exact R.2.2.2.2.1 y f2 hy hf2
  · rw [fillM_row (by decide)]; exact R.2.2.2.2.2.1 i hi
theorem FX.fill {N N1 : Mem} (h : FX N N1) {a i : Nat} {v : Int32} (ha : a < 40) : FX N (fillM N1 a i v) := fun b hb => (fillM_row (by omega)).trans (h b hb)
def gK (S : GS) (y : Nat) (p : Nat → Option Nat) : GS := (S.1, S.2.1, fun a b c => if a = 1 ∧ b = y then p c else S.2.2.1 a b c, S.2.2.2)
theorem RX.bk {S : GS} {N : Mem} {K : Mej} (R : RX S N K) {y : Nat} (hy : s_yr S = y) (p : Nat → Option Nat) : RX (gK S y p) N K := by
  refine ⟨R.1, R.2.1, R.2.2.1, fun f hf => ?_, fun y2 f2 hy2 hf2 => ?_, R.2.2.2.2.2.1, R.2.2.2.2.2.2⟩
  · exact (R.2.2.2.1 f hf).trans (by simp [s_pl, gK])
  · have h2 : y2 < s_yr S := hy2
    exact (R.2.2.2.2.1 y2 f2 hy2 hf2).trans (by simp [s_bk, gK, show y2 ≠ y by omega])
def bkG (S : GS) : GS := gN (gK (clP (payPl (gC S) (nI 1) (s_n S))) (s_yr S) (s_pl S)) 0 4 (s_yr S + 1)
def o_book (S : GS) : Int32 × GS := if s_yr S = 60 ∨ s_fc S ≠ 0 then (-1, gC S) else (nI (cnt (s_go S) (s_n S)), bkG S)
theorem fc_c0 (S : GS) : s_fc (gC S) = s_fc S := rfl
theorem l_X3_book {d : Nat} {S : GS} {N0 : Mem} {K : Mej} {Post : PK} {y c : Nat} {p : Nat → Option Nat} (hy : y < 60) (hyr : s_yr S = y) (hp : s_pl S = p) (goal : ∀ N, RX S N K → (∀ f, f < 10 → N 3 (y * 10 + f) = oI (p f)) → FX N0 N → EK d mX3_book Post 67 [(0, .ref 0), (1, .int (nI c)), (2, .int (nI 10))] [] N K) : ∀ (k i : Nat) (N : Mem), i + k = 10 → RX S N K → (∀ f, f < i → N 3 (y * 10 + f) = oI (p f)) → FX N0 N → EK d mX3_book Post 35 [(0, .ref 0), (1, .int (nI c)), (2, .int (nI i))] [] N K
  | 0, i, N, h, R, B, F => by
    obtain rfl : i = 10 := by omega
    refine K_iload_n dX3_book_35 rfl rfl ?_
    refine K_bipush (v := nI 10) dX3_book_36 (by decide) rfl ?_
    refine K_icmp_geN (tgt := 67) dX3_book_38 (by decide) rfl (by first | omega | fail) (by first | omega | fail) (fun c38 => ?_) (fun c38 => ?_)
    · exact goal N R B F
    · omega
  | k + 1, i, N, h, R, B, F => by
    have ih := fun N2 => l_X3_book (d := d) (N0 := N0) (K := K) hy hyr hp goal k (i + 1) N2 (by omega)
    have h8 := R.1.2.1
    rw [hyr] at h8
    have hq := R.2.2.2.1 i (by omega)
    rw [hp] at hq
    refine K_iload_n dX3_book_35 rfl rfl ?_
    refine K_bipush (v := nI 10) dX3_book_36 (by decide) rfl ?_
    refine K_icmp_geN (tgt := 67) dX3_book_38 (by decide) rfl (by first | omega | fail) (by first | omega | fail) (fun c38 => ?_) (fun c38 => ?_)
    · omega
    · refine K_aload_n dX3_book_41 rfl rfl ?_
      refine K_getR (r := 3) dX3_book_42 fl_X3_19 rfl rfl rfl rfl ?_
      refine K_aload_n dX3_book_45 rfl rfl ?_
      refine K_getI dX3_book_46 fl_X3_46 (by first | rfl | exact sk_rk (by omega) | exact sk_hh (by omega)) rfl (by first | assumption | rfl) rfl ?_
      refine K_bipush (v := nI 10) dX3_book_49 (by decide) rfl ?_
      refine K_mulN dX3_book_51 rfl ?_
      refine K_iload_n dX3_book_52 rfl rfl ?_
      refine K_addN dX3_book_53 rfl ?_
      refine K_aload_n dX3_book_54 rfl rfl ?_
      refine K_getR (r := 2) dX3_book_55 fl_X3_15 rfl rfl rfl rfl ?_
      refine K_iload_n dX3_book_58 rfl rfl ?_
      refine K_iald dX3_book_59 (by first | rfl | exact sk_rk (by omega) | exact sk_hh (by omega)) (by first | omega | fail) (by decide) (by first | assumption | rfl) rfl ?_
      refine K_iast dX3_book_60 (by first | rfl | exact sk_rk (by omega) | exact sk_hh (by omega)) (by first | omega | fail) (by decide) rfl ?_
      first | refine K_incN (lv' := [(0, _), (1, _), (2, _)]) dX3_book_61 rfl (by decide) rfl rfl ?_ | refine K_iinc (lv' := [(0, _), (1, _), (2, _)]) dX3_book_61 rfl rfl (by decide) rfl rfl ?_
      refine K_goto (tgt := 35) dX3_book_64 (by decide) ?_
      refine ih _ (R.bkf (by omega)) (fun f hf => ?_) (F.set (by decide))
      rcases Nat.lt_succ_iff_lt_or_eq.mp hf with hf | rfl
      · rw [sM_ne (Or.inr (by omega))]; exact B f hf
      · exact sM_eq _ _ _ _
set_option maxRecDepth 100000 in
theorem c_X3_book {d : Nat} (hd : 5 ≤ d) {S : GS} {N : Mem} {K : Mej} (R : RX S N K) (w : WF S) : CK d mX3_book [.ref 0] N K (PRX (o_book S).1 (o_book S).2 N) := by
  have R0 := R.c0
  have w0 := w.c0
  have hn := w.1.1
  have hy := w.1.2.1
  have hfl := s_fc_lt w
  have h8 : sM N 0 13 (nI 0) 0 8 = nI (s_yr S) := R0.1.2.1
  have hcl : CK (d - 1) mX3_faultOfClosing [.ref 0] (sM N 0 13 (nI 0)) K (PX (some (.int (nI (s_fc S)))) (sM N 0 13 (nI 0)) K) := c_X3_faultOfClosing (S := gC S) (by omega) R0 w0
  have hgo : CK (d - 1) mX3_countGoing [.ref 0] (sM N 0 13 (nI 0)) K (PX (some (.int (nI (cnt (s_go S) (s_n S))))) (sM N 0 13 (nI 0)) K) := c_X3_countGoing (S := gC S) R0 w0
  by_cases hz : s_yr S = 60 ∨ s_fc S ≠ 0
  · rw [o_book, if_pos hz]
    refine CK.start [(0, _)] (plainFor_of_name (by decide)) (Nat.le_of_ble_eq_true rfl) rfl ?_
    refine K_aload_n dX3_book_0 rfl rfl ?_
    refine K_iconst (v := nI 0) dX3_book_1 (by decide) rfl ?_
    refine K_putZ dX3_book_2 fl_X3_61 (by first | rfl | exact sk_rk (by omega) | exact sk_hh (by omega)) rfl rfl rfl (by first | exact bI_01 _ | exact Or.inl rfl | exact Or.inr rfl | assumption) rfl ?_
    refine K_aload_n dX3_book_5 rfl rfl ?_
    refine K_getI dX3_book_6 fl_X3_46 (by first | rfl | exact sk_rk (by omega) | exact sk_hh (by omega)) rfl (by first | assumption | rfl) rfl ?_
    refine K_bipush (v := nI 60) dX3_book_9 (by decide) rfl ?_
    refine K_icmp_geN (tgt := 21) dX3_book_11 (by decide) rfl (by first | omega | fail) (by first | omega | fail) (fun c11 => ?_) (fun c11 => ?_)
    · refine K_iconst (v := (-1)) dX3_book_21 (by decide) rfl ?_
      refine K_iret dX3_book_22 rfl ?_
      exact ⟨rfl, R0, FX.c0 N⟩
    · refine K_aload_n dX3_book_14 rfl rfl ?_
      refine K_cv (ci := 3) (d1 := d - 1) [] dX3_book_15 ml_X3_167 (by decide) rfl rfl rfl (Nat.le_of_ble_eq_true rfl) hcl (by omega) rfl ?_
      refine K_if_eqN (tgt := 23) dX3_book_18 (by decide) rfl (by first | omega | fail) (fun c18 => ?_) (fun c18 => ?_)
      · omega
      · refine K_iconst (v := (-1)) dX3_book_21 (by decide) rfl ?_
        refine K_iret dX3_book_22 rfl ?_
        exact ⟨rfl, R0, FX.c0 N⟩
  · rw [o_book, if_neg hz]
    have fin : ∀ N2, RX (payPl (gC S) (nI 1) (s_n S)) N2 K → (∀ f, f < 10 → N2 3 (s_yr S * 10 + f) = oI (s_pl S f)) → FX N N2 → EK d mX3_book (PRX (nI (cnt (s_go S) (s_n S))) (bkG S) N) 67 [(0, .ref 0), (1, .int (nI (cnt (s_go S) (s_n S)))), (2, .int (nI 10))] [] N2 K := by
      intro N2 R2 B2 F2
      have hyr : s_yr (payPl (gC S) (nI 1) (s_n S)) = s_yr S := payPl_yr _ _ _
      have R3 := (R2.cl.bk (y := s_yr S) hyr (s_pl S))
      have h83 := R3.1.2.1
      have h84 : fillM N2 2 10 (-1) 0 8 = nI (s_yr S) := by rw [← hyr]; exact h83
      have R4 := R3.sc8 (s_yr S + 1) (fun y f hy2 hf => by
        rcases Nat.lt_succ_iff_lt_or_eq.mp hy2 with hy3 | rfl
        · exact R3.2.2.2.2.1 y f (by show y < s_yr (payPl (gC S) (nI 1) (s_n S)); omega) hf
        · rw [fillM_row (by decide), B2 f hf]
          simp [s_bk, gK])
      clear h83
      refine K_aload_n dX3_book_67 rfl rfl ?_
      refine K_c0 (ci := 3) (d1 := d - 1) [] dX3_book_68 ml_X3_176 (by decide) rfl rfl rfl (Nat.le_of_ble_eq_true rfl) c_X3_clearPlan (by omega) rfl ?_
      refine K_aload_n dX3_book_71 rfl rfl ?_
      refine K_dup dX3_book_72 rfl rfl ?_
      refine K_getI dX3_book_73 fl_X3_46 (by first | rfl | exact sk_rk (by omega) | exact sk_hh (by omega)) rfl (by first | assumption | rfl) rfl ?_
      refine K_iconst (v := nI 1) dX3_book_76 (by decide) rfl ?_
      refine K_addN dX3_book_77 rfl ?_
      refine K_putI dX3_book_78 fl_X3_46 (by first | rfl | exact sk_rk (by omega) | exact sk_hh (by omega)) rfl rfl rfl rfl ?_
      refine K_iload_n dX3_book_81 rfl rfl ?_
      refine K_iret dX3_book_82 rfl ?_
      exact ⟨rfl, R4, (F2.fill (by decide)).set (by decide)⟩
    refine CK.start [(0, _)] (plainFor_of_name (by decide)) (Nat.le_of_ble_eq_true rfl) rfl ?_
    refine K_aload_n dX3_book_0 rfl rfl ?_
    refine K_iconst (v := nI 0) dX3_book_1 (by decide) rfl ?_
    refine K_putZ dX3_book_2 fl_X3_61 (by first | rfl | exact sk_rk (by omega) | exact sk_hh (by omega)) rfl rfl rfl (by first | exact bI_01 _ | exact Or.inl rfl | exact Or.inr rfl | assumption) rfl ?_
    refine K_aload_n dX3_book_5 rfl rfl ?_
    refine K_getI dX3_book_6 fl_X3_46 (by first | rfl | exact sk_rk (by omega) | exact sk_hh (by omega)) rfl (by first | assumption | rfl) rfl ?_
    refine K_bipush (v := nI 60) dX3_book_9 (by decide) rfl ?_
    refine K_icmp_geN (tgt := 21) dX3_book_11 (by decide) rfl (by first | omega | fail) (by first | omega | fail) (fun c11 => ?_) (fun c11 => ?_)
    · omega
    · refine K_aload_n dX3_book_14 rfl rfl ?_
      refine K_cv (ci := 3) (d1 := d - 1) [] dX3_book_15 ml_X3_167 (by decide) rfl rfl rfl (Nat.le_of_ble_eq_true rfl) hcl (by omega) rfl ?_
      refine K_if_eqN (tgt := 23) dX3_book_18 (by decide) rfl (by first | omega | fail) (fun c18 => ?_) (fun c18 => ?_)
      · refine K_aload_n dX3_book_23 rfl rfl ?_
        refine K_cv (ci := 3) (d1 := d - 1) [] dX3_book_24 ml_X3_121 (by decide) rfl rfl rfl (Nat.le_of_ble_eq_true rfl) hgo (by omega) rfl ?_
        refine K_istore_n (lv' := [(0, _), (1, _)]) dX3_book_27 (by decide) rfl rfl ?_
        refine K_aload_n dX3_book_28 rfl rfl ?_
        refine K_iconst (v := nI 1) dX3_book_29 (by decide) rfl ?_
        refine K_callV (ci := 3) (d1 := d - 1) [_] dX3_book_30 ml_X3_219 (by decide) rfl rfl rfl (Nat.le_of_ble_eq_true rfl) (c_X3_payPlan (by omega) R0 w0) (by omega) rfl ?_
        rintro r N3 K3 ⟨z1, R3, F3, z2⟩
        subst z1
        subst z2
        refine K_iconst (v := nI 0) dX3_book_33 (by decide) rfl ?_
        refine K_istore_n (lv' := [(0, _), (1, _), (2, _)]) dX3_book_34 (by decide) rfl rfl ?_
        exact l_X3_book (S := payPl (gC S) (nI 1) (s_n S)) (y := s_yr S) (p := s_pl S) (by omega) (payPl_yr _ _ _) (payPl_n _ _ _).2 fin 10 0 _ rfl R3 (fun f hf => absurd hf (Nat.not_lt_zero f)) ((FX.c0 N).trans F3)
      · omega
/-- whether a ring's way from a on meets none below f -/
def lrF (p : Nat → Option Nat) (f : Nat) : Nat → Nat → Bool
  | 0, _ => true
  | k + 1, a => match p a with
    | none => false
    | some b => if b < f then false else lrF p f k b
def s_lr (S : GS) (f : Nat) : Bool := lrF (s_pl S) f (s_rl S f - 1) f
theorem nle_m1 {f : Nat} (h : f < 2 ^ 31) : ¬ nI f ≤ -1 := by
  intro e
  rw [Int32.le_iff_toInt_le, nI_toInt h] at e
  have h2 : (-1 : Int32).toInt = -1 := by decide
  omega
theorem l_X3_isLeastOfRing {d : Nat} {S : GS} {N : Mem} {K : Mej} (R : RX S N K) (w : WF S) {f m : Nat} {r : Bool} (hf : f < 10) (hm : m ≤ 10) : ∀ (k i a : Nat), i + k = m → a < 10 → lrF (s_pl S) f k a = r → EK d mX3_isLeastOfRing (PX (some (.int (bI r))) N K) 11 [(0, .ref 0), (1, .int (nI f)), (2, .int (nI m)), (3, .int (nI a)), (4, .int (nI i))] [] N K
  | 0, i, a, h, ha, e => by
    obtain rfl : i = m := by omega
    have e2 : true = r := e
    refine K_iload dX3_isLeastOfRing_11 rfl rfl ?_
    refine K_iload_n dX3_isLeastOfRing_13 rfl rfl ?_
    refine K_icmp_geN (tgt := 37) dX3_isLeastOfRing_14 (by decide) rfl (by first | omega | fail) (by first | omega | fail) (fun c14 => ?_) (fun c14 => ?_)
    · refine K_iconst (v := nI 1) dX3_isLeastOfRing_37 (by decide) rfl ?_
      refine K_zret dX3_isLeastOfRing_38 rfl (by first | rfl | exact bI_nar _) ?_
      rw [← e2]
      exact ⟨rfl, rfl, rfl⟩
    · omega
  | k + 1, i, a, h, ha, e => by
    have hn := w.1.1
    have hp := R.2.2.2.1 a ha
    unfold lrF at e
    cases hs : s_pl S a with
    | none =>
      rw [hs] at hp e
      have hp2 : N 2 a = -1 := hp
      have e2 : false = r := e
      clear hp
      refine K_iload dX3_isLeastOfRing_11 rfl rfl ?_
      refine K_iload_n dX3_isLeastOfRing_13 rfl rfl ?_
      refine K_icmp_geN (tgt := 37) dX3_isLeastOfRing_14 (by decide) rfl (by first | omega | fail) (by first | omega | fail) (fun c14 => ?_) (fun c14 => ?_)
      · omega
      · refine K_aload_n dX3_isLeastOfRing_17 rfl rfl ?_
        refine K_getR (r := 2) dX3_isLeastOfRing_18 fl_X3_15 rfl rfl rfl rfl ?_
        refine K_iload_n dX3_isLeastOfRing_21 rfl rfl ?_
        refine K_iald dX3_isLeastOfRing_22 (by first | rfl | exact sk_rk (by omega) | exact sk_hh (by omega)) (by first | omega | fail) (by decide) (by first | assumption | rfl) rfl ?_
        refine K_istore_n (lv' := [(0, _), (1, _), (2, _), (3, _), (4, _)]) dX3_isLeastOfRing_23 (by decide) rfl rfl ?_
        refine K_iload_n dX3_isLeastOfRing_24 rfl rfl ?_
        refine K_iload_n dX3_isLeastOfRing_25 rfl rfl ?_
        refine K_icmp_ge (tgt := 31) dX3_isLeastOfRing_26 (by decide) rfl (fun c26 => ?_) (fun c26 => ?_)
        · exact absurd c26 (nle_m1 (by omega))
        · refine K_iconst (v := nI 0) dX3_isLeastOfRing_29 (by decide) rfl ?_
          refine K_zret dX3_isLeastOfRing_30 rfl (by first | rfl | exact bI_nar _) ?_
          rw [← e2]
          exact ⟨rfl, rfl, rfl⟩
    | some b =>
      rw [hs] at hp e
      have hb := (w.2.2.2.2.1 a b ha hs).2.1
      have hp2 : N 2 a = nI b := hp
      have e2 : (if b < f then false else lrF (s_pl S) f k b) = r := e
      clear hp
      have ih := l_X3_isLeastOfRing (d := d) (r := r) R w hf hm k (i + 1) b (by omega) (by omega)
      refine K_iload dX3_isLeastOfRing_11 rfl rfl ?_
      refine K_iload_n dX3_isLeastOfRing_13 rfl rfl ?_
      refine K_icmp_geN (tgt := 37) dX3_isLeastOfRing_14 (by decide) rfl (by first | omega | fail) (by first | omega | fail) (fun c14 => ?_) (fun c14 => ?_)
      · omega
      · refine K_aload_n dX3_isLeastOfRing_17 rfl rfl ?_
        refine K_getR (r := 2) dX3_isLeastOfRing_18 fl_X3_15 rfl rfl rfl rfl ?_
        refine K_iload_n dX3_isLeastOfRing_21 rfl rfl ?_
        refine K_iald dX3_isLeastOfRing_22 (by first | rfl | exact sk_rk (by omega) | exact sk_hh (by omega)) (by first | omega | fail) (by decide) (by first | assumption | rfl) rfl ?_
        refine K_istore_n (lv' := [(0, _), (1, _), (2, _), (3, _), (4, _)]) dX3_isLeastOfRing_23 (by decide) rfl rfl ?_
        refine K_iload_n dX3_isLeastOfRing_24 rfl rfl ?_
        refine K_iload_n dX3_isLeastOfRing_25 rfl rfl ?_
        refine K_icmp_geN (tgt := 31) dX3_isLeastOfRing_26 (by decide) rfl (by first | omega | fail) (by first | omega | fail) (fun c26 => ?_) (fun c26 => ?_)
        · first | refine K_incN (lv' := [(0, _), (1, _), (2, _), (3, _), (4, _)]) dX3_isLeastOfRing_31 rfl (by decide) rfl rfl ?_ | refine K_iinc (lv' := [(0, _), (1, _), (2, _), (3, _), (4, _)]) dX3_isLeastOfRing_31 rfl rfl (by decide) rfl rfl ?_
          refine K_goto (tgt := 11) dX3_isLeastOfRing_34 (by decide) ?_
          rw [if_neg (by omega)] at e2
          exact ih e2
        · refine K_iconst (v := nI 0) dX3_isLeastOfRing_29 (by decide) rfl ?_
          refine K_zret dX3_isLeastOfRing_30 rfl (by first | rfl | exact bI_nar _) ?_
          rw [if_pos c26] at e2
          rw [← e2]
          exact ⟨rfl, rfl, rfl⟩
set_option maxRecDepth 100000 in
theorem c_X3_isLeastOfRing {d : Nat} (hd : 1 ≤ d) {S : GS} {N : Mem} {K : Mej} (R : RX S N K) (w : WF S) {f : Nat} (hf : f < 10) : CK d mX3_isLeastOfRing [.ref 0, .int (nI f)] N K (PX (some (.int (bI (s_lr S f)))) N K) := by
  have h10 := s_rl_le S f
  have h1 : 1 ≤ s_rl S f := by unfold s_rl; omega
  refine CK.start [(0, _), (1, _)] (plainFor_of_name (by decide)) (Nat.le_of_ble_eq_true rfl) rfl ?_
  refine K_aload_n dX3_isLeastOfRing_0 rfl rfl ?_
  refine K_iload_n dX3_isLeastOfRing_1 rfl rfl ?_
  refine K_cv (ci := 3) (d1 := d - 1) [_] dX3_isLeastOfRing_2 ml_X3_205 (by decide) rfl rfl rfl (Nat.le_of_ble_eq_true rfl) (c_X3_ringLength R w hf) (by omega) rfl ?_
  refine K_istore_n (lv' := [(0, _), (1, _), (2, _)]) dX3_isLeastOfRing_5 (by decide) rfl rfl ?_
  refine K_iload_n dX3_isLeastOfRing_6 rfl rfl ?_
  refine K_istore_n (lv' := [(0, _), (1, _), (2, _), (3, _)]) dX3_isLeastOfRing_7 (by decide) rfl rfl ?_
  refine K_iconst (v := nI 1) dX3_isLeastOfRing_8 (by decide) rfl ?_
  refine K_istore (lv' := [(0, _), (1, _), (2, _), (3, _), (4, _)]) dX3_isLeastOfRing_9 (by decide) rfl rfl ?_
  exact l_X3_isLeastOfRing R w hf h10 (s_rl S f - 1) 1 f (by omega) hf rfl
def s_cr (S : GS) (f : Nat) : Bool := s_go S f && s_lr S f
theorem l_X3_countRings {d : Nat} (hd : 2 ≤ d) {S : GS} {N : Mem} {K : Mej} (R : RX S N K) (w : WF S) : ∀ k i : Nat, i + k = s_n S → EK d mX3_countRings (PX (some (.int (nI (cnt (s_cr S) (s_n S))))) N K) 13 [(0, .ref 0), (1, .int (nI (cnt (s_cr S) i))), (2, .int (nI i))] [] N K
  | 0, i, h => by
    obtain rfl : i = s_n S := by omega
    have hn := w.1.1
    have h0 := R.1.1
    refine K_iload_n dX3_countRings_13 rfl rfl ?_
    refine K_aload_n dX3_countRings_14 rfl rfl ?_
    refine K_getI dX3_countRings_15 fl_X3_42 (by first | rfl | exact sk_rk (by omega) | exact sk_hh (by omega)) rfl (by first | assumption | rfl) rfl ?_
    refine K_icmp_geN (tgt := 48) dX3_countRings_18 (by decide) rfl (by first | omega | fail) (by first | omega | fail) (fun c18 => ?_) (fun c18 => ?_)
    · refine K_iload_n dX3_countRings_48 rfl rfl ?_
      refine K_iret dX3_countRings_49 rfl ?_
      exact ⟨rfl, rfl, rfl⟩
    · omega
  | k + 1, i, h => by
    have ih := l_X3_countRings hd R w k (i + 1) (by omega)
    have hn := w.1.1
    have h0 := R.1.1
    have hp := R.2.2.2.1 i (by omega)
    have hob := w.plb (f := i) (by omega)
    refine K_iload_n dX3_countRings_13 rfl rfl ?_
    refine K_aload_n dX3_countRings_14 rfl rfl ?_
    refine K_getI dX3_countRings_15 fl_X3_42 (by first | rfl | exact sk_rk (by omega) | exact sk_hh (by omega)) rfl (by first | assumption | rfl) rfl ?_
    refine K_icmp_geN (tgt := 48) dX3_countRings_18 (by decide) rfl (by first | omega | fail) (by first | omega | fail) (fun c18 => ?_) (fun c18 => ?_)
    · omega
    · refine K_aload_n dX3_countRings_21 rfl rfl ?_
      refine K_getR (r := 2) dX3_countRings_22 fl_X3_15 rfl rfl rfl rfl ?_
      refine K_iload_n dX3_countRings_25 rfl rfl ?_
      refine K_iald dX3_countRings_26 (by first | rfl | exact sk_rk (by omega) | exact sk_hh (by omega)) (by first | omega | fail) (by decide) (by first | assumption | rfl) rfl ?_
      refine K_iconst (v := (-1)) dX3_countRings_27 (by decide) rfl ?_
      refine K_icmp_eqO (tgt := 42) dX3_countRings_28 (by decide) rfl (by first | assumption | fail) (fun c28 => ?_) (fun c28 => ?_)
      · first | refine K_incN (lv' := [(0, _), (1, _), (2, _)]) dX3_countRings_42 rfl (by decide) rfl rfl ?_ | refine K_iinc (lv' := [(0, _), (1, _), (2, _)]) dX3_countRings_42 rfl rfl (by decide) rfl rfl ?_
        refine K_goto (tgt := 13) dX3_countRings_45 (by decide) ?_
        first | (rw [cnt_f (show s_cr S i = false by simp only [s_cr, go_f c28]; rfl)] at ih; exact ih) | (rw [cnt_f (show s_cr S i = false by simp only [s_cr, c36]; simp)] at ih; exact ih) | (rw [cnt_t (show s_cr S i = true by simp only [s_cr, go_t c28, c36]; rfl)] at ih; exact ih)
      · refine K_aload_n dX3_countRings_31 rfl rfl ?_
        refine K_iload_n dX3_countRings_32 rfl rfl ?_
        refine K_cv (ci := 3) (d1 := d - 1) [_] dX3_countRings_33 ml_X3_247 (by decide) rfl rfl rfl (Nat.le_of_ble_eq_true rfl) (c_X3_isLeastOfRing (by omega) R w (by omega)) (by omega) rfl ?_
        refine K_if_eqB (tgt := 42) dX3_countRings_36 (by decide) rfl (fun c36 => ?_) (fun c36 => ?_)
        · first | refine K_incN (lv' := [(0, _), (1, _), (2, _)]) dX3_countRings_42 rfl (by decide) rfl rfl ?_ | refine K_iinc (lv' := [(0, _), (1, _), (2, _)]) dX3_countRings_42 rfl rfl (by decide) rfl rfl ?_
          refine K_goto (tgt := 13) dX3_countRings_45 (by decide) ?_
          first | (rw [cnt_f (show s_cr S i = false by simp only [s_cr, go_f c28]; rfl)] at ih; exact ih) | (rw [cnt_f (show s_cr S i = false by simp only [s_cr, c36]; simp)] at ih; exact ih) | (rw [cnt_t (show s_cr S i = true by simp only [s_cr, go_t c28, c36]; rfl)] at ih; exact ih)
        · first | refine K_incN (lv' := [(0, _), (1, _), (2, _)]) dX3_countRings_39 rfl (by decide) rfl rfl ?_ | refine K_iinc (lv' := [(0, _), (1, _), (2, _)]) dX3_countRings_39 rfl rfl (by decide) rfl rfl ?_
          first | refine K_incN (lv' := [(0, _), (1, _), (2, _)]) dX3_countRings_42 rfl (by decide) rfl rfl ?_ | refine K_iinc (lv' := [(0, _), (1, _), (2, _)]) dX3_countRings_42 rfl rfl (by decide) rfl rfl ?_
          refine K_goto (tgt := 13) dX3_countRings_45 (by decide) ?_
          first | (rw [cnt_f (show s_cr S i = false by simp only [s_cr, go_f c28]; rfl)] at ih; exact ih) | (rw [cnt_f (show s_cr S i = false by simp only [s_cr, c36]; simp)] at ih; exact ih) | (rw [cnt_t (show s_cr S i = true by simp only [s_cr, go_t c28, c36]; rfl)] at ih; exact ih)
set_option maxRecDepth 100000 in
theorem c_X3_countRings {d : Nat} (hd : 5 ≤ d) {S : GS} {N : Mem} {K : Mej} (R : RX S N K) (w : WF S) : CK d mX3_countRings [.ref 0] N K (PX (some (.int (nI (if s_fc S = 0 then cnt (s_cr S) (s_n S) else 0)))) N K) := by
  have hfl := s_fc_lt w
  refine CK.start [(0, _)] (plainFor_of_name (by decide)) (Nat.le_of_ble_eq_true rfl) rfl ?_
  refine K_aload_n dX3_countRings_0 rfl rfl ?_
  refine K_cv (ci := 3) (d1 := d - 1) [] dX3_countRings_1 ml_X3_167 (by decide) rfl rfl rfl (Nat.le_of_ble_eq_true rfl) (c_X3_faultOfClosing (by omega) R w) (by omega) rfl ?_
  refine K_if_eqN (tgt := 9) dX3_countRings_4 (by decide) rfl (by first | omega | fail) (fun c4 => ?_) (fun c4 => ?_)
  · refine K_iconst (v := nI 0) dX3_countRings_9 (by decide) rfl ?_
    refine K_istore_n (lv' := [(0, _), (1, _)]) dX3_countRings_10 (by decide) rfl rfl ?_
    refine K_iconst (v := nI 0) dX3_countRings_11 (by decide) rfl ?_
    refine K_istore_n (lv' := [(0, _), (1, _), (2, _)]) dX3_countRings_12 (by decide) rfl rfl ?_
    rw [if_pos c4]
    exact l_X3_countRings (by omega) R w (s_n S) 0 (by omega)
  · refine K_iconst (v := nI 0) dX3_countRings_7 (by decide) rfl ?_
    refine K_iret dX3_countRings_8 rfl ?_
    rw [if_neg c4]
    exact ⟨rfl, rfl, rfl⟩
