/-! The calls that change little: what each answers and does to the ghost state (o_..), and that the class does so -/
abbrev PRX (r : Int32) (S1 : GS) (N : Mem) : PK := fun r1 N1 K1 => r1 = some (.int r) ∧ RX S1 N1 K1 ∧ FX N N1
/-- the chain stands no more -/
def gC (S : GS) : GS := gB S 3 0 0 false
theorem RX.c0 {S : GS} {N : Mem} {K : Mej} (R : RX S N K) : RX (gC S) (sM N 0 13 (nI 0)) K := R.ch false
theorem FX.c0 (N : Mem) : FX N (sM N 0 13 (nI 0)) := (FX.rf N).set (by decide)
theorem WF.c0 {S : GS} (w : WF S) : WF (gC S) := by
  obtain ⟨w1, w2, w3, w4, w5, w6, w7⟩ := w
  refine ⟨w1, w2, fun f h1 h2 => ?_, w4, w5, w6, w7⟩
  obtain ⟨a1, a2, a3, a4, a5, a6, a7, a8, a9⟩ := w3 f h1 h2
  exact ⟨a1, a2, a3, a4, a5, by simpa [gC, s_pr, gB] using a6, a7, a8, fun g hg => by simpa [gC, s_br, gB] using a9 g hg⟩
def o_in (S : GS) (x : Int32) (b : Bool) : Int32 × GS := if isF (s_n S) x = true then (1, gB (gC S) 1 x.toNatClampNeg 0 b) else (0, gC S)
set_option maxRecDepth 100000 in
theorem c_X3_in {d : Nat} (hd : 1 ≤ d) {S : GS} {N : Mem} {K : Mej} (R : RX S N K) (w : WF S) {x : Int32} {b : Bool} : CK d mX3_in [.ref 0, .int x, .int (bI b)] N K (PRX (o_in S x b).1 (o_in S x b).2 N) := by
  have hn := w.1.1
  have R0 := R.c0
  have h7 : sM N 0 13 (nI 0) 0 7 = nI (s_n S) := R0.1.1
  cases hx : isF (s_n S) x with
  | false =>
    refine CK.start [(0, _), (1, _), (2, _)] (plainFor_of_name (by decide)) (Nat.le_of_ble_eq_true rfl) rfl ?_
    refine K_aload_n dX3_in_0 rfl rfl ?_
    refine K_iconst (v := nI 0) dX3_in_1 (by decide) rfl ?_
    refine K_putZ dX3_in_2 fl_X3_61 (by first | rfl | exact sk_rk (by omega) | exact sk_hh (by omega)) rfl rfl rfl (by first | exact bI_01 _ | exact Or.inl rfl | exact Or.inr rfl | assumption) rfl ?_
    refine K_aload_n dX3_in_5 rfl rfl ?_
    refine K_iload_n dX3_in_6 rfl rfl ?_
    refine K_cv (ci := 3) (d1 := d - 1) [_] dX3_in_7 ml_X3_74 (by decide) rfl rfl rfl (Nat.le_of_ble_eq_true rfl) (c_X3_isFamily h7) (by omega) rfl ?_
    refine K_if_neB (tgt := 15) dX3_in_10 (by decide) rfl (fun c10 => ?_) (fun c10 => ?_)
    · rw [hx] at c10; cases c10
    · refine K_iconst (v := nI 0) dX3_in_13 (by decide) rfl ?_
      refine K_zret dX3_in_14 rfl (by first | rfl | exact bI_nar _) ?_
      simp only [o_in, hx]
      exact ⟨rfl, R0, FX.c0 N⟩
  | true =>
    obtain ⟨f, hf, rfl⟩ := (isF_iff hn).mp hx
    have hc : (nI f).toNatClampNeg = f := nI_clamp (by omega)
    have R1 := R0.h6 (f := f) (by omega) b
    refine CK.start [(0, _), (1, _), (2, _)] (plainFor_of_name (by decide)) (Nat.le_of_ble_eq_true rfl) rfl ?_
    refine K_aload_n dX3_in_0 rfl rfl ?_
    refine K_iconst (v := nI 0) dX3_in_1 (by decide) rfl ?_
    refine K_putZ dX3_in_2 fl_X3_61 (by first | rfl | exact sk_rk (by omega) | exact sk_hh (by omega)) rfl rfl rfl (by first | exact bI_01 _ | exact Or.inl rfl | exact Or.inr rfl | assumption) rfl ?_
    refine K_aload_n dX3_in_5 rfl rfl ?_
    refine K_iload_n dX3_in_6 rfl rfl ?_
    refine K_cv (ci := 3) (d1 := d - 1) [_] dX3_in_7 ml_X3_74 (by decide) rfl rfl rfl (Nat.le_of_ble_eq_true rfl) (c_X3_isFamily h7) (by omega) rfl ?_
    refine K_if_neB (tgt := 15) dX3_in_10 (by decide) rfl (fun c10 => ?_) (fun c10 => ?_)
    · refine K_aload_n dX3_in_15 rfl rfl ?_
      refine K_getR (r := 1) dX3_in_16 fl_X3_11 rfl rfl rfl rfl ?_
      refine K_iload_n dX3_in_19 rfl rfl ?_
      refine K_hh dX3_in_20 (by first | omega | fail) rfl ?_
      refine K_iload_n dX3_in_21 rfl rfl ?_
      refine K_putZ dX3_in_22 fl_X3_114 (by first | rfl | exact sk_rk (by omega) | exact sk_hh (by omega)) rfl rfl rfl (by first | exact bI_01 _ | exact Or.inl rfl | exact Or.inr rfl | assumption) rfl ?_
      refine K_iconst (v := nI 1) dX3_in_25 (by decide) rfl ?_
      refine K_zret dX3_in_26 rfl (by first | rfl | exact bI_nar _) ?_
      simp only [o_in, hx, if_true, hc]
      exact ⟨rfl, R1, (FX.c0 N).set (by omega)⟩
    · rw [hx] at c10; cases c10
def o_put (S : GS) (x y : Int32) : Int32 × GS := if isF (s_n S) x = true ∧ (y = -1 ∨ two (s_n S) x y = true) then (1, gP (gC S) 0 x.toNatClampNeg 0 (if y = -1 then none else some y.toNatClampNeg)) else (0, gC S)
set_option maxRecDepth 100000 in
theorem c_X3_put {d : Nat} (hd : 2 ≤ d) {S : GS} {N : Mem} {K : Mej} (R : RX S N K) (w : WF S) {x y : Int32} : CK d mX3_put [.ref 0, .int x, .int y] N K (PRX (o_put S x y).1 (o_put S x y).2 N) := by
  have hn := w.1.1
  have R0 := R.c0
  have h7 : sM N 0 13 (nI 0) 0 7 = nI (s_n S) := R0.1.1
  cases hx : isF (s_n S) x with
  | false =>
    refine CK.start [(0, _), (1, _), (2, _)] (plainFor_of_name (by decide)) (Nat.le_of_ble_eq_true rfl) rfl ?_
    refine K_aload_n dX3_put_0 rfl rfl ?_
    refine K_iconst (v := nI 0) dX3_put_1 (by decide) rfl ?_
    refine K_putZ dX3_put_2 fl_X3_61 (by first | rfl | exact sk_rk (by omega) | exact sk_hh (by omega)) rfl rfl rfl (by first | exact bI_01 _ | exact Or.inl rfl | exact Or.inr rfl | assumption) rfl ?_
    refine K_aload_n dX3_put_5 rfl rfl ?_
    refine K_iload_n dX3_put_6 rfl rfl ?_
    refine K_cv (ci := 3) (d1 := d - 1) [_] dX3_put_7 ml_X3_74 (by decide) rfl rfl rfl (Nat.le_of_ble_eq_true rfl) (c_X3_isFamily h7) (by omega) rfl ?_
    refine K_if_eqB (tgt := 27) dX3_put_10 (by decide) rfl (fun c10 => ?_) (fun c10 => ?_)
    · refine K_iconst (v := nI 0) dX3_put_27 (by decide) rfl ?_
      refine K_zret dX3_put_28 rfl (by first | rfl | exact bI_nar _) ?_
      rw [o_put, if_neg (fun h => by rw [hx] at h; cases h.1)]
      exact ⟨rfl, R0, FX.c0 N⟩
    · rw [hx] at c10; cases c10
  | true =>
    obtain ⟨f, hf, rfl⟩ := (isF_iff hn).mp hx
    have hc : (nI f).toNatClampNeg = f := nI_clamp (by omega)
    have R1 := R0.pl (f := f) none
    refine CK.start [(0, _), (1, _), (2, _)] (plainFor_of_name (by decide)) (Nat.le_of_ble_eq_true rfl) rfl ?_
    refine K_aload_n dX3_put_0 rfl rfl ?_
    refine K_iconst (v := nI 0) dX3_put_1 (by decide) rfl ?_
    refine K_putZ dX3_put_2 fl_X3_61 (by first | rfl | exact sk_rk (by omega) | exact sk_hh (by omega)) rfl rfl rfl (by first | exact bI_01 _ | exact Or.inl rfl | exact Or.inr rfl | assumption) rfl ?_
    refine K_aload_n dX3_put_5 rfl rfl ?_
    refine K_iload_n dX3_put_6 rfl rfl ?_
    refine K_cv (ci := 3) (d1 := d - 1) [_] dX3_put_7 ml_X3_74 (by decide) rfl rfl rfl (Nat.le_of_ble_eq_true rfl) (c_X3_isFamily h7) (by omega) rfl ?_
    refine K_if_eqB (tgt := 27) dX3_put_10 (by decide) rfl (fun c10 => ?_) (fun c10 => ?_)
    · rw [hx] at c10; cases c10
    · refine K_iload_n dX3_put_13 rfl rfl ?_
      refine K_iconst (v := (-1)) dX3_put_14 (by decide) rfl ?_
      refine K_icmp_eq (tgt := 29) dX3_put_15 (by decide) rfl (fun c15 => ?_) (fun c15 => ?_)
      · refine K_aload_n dX3_put_29 rfl rfl ?_
        refine K_getR (r := 2) dX3_put_30 fl_X3_15 rfl rfl rfl rfl ?_
        refine K_iload_n dX3_put_33 rfl rfl ?_
        refine K_iload_n dX3_put_34 rfl rfl ?_
        refine K_iast dX3_put_35 (by first | rfl | exact sk_rk (by omega) | exact sk_hh (by omega)) (by first | omega | fail) (by decide) rfl ?_
        refine K_iconst (v := nI 1) dX3_put_36 (by decide) rfl ?_
        refine K_zret dX3_put_37 rfl (by first | rfl | exact bI_nar _) ?_
        rw [o_put]
        first | (rw [if_pos ⟨hx, Or.inl c15⟩, hc, if_pos c15]; subst c15; exact ⟨rfl, R1, (FX.c0 N).set (by decide)⟩) | (rw [if_pos ⟨hx, Or.inr c24⟩, hc, if_neg c15]; obtain ⟨f2, g, z1, z2, z3, z4, rfl⟩ := (two_iff hn).mp c24; rw [nI_clamp (by omega)]; exact ⟨rfl, R0.pl (f := f) (some g), (FX.c0 N).set (by decide)⟩)
      · refine K_aload_n dX3_put_18 rfl rfl ?_
        refine K_iload_n dX3_put_19 rfl rfl ?_
        refine K_iload_n dX3_put_20 rfl rfl ?_
        refine K_cv (ci := 3) (d1 := d - 1) [_, _] dX3_put_21 ml_X3_107 (by decide) rfl rfl rfl (Nat.le_of_ble_eq_true rfl) (c_X3_areTwo (by omega) h7) (by omega) rfl ?_
        refine K_if_neB (tgt := 29) dX3_put_24 (by decide) rfl (fun c24 => ?_) (fun c24 => ?_)
        · refine K_aload_n dX3_put_29 rfl rfl ?_
          refine K_getR (r := 2) dX3_put_30 fl_X3_15 rfl rfl rfl rfl ?_
          refine K_iload_n dX3_put_33 rfl rfl ?_
          refine K_iload_n dX3_put_34 rfl rfl ?_
          refine K_iast dX3_put_35 (by first | rfl | exact sk_rk (by omega) | exact sk_hh (by omega)) (by first | omega | fail) (by decide) rfl ?_
          refine K_iconst (v := nI 1) dX3_put_36 (by decide) rfl ?_
          refine K_zret dX3_put_37 rfl (by first | rfl | exact bI_nar _) ?_
          rw [o_put]
          first | (rw [if_pos ⟨hx, Or.inl c15⟩, hc, if_pos c15]; subst c15; exact ⟨rfl, R1, (FX.c0 N).set (by decide)⟩) | (rw [if_pos ⟨hx, Or.inr c24⟩, hc, if_neg c15]; obtain ⟨f2, g, z1, z2, z3, z4, rfl⟩ := (two_iff hn).mp c24; rw [nI_clamp (by omega)]; exact ⟨rfl, R0.pl (f := f) (some g), (FX.c0 N).set (by decide)⟩)
        · refine K_iconst (v := nI 0) dX3_put_27 (by decide) rfl ?_
          refine K_zret dX3_put_28 rfl (by first | rfl | exact bI_nar _) ?_
          rw [o_put, if_neg (fun h => by rcases h.2 with e | e; exact c15 e; rw [c24] at e; cases e)]
          exact ⟨rfl, R0, FX.c0 N⟩
def o_set (S : GS) (x v : Int32) : Int32 × GS :=
  if x = 0 ∧ ¬ v < nI 1 ∧ ¬ nI 8 < v then (nI (s_st S), gN (gC S) 0 1 v.toNatClampNeg)
  else if x = nI 1 ∧ ¬ v < nI 2 ∧ ¬ nI 10 < v then (nI (s_mo S), gN (gC S) 0 2 v.toNatClampNeg)
  else if x = nI 2 ∧ ¬ v < 0 ∧ ¬ nI 500 < v then (nI (s_li S), gN (gC S) 0 3 v.toNatClampNeg)
  else (-1, gC S)
theorem nI_back {v : Int32} (h : ¬ v < 0) : nI v.toNatClampNeg = v := by
  obtain ⟨j, hj, rfl⟩ := nI_of h
  rw [nI_clamp hj]
theorem nlt0 {v : Int32} {k : Nat} (hk : k < 2 ^ 31) (h : ¬ v < nI k) : ¬ v < 0 := by
  intro e
  apply h
  have h2 : (0 : Int32) ≤ nI k := nI_pos' hk
  rw [Int32.lt_iff_toInt_lt] at e ⊢
  rw [Int32.le_iff_toInt_le] at h2
  omega
set_option maxRecDepth 100000 in
theorem c_X3_set {d : Nat} {S : GS} {N : Mem} {K : Mej} (R : RX S N K) (w : WF S) {x v : Int32} : CK d mX3_set [.ref 0, .int x, .int v] N K (PRX (o_set S x v).1 (o_set S x v).2 N) := by
  have R0 := R.c0
  have h10 : sM N 0 13 (nI 0) 0 10 = nI (s_st S) := R0.1.2.2.2.1
  have h11 : sM N 0 13 (nI 0) 0 11 = nI (s_mo S) := R0.1.2.2.2.2.1
  have h12 : sM N 0 13 (nI 0) 0 12 = nI (s_li S) := R0.1.2.2.2.2.2.1
  have q1 : ∀ {u : Int32}, ¬ u < nI 1 → nI u.toNatClampNeg = u := fun h => nI_back (nlt0 (by decide) h)
  have q2 : ∀ {u : Int32}, ¬ u < nI 2 → nI u.toNatClampNeg = u := fun h => nI_back (nlt0 (by decide) h)
  have r1 := R0.sc10 v.toNatClampNeg
  have r2 := R0.sc11 v.toNatClampNeg
  have r3 := R0.sc12 v.toNatClampNeg
  refine CK.start [(0, _), (1, _), (2, _)] (plainFor_of_name (by decide)) (Nat.le_of_ble_eq_true rfl) rfl ?_
  refine K_aload_n dX3_set_0 rfl rfl ?_
  refine K_iconst (v := nI 0) dX3_set_1 (by decide) rfl ?_
  refine K_putZ dX3_set_2 fl_X3_61 (by first | rfl | exact sk_rk (by omega) | exact sk_hh (by omega)) rfl rfl rfl (by first | exact bI_01 _ | exact Or.inl rfl | exact Or.inr rfl | assumption) rfl ?_
  refine K_iconst (v := (-1)) dX3_set_5 (by decide) rfl ?_
  refine K_istore_n (lv' := [(0, _), (1, _), (2, _), (3, _)]) dX3_set_6 (by decide) rfl rfl ?_
  refine K_iload_n dX3_set_7 rfl rfl ?_
  refine K_if_ne (tgt := 35) dX3_set_8 (by decide) rfl (fun c8 => ?_) (fun c8 => ?_)
  · refine K_iload_n dX3_set_35 rfl rfl ?_
    refine K_iconst (v := nI 1) dX3_set_36 (by decide) rfl ?_
    refine K_icmp_ne (tgt := 64) dX3_set_37 (by decide) rfl (fun c37 => ?_) (fun c37 => ?_)
    · refine K_iload_n dX3_set_64 rfl rfl ?_
      refine K_iconst (v := nI 2) dX3_set_65 (by decide) rfl ?_
      refine K_icmp_ne (tgt := 90) dX3_set_66 (by decide) rfl (fun c66 => ?_) (fun c66 => ?_)
      · refine K_iload_n dX3_set_90 rfl rfl ?_
        refine K_iret dX3_set_91 rfl ?_
        simp only [o_set]
        first | (rw [if_pos ⟨c8, c13, c19⟩]; rw [q1 c13] at r1; exact ⟨rfl, r1, (FX.c0 N).set (by decide)⟩) | (rw [if_neg (fun h => by first | exact c8 h.1 | exact h.2.1 c13 | exact h.2.2 c19), if_pos ⟨c37, c42, c48⟩]; rw [q2 c42] at r2; exact ⟨rfl, r2, (FX.c0 N).set (by decide)⟩) | (rw [if_neg (fun h => by first | exact c8 h.1 | exact h.2.1 c13 | exact h.2.2 c19), if_neg (fun h => by first | exact c37 h.1 | exact h.2.1 c42 | exact h.2.2 c48), if_pos ⟨c66, c70, c77⟩]; rw [nI_back c70] at r3; exact ⟨rfl, r3, (FX.c0 N).set (by decide)⟩) | (rw [if_neg (fun h => by first | exact c8 h.1 | exact h.2.1 c13 | exact h.2.2 c19), if_neg (fun h => by first | exact c37 h.1 | exact h.2.1 c42 | exact h.2.2 c48), if_neg (fun h => by first | exact c66 h.1 | exact h.2.1 c70 | exact h.2.2 c77)]; exact ⟨rfl, R0, FX.c0 N⟩)
      · refine K_iload_n dX3_set_69 rfl rfl ?_
        refine K_if_lt (tgt := 90) dX3_set_70 (by decide) rfl (fun c70 => ?_) (fun c70 => ?_)
        · refine K_iload_n dX3_set_90 rfl rfl ?_
          refine K_iret dX3_set_91 rfl ?_
          simp only [o_set]
          first | (rw [if_pos ⟨c8, c13, c19⟩]; rw [q1 c13] at r1; exact ⟨rfl, r1, (FX.c0 N).set (by decide)⟩) | (rw [if_neg (fun h => by first | exact c8 h.1 | exact h.2.1 c13 | exact h.2.2 c19), if_pos ⟨c37, c42, c48⟩]; rw [q2 c42] at r2; exact ⟨rfl, r2, (FX.c0 N).set (by decide)⟩) | (rw [if_neg (fun h => by first | exact c8 h.1 | exact h.2.1 c13 | exact h.2.2 c19), if_neg (fun h => by first | exact c37 h.1 | exact h.2.1 c42 | exact h.2.2 c48), if_pos ⟨c66, c70, c77⟩]; rw [nI_back c70] at r3; exact ⟨rfl, r3, (FX.c0 N).set (by decide)⟩) | (rw [if_neg (fun h => by first | exact c8 h.1 | exact h.2.1 c13 | exact h.2.2 c19), if_neg (fun h => by first | exact c37 h.1 | exact h.2.1 c42 | exact h.2.2 c48), if_neg (fun h => by first | exact c66 h.1 | exact h.2.1 c70 | exact h.2.2 c77)]; exact ⟨rfl, R0, FX.c0 N⟩)
        · refine K_iload_n dX3_set_73 rfl rfl ?_
          refine K_sipush (v := nI 500) dX3_set_74 (by decide) rfl ?_
          refine K_icmp_gt (tgt := 90) dX3_set_77 (by decide) rfl (fun c77 => ?_) (fun c77 => ?_)
          · refine K_iload_n dX3_set_90 rfl rfl ?_
            refine K_iret dX3_set_91 rfl ?_
            simp only [o_set]
            first | (rw [if_pos ⟨c8, c13, c19⟩]; rw [q1 c13] at r1; exact ⟨rfl, r1, (FX.c0 N).set (by decide)⟩) | (rw [if_neg (fun h => by first | exact c8 h.1 | exact h.2.1 c13 | exact h.2.2 c19), if_pos ⟨c37, c42, c48⟩]; rw [q2 c42] at r2; exact ⟨rfl, r2, (FX.c0 N).set (by decide)⟩) | (rw [if_neg (fun h => by first | exact c8 h.1 | exact h.2.1 c13 | exact h.2.2 c19), if_neg (fun h => by first | exact c37 h.1 | exact h.2.1 c42 | exact h.2.2 c48), if_pos ⟨c66, c70, c77⟩]; rw [nI_back c70] at r3; exact ⟨rfl, r3, (FX.c0 N).set (by decide)⟩) | (rw [if_neg (fun h => by first | exact c8 h.1 | exact h.2.1 c13 | exact h.2.2 c19), if_neg (fun h => by first | exact c37 h.1 | exact h.2.1 c42 | exact h.2.2 c48), if_neg (fun h => by first | exact c66 h.1 | exact h.2.1 c70 | exact h.2.2 c77)]; exact ⟨rfl, R0, FX.c0 N⟩)
          · refine K_aload_n dX3_set_80 rfl rfl ?_
            refine K_getI dX3_set_81 fl_X3_58 (by first | rfl | exact sk_rk (by omega) | exact sk_hh (by omega)) rfl (by first | assumption | rfl) rfl ?_
            refine K_istore_n (lv' := [(0, _), (1, _), (2, _), (3, _)]) dX3_set_84 (by decide) rfl rfl ?_
            refine K_aload_n dX3_set_85 rfl rfl ?_
            refine K_iload_n dX3_set_86 rfl rfl ?_
            refine K_putI dX3_set_87 fl_X3_58 (by first | rfl | exact sk_rk (by omega) | exact sk_hh (by omega)) rfl rfl rfl rfl ?_
            refine K_iload_n dX3_set_90 rfl rfl ?_
            refine K_iret dX3_set_91 rfl ?_
            simp only [o_set]
            first | (rw [if_pos ⟨c8, c13, c19⟩]; rw [q1 c13] at r1; exact ⟨rfl, r1, (FX.c0 N).set (by decide)⟩) | (rw [if_neg (fun h => by first | exact c8 h.1 | exact h.2.1 c13 | exact h.2.2 c19), if_pos ⟨c37, c42, c48⟩]; rw [q2 c42] at r2; exact ⟨rfl, r2, (FX.c0 N).set (by decide)⟩) | (rw [if_neg (fun h => by first | exact c8 h.1 | exact h.2.1 c13 | exact h.2.2 c19), if_neg (fun h => by first | exact c37 h.1 | exact h.2.1 c42 | exact h.2.2 c48), if_pos ⟨c66, c70, c77⟩]; rw [nI_back c70] at r3; exact ⟨rfl, r3, (FX.c0 N).set (by decide)⟩) | (rw [if_neg (fun h => by first | exact c8 h.1 | exact h.2.1 c13 | exact h.2.2 c19), if_neg (fun h => by first | exact c37 h.1 | exact h.2.1 c42 | exact h.2.2 c48), if_neg (fun h => by first | exact c66 h.1 | exact h.2.1 c70 | exact h.2.2 c77)]; exact ⟨rfl, R0, FX.c0 N⟩)
    · refine K_iload_n dX3_set_40 rfl rfl ?_
      refine K_iconst (v := nI 2) dX3_set_41 (by decide) rfl ?_
      refine K_icmp_lt (tgt := 64) dX3_set_42 (by decide) rfl (fun c42 => ?_) (fun c42 => ?_)
      · refine K_iload_n dX3_set_64 rfl rfl ?_
        refine K_iconst (v := nI 2) dX3_set_65 (by decide) rfl ?_
        refine K_icmp_ne (tgt := 90) dX3_set_66 (by decide) rfl (fun c66 => ?_) (fun c66 => ?_)
        · refine K_iload_n dX3_set_90 rfl rfl ?_
          refine K_iret dX3_set_91 rfl ?_
          simp only [o_set]
          first | (rw [if_pos ⟨c8, c13, c19⟩]; rw [q1 c13] at r1; exact ⟨rfl, r1, (FX.c0 N).set (by decide)⟩) | (rw [if_neg (fun h => by first | exact c8 h.1 | exact h.2.1 c13 | exact h.2.2 c19), if_pos ⟨c37, c42, c48⟩]; rw [q2 c42] at r2; exact ⟨rfl, r2, (FX.c0 N).set (by decide)⟩) | (rw [if_neg (fun h => by first | exact c8 h.1 | exact h.2.1 c13 | exact h.2.2 c19), if_neg (fun h => by first | exact c37 h.1 | exact h.2.1 c42 | exact h.2.2 c48), if_pos ⟨c66, c70, c77⟩]; rw [nI_back c70] at r3; exact ⟨rfl, r3, (FX.c0 N).set (by decide)⟩) | (rw [if_neg (fun h => by first | exact c8 h.1 | exact h.2.1 c13 | exact h.2.2 c19), if_neg (fun h => by first | exact c37 h.1 | exact h.2.1 c42 | exact h.2.2 c48), if_neg (fun h => by first | exact c66 h.1 | exact h.2.1 c70 | exact h.2.2 c77)]; exact ⟨rfl, R0, FX.c0 N⟩)
        · refine K_iload_n dX3_set_69 rfl rfl ?_
          refine K_if_lt (tgt := 90) dX3_set_70 (by decide) rfl (fun c70 => ?_) (fun c70 => ?_)
          · refine K_iload_n dX3_set_90 rfl rfl ?_
            refine K_iret dX3_set_91 rfl ?_
            simp only [o_set]
            first | (rw [if_pos ⟨c8, c13, c19⟩]; rw [q1 c13] at r1; exact ⟨rfl, r1, (FX.c0 N).set (by decide)⟩) | (rw [if_neg (fun h => by first | exact c8 h.1 | exact h.2.1 c13 | exact h.2.2 c19), if_pos ⟨c37, c42, c48⟩]; rw [q2 c42] at r2; exact ⟨rfl, r2, (FX.c0 N).set (by decide)⟩) | (rw [if_neg (fun h => by first | exact c8 h.1 | exact h.2.1 c13 | exact h.2.2 c19), if_neg (fun h => by first | exact c37 h.1 | exact h.2.1 c42 | exact h.2.2 c48), if_pos ⟨c66, c70, c77⟩]; rw [nI_back c70] at r3; exact ⟨rfl, r3, (FX.c0 N).set (by decide)⟩) | (rw [if_neg (fun h => by first | exact c8 h.1 | exact h.2.1 c13 | exact h.2.2 c19), if_neg (fun h => by first | exact c37 h.1 | exact h.2.1 c42 | exact h.2.2 c48), if_neg (fun h => by first | exact c66 h.1 | exact h.2.1 c70 | exact h.2.2 c77)]; exact ⟨rfl, R0, FX.c0 N⟩)
          · refine K_iload_n dX3_set_73 rfl rfl ?_
            refine K_sipush (v := nI 500) dX3_set_74 (by decide) rfl ?_
            refine K_icmp_gt (tgt := 90) dX3_set_77 (by decide) rfl (fun c77 => ?_) (fun c77 => ?_)
            · refine K_iload_n dX3_set_90 rfl rfl ?_
              refine K_iret dX3_set_91 rfl ?_
              simp only [o_set]
              first | (rw [if_pos ⟨c8, c13, c19⟩]; rw [q1 c13] at r1; exact ⟨rfl, r1, (FX.c0 N).set (by decide)⟩) | (rw [if_neg (fun h => by first | exact c8 h.1 | exact h.2.1 c13 | exact h.2.2 c19), if_pos ⟨c37, c42, c48⟩]; rw [q2 c42] at r2; exact ⟨rfl, r2, (FX.c0 N).set (by decide)⟩) | (rw [if_neg (fun h => by first | exact c8 h.1 | exact h.2.1 c13 | exact h.2.2 c19), if_neg (fun h => by first | exact c37 h.1 | exact h.2.1 c42 | exact h.2.2 c48), if_pos ⟨c66, c70, c77⟩]; rw [nI_back c70] at r3; exact ⟨rfl, r3, (FX.c0 N).set (by decide)⟩) | (rw [if_neg (fun h => by first | exact c8 h.1 | exact h.2.1 c13 | exact h.2.2 c19), if_neg (fun h => by first | exact c37 h.1 | exact h.2.1 c42 | exact h.2.2 c48), if_neg (fun h => by first | exact c66 h.1 | exact h.2.1 c70 | exact h.2.2 c77)]; exact ⟨rfl, R0, FX.c0 N⟩)
            · refine K_aload_n dX3_set_80 rfl rfl ?_
              refine K_getI dX3_set_81 fl_X3_58 (by first | rfl | exact sk_rk (by omega) | exact sk_hh (by omega)) rfl (by first | assumption | rfl) rfl ?_
              refine K_istore_n (lv' := [(0, _), (1, _), (2, _), (3, _)]) dX3_set_84 (by decide) rfl rfl ?_
              refine K_aload_n dX3_set_85 rfl rfl ?_
              refine K_iload_n dX3_set_86 rfl rfl ?_
              refine K_putI dX3_set_87 fl_X3_58 (by first | rfl | exact sk_rk (by omega) | exact sk_hh (by omega)) rfl rfl rfl rfl ?_
              refine K_iload_n dX3_set_90 rfl rfl ?_
              refine K_iret dX3_set_91 rfl ?_
              simp only [o_set]
              first | (rw [if_pos ⟨c8, c13, c19⟩]; rw [q1 c13] at r1; exact ⟨rfl, r1, (FX.c0 N).set (by decide)⟩) | (rw [if_neg (fun h => by first | exact c8 h.1 | exact h.2.1 c13 | exact h.2.2 c19), if_pos ⟨c37, c42, c48⟩]; rw [q2 c42] at r2; exact ⟨rfl, r2, (FX.c0 N).set (by decide)⟩) | (rw [if_neg (fun h => by first | exact c8 h.1 | exact h.2.1 c13 | exact h.2.2 c19), if_neg (fun h => by first | exact c37 h.1 | exact h.2.1 c42 | exact h.2.2 c48), if_pos ⟨c66, c70, c77⟩]; rw [nI_back c70] at r3; exact ⟨rfl, r3, (FX.c0 N).set (by decide)⟩) | (rw [if_neg (fun h => by first | exact c8 h.1 | exact h.2.1 c13 | exact h.2.2 c19), if_neg (fun h => by first | exact c37 h.1 | exact h.2.1 c42 | exact h.2.2 c48), if_neg (fun h => by first | exact c66 h.1 | exact h.2.1 c70 | exact h.2.2 c77)]; exact ⟨rfl, R0, FX.c0 N⟩)
      · refine K_iload_n dX3_set_45 rfl rfl ?_
        refine K_bipush (v := nI 10) dX3_set_46 (by decide) rfl ?_
        refine K_icmp_gt (tgt := 64) dX3_set_48 (by decide) rfl (fun c48 => ?_) (fun c48 => ?_)
        · refine K_iload_n dX3_set_64 rfl rfl ?_
          refine K_iconst (v := nI 2) dX3_set_65 (by decide) rfl ?_
          refine K_icmp_ne (tgt := 90) dX3_set_66 (by decide) rfl (fun c66 => ?_) (fun c66 => ?_)
          · refine K_iload_n dX3_set_90 rfl rfl ?_
            refine K_iret dX3_set_91 rfl ?_
            simp only [o_set]
            first | (rw [if_pos ⟨c8, c13, c19⟩]; rw [q1 c13] at r1; exact ⟨rfl, r1, (FX.c0 N).set (by decide)⟩) | (rw [if_neg (fun h => by first | exact c8 h.1 | exact h.2.1 c13 | exact h.2.2 c19), if_pos ⟨c37, c42, c48⟩]; rw [q2 c42] at r2; exact ⟨rfl, r2, (FX.c0 N).set (by decide)⟩) | (rw [if_neg (fun h => by first | exact c8 h.1 | exact h.2.1 c13 | exact h.2.2 c19), if_neg (fun h => by first | exact c37 h.1 | exact h.2.1 c42 | exact h.2.2 c48), if_pos ⟨c66, c70, c77⟩]; rw [nI_back c70] at r3; exact ⟨rfl, r3, (FX.c0 N).set (by decide)⟩) | (rw [if_neg (fun h => by first | exact c8 h.1 | exact h.2.1 c13 | exact h.2.2 c19), if_neg (fun h => by first | exact c37 h.1 | exact h.2.1 c42 | exact h.2.2 c48), if_neg (fun h => by first | exact c66 h.1 | exact h.2.1 c70 | exact h.2.2 c77)]; exact ⟨rfl, R0, FX.c0 N⟩)
          · refine K_iload_n dX3_set_69 rfl rfl ?_
            refine K_if_lt (tgt := 90) dX3_set_70 (by decide) rfl (fun c70 => ?_) (fun c70 => ?_)
            · refine K_iload_n dX3_set_90 rfl rfl ?_
              refine K_iret dX3_set_91 rfl ?_
              simp only [o_set]
              first | (rw [if_pos ⟨c8, c13, c19⟩]; rw [q1 c13] at r1; exact ⟨rfl, r1, (FX.c0 N).set (by decide)⟩) | (rw [if_neg (fun h => by first | exact c8 h.1 | exact h.2.1 c13 | exact h.2.2 c19), if_pos ⟨c37, c42, c48⟩]; rw [q2 c42] at r2; exact ⟨rfl, r2, (FX.c0 N).set (by decide)⟩) | (rw [if_neg (fun h => by first | exact c8 h.1 | exact h.2.1 c13 | exact h.2.2 c19), if_neg (fun h => by first | exact c37 h.1 | exact h.2.1 c42 | exact h.2.2 c48), if_pos ⟨c66, c70, c77⟩]; rw [nI_back c70] at r3; exact ⟨rfl, r3, (FX.c0 N).set (by decide)⟩) | (rw [if_neg (fun h => by first | exact c8 h.1 | exact h.2.1 c13 | exact h.2.2 c19), if_neg (fun h => by first | exact c37 h.1 | exact h.2.1 c42 | exact h.2.2 c48), if_neg (fun h => by first | exact c66 h.1 | exact h.2.1 c70 | exact h.2.2 c77)]; exact ⟨rfl, R0, FX.c0 N⟩)
            · refine K_iload_n dX3_set_73 rfl rfl ?_
              refine K_sipush (v := nI 500) dX3_set_74 (by decide) rfl ?_
              refine K_icmp_gt (tgt := 90) dX3_set_77 (by decide) rfl (fun c77 => ?_) (fun c77 => ?_)
              · refine K_iload_n dX3_set_90 rfl rfl ?_
                refine K_iret dX3_set_91 rfl ?_
                simp only [o_set]
                first | (rw [if_pos ⟨c8, c13, c19⟩]; rw [q1 c13] at r1; exact ⟨rfl, r1, (FX.c0 N).set (by decide)⟩) | (rw [if_neg (fun h => by first | exact c8 h.1 | exact h.2.1 c13 | exact h.2.2 c19), if_pos ⟨c37, c42, c48⟩]; rw [q2 c42] at r2; exact ⟨rfl, r2, (FX.c0 N).set (by decide)⟩) | (rw [if_neg (fun h => by first | exact c8 h.1 | exact h.2.1 c13 | exact h.2.2 c19), if_neg (fun h => by first | exact c37 h.1 | exact h.2.1 c42 | exact h.2.2 c48), if_pos ⟨c66, c70, c77⟩]; rw [nI_back c70] at r3; exact ⟨rfl, r3, (FX.c0 N).set (by decide)⟩) | (rw [if_neg (fun h => by first | exact c8 h.1 | exact h.2.1 c13 | exact h.2.2 c19), if_neg (fun h => by first | exact c37 h.1 | exact h.2.1 c42 | exact h.2.2 c48), if_neg (fun h => by first | exact c66 h.1 | exact h.2.1 c70 | exact h.2.2 c77)]; exact ⟨rfl, R0, FX.c0 N⟩)
              · refine K_aload_n dX3_set_80 rfl rfl ?_
                refine K_getI dX3_set_81 fl_X3_58 (by first | rfl | exact sk_rk (by omega) | exact sk_hh (by omega)) rfl (by first | assumption | rfl) rfl ?_
                refine K_istore_n (lv' := [(0, _), (1, _), (2, _), (3, _)]) dX3_set_84 (by decide) rfl rfl ?_
                refine K_aload_n dX3_set_85 rfl rfl ?_
                refine K_iload_n dX3_set_86 rfl rfl ?_
                refine K_putI dX3_set_87 fl_X3_58 (by first | rfl | exact sk_rk (by omega) | exact sk_hh (by omega)) rfl rfl rfl rfl ?_
                refine K_iload_n dX3_set_90 rfl rfl ?_
                refine K_iret dX3_set_91 rfl ?_
                simp only [o_set]
                first | (rw [if_pos ⟨c8, c13, c19⟩]; rw [q1 c13] at r1; exact ⟨rfl, r1, (FX.c0 N).set (by decide)⟩) | (rw [if_neg (fun h => by first | exact c8 h.1 | exact h.2.1 c13 | exact h.2.2 c19), if_pos ⟨c37, c42, c48⟩]; rw [q2 c42] at r2; exact ⟨rfl, r2, (FX.c0 N).set (by decide)⟩) | (rw [if_neg (fun h => by first | exact c8 h.1 | exact h.2.1 c13 | exact h.2.2 c19), if_neg (fun h => by first | exact c37 h.1 | exact h.2.1 c42 | exact h.2.2 c48), if_pos ⟨c66, c70, c77⟩]; rw [nI_back c70] at r3; exact ⟨rfl, r3, (FX.c0 N).set (by decide)⟩) | (rw [if_neg (fun h => by first | exact c8 h.1 | exact h.2.1 c13 | exact h.2.2 c19), if_neg (fun h => by first | exact c37 h.1 | exact h.2.1 c42 | exact h.2.2 c48), if_neg (fun h => by first | exact c66 h.1 | exact h.2.1 c70 | exact h.2.2 c77)]; exact ⟨rfl, R0, FX.c0 N⟩)
        · refine K_aload_n dX3_set_51 rfl rfl ?_
          refine K_getI dX3_set_52 fl_X3_55 (by first | rfl | exact sk_rk (by omega) | exact sk_hh (by omega)) rfl (by first | assumption | rfl) rfl ?_
          refine K_istore_n (lv' := [(0, _), (1, _), (2, _), (3, _)]) dX3_set_55 (by decide) rfl rfl ?_
          refine K_aload_n dX3_set_56 rfl rfl ?_
          refine K_iload_n dX3_set_57 rfl rfl ?_
          refine K_putI dX3_set_58 fl_X3_55 (by first | rfl | exact sk_rk (by omega) | exact sk_hh (by omega)) rfl rfl rfl rfl ?_
          refine K_goto (tgt := 90) dX3_set_61 (by decide) ?_
          refine K_iload_n dX3_set_90 rfl rfl ?_
          refine K_iret dX3_set_91 rfl ?_
          simp only [o_set]
          first | (rw [if_pos ⟨c8, c13, c19⟩]; rw [q1 c13] at r1; exact ⟨rfl, r1, (FX.c0 N).set (by decide)⟩) | (rw [if_neg (fun h => by first | exact c8 h.1 | exact h.2.1 c13 | exact h.2.2 c19), if_pos ⟨c37, c42, c48⟩]; rw [q2 c42] at r2; exact ⟨rfl, r2, (FX.c0 N).set (by decide)⟩) | (rw [if_neg (fun h => by first | exact c8 h.1 | exact h.2.1 c13 | exact h.2.2 c19), if_neg (fun h => by first | exact c37 h.1 | exact h.2.1 c42 | exact h.2.2 c48), if_pos ⟨c66, c70, c77⟩]; rw [nI_back c70] at r3; exact ⟨rfl, r3, (FX.c0 N).set (by decide)⟩) | (rw [if_neg (fun h => by first | exact c8 h.1 | exact h.2.1 c13 | exact h.2.2 c19), if_neg (fun h => by first | exact c37 h.1 | exact h.2.1 c42 | exact h.2.2 c48), if_neg (fun h => by first | exact c66 h.1 | exact h.2.1 c70 | exact h.2.2 c77)]; exact ⟨rfl, R0, FX.c0 N⟩)
  · refine K_iload_n dX3_set_11 rfl rfl ?_
    refine K_iconst (v := nI 1) dX3_set_12 (by decide) rfl ?_
    refine K_icmp_lt (tgt := 35) dX3_set_13 (by decide) rfl (fun c13 => ?_) (fun c13 => ?_)
    · refine K_iload_n dX3_set_35 rfl rfl ?_
      refine K_iconst (v := nI 1) dX3_set_36 (by decide) rfl ?_
      refine K_icmp_ne (tgt := 64) dX3_set_37 (by decide) rfl (fun c37 => ?_) (fun c37 => ?_)
      · refine K_iload_n dX3_set_64 rfl rfl ?_
        refine K_iconst (v := nI 2) dX3_set_65 (by decide) rfl ?_
        refine K_icmp_ne (tgt := 90) dX3_set_66 (by decide) rfl (fun c66 => ?_) (fun c66 => ?_)
        · refine K_iload_n dX3_set_90 rfl rfl ?_
          refine K_iret dX3_set_91 rfl ?_
          simp only [o_set]
          first | (rw [if_pos ⟨c8, c13, c19⟩]; rw [q1 c13] at r1; exact ⟨rfl, r1, (FX.c0 N).set (by decide)⟩) | (rw [if_neg (fun h => by first | exact c8 h.1 | exact h.2.1 c13 | exact h.2.2 c19), if_pos ⟨c37, c42, c48⟩]; rw [q2 c42] at r2; exact ⟨rfl, r2, (FX.c0 N).set (by decide)⟩) | (rw [if_neg (fun h => by first | exact c8 h.1 | exact h.2.1 c13 | exact h.2.2 c19), if_neg (fun h => by first | exact c37 h.1 | exact h.2.1 c42 | exact h.2.2 c48), if_pos ⟨c66, c70, c77⟩]; rw [nI_back c70] at r3; exact ⟨rfl, r3, (FX.c0 N).set (by decide)⟩) | (rw [if_neg (fun h => by first | exact c8 h.1 | exact h.2.1 c13 | exact h.2.2 c19), if_neg (fun h => by first | exact c37 h.1 | exact h.2.1 c42 | exact h.2.2 c48), if_neg (fun h => by first | exact c66 h.1 | exact h.2.1 c70 | exact h.2.2 c77)]; exact ⟨rfl, R0, FX.c0 N⟩)
        · refine K_iload_n dX3_set_69 rfl rfl ?_
          refine K_if_lt (tgt := 90) dX3_set_70 (by decide) rfl (fun c70 => ?_) (fun c70 => ?_)
          · refine K_iload_n dX3_set_90 rfl rfl ?_
            refine K_iret dX3_set_91 rfl ?_
            simp only [o_set]
            first | (rw [if_pos ⟨c8, c13, c19⟩]; rw [q1 c13] at r1; exact ⟨rfl, r1, (FX.c0 N).set (by decide)⟩) | (rw [if_neg (fun h => by first | exact c8 h.1 | exact h.2.1 c13 | exact h.2.2 c19), if_pos ⟨c37, c42, c48⟩]; rw [q2 c42] at r2; exact ⟨rfl, r2, (FX.c0 N).set (by decide)⟩) | (rw [if_neg (fun h => by first | exact c8 h.1 | exact h.2.1 c13 | exact h.2.2 c19), if_neg (fun h => by first | exact c37 h.1 | exact h.2.1 c42 | exact h.2.2 c48), if_pos ⟨c66, c70, c77⟩]; rw [nI_back c70] at r3; exact ⟨rfl, r3, (FX.c0 N).set (by decide)⟩) | (rw [if_neg (fun h => by first | exact c8 h.1 | exact h.2.1 c13 | exact h.2.2 c19), if_neg (fun h => by first | exact c37 h.1 | exact h.2.1 c42 | exact h.2.2 c48), if_neg (fun h => by first | exact c66 h.1 | exact h.2.1 c70 | exact h.2.2 c77)]; exact ⟨rfl, R0, FX.c0 N⟩)
          · refine K_iload_n dX3_set_73 rfl rfl ?_
            refine K_sipush (v := nI 500) dX3_set_74 (by decide) rfl ?_
            refine K_icmp_gt (tgt := 90) dX3_set_77 (by decide) rfl (fun c77 => ?_) (fun c77 => ?_)
            · refine K_iload_n dX3_set_90 rfl rfl ?_
              refine K_iret dX3_set_91 rfl ?_
              simp only [o_set]
              first | (rw [if_pos ⟨c8, c13, c19⟩]; rw [q1 c13] at r1; exact ⟨rfl, r1, (FX.c0 N).set (by decide)⟩) | (rw [if_neg (fun h => by first | exact c8 h.1 | exact h.2.1 c13 | exact h.2.2 c19), if_pos ⟨c37, c42, c48⟩]; rw [q2 c42] at r2; exact ⟨rfl, r2, (FX.c0 N).set (by decide)⟩) | (rw [if_neg (fun h => by first | exact c8 h.1 | exact h.2.1 c13 | exact h.2.2 c19), if_neg (fun h => by first | exact c37 h.1 | exact h.2.1 c42 | exact h.2.2 c48), if_pos ⟨c66, c70, c77⟩]; rw [nI_back c70] at r3; exact ⟨rfl, r3, (FX.c0 N).set (by decide)⟩) | (rw [if_neg (fun h => by first | exact c8 h.1 | exact h.2.1 c13 | exact h.2.2 c19), if_neg (fun h => by first | exact c37 h.1 | exact h.2.1 c42 | exact h.2.2 c48), if_neg (fun h => by first | exact c66 h.1 | exact h.2.1 c70 | exact h.2.2 c77)]; exact ⟨rfl, R0, FX.c0 N⟩)
            · refine K_aload_n dX3_set_80 rfl rfl ?_
              refine K_getI dX3_set_81 fl_X3_58 (by first | rfl | exact sk_rk (by omega) | exact sk_hh (by omega)) rfl (by first | assumption | rfl) rfl ?_
              refine K_istore_n (lv' := [(0, _), (1, _), (2, _), (3, _)]) dX3_set_84 (by decide) rfl rfl ?_
              refine K_aload_n dX3_set_85 rfl rfl ?_
              refine K_iload_n dX3_set_86 rfl rfl ?_
              refine K_putI dX3_set_87 fl_X3_58 (by first | rfl | exact sk_rk (by omega) | exact sk_hh (by omega)) rfl rfl rfl rfl ?_
              refine K_iload_n dX3_set_90 rfl rfl ?_
              refine K_iret dX3_set_91 rfl ?_
              simp only [o_set]
              first | (rw [if_pos ⟨c8, c13, c19⟩]; rw [q1 c13] at r1; exact ⟨rfl, r1, (FX.c0 N).set (by decide)⟩) | (rw [if_neg (fun h => by first | exact c8 h.1 | exact h.2.1 c13 | exact h.2.2 c19), if_pos ⟨c37, c42, c48⟩]; rw [q2 c42] at r2; exact ⟨rfl, r2, (FX.c0 N).set (by decide)⟩) | (rw [if_neg (fun h => by first | exact c8 h.1 | exact h.2.1 c13 | exact h.2.2 c19), if_neg (fun h => by first | exact c37 h.1 | exact h.2.1 c42 | exact h.2.2 c48), if_pos ⟨c66, c70, c77⟩]; rw [nI_back c70] at r3; exact ⟨rfl, r3, (FX.c0 N).set (by decide)⟩) | (rw [if_neg (fun h => by first | exact c8 h.1 | exact h.2.1 c13 | exact h.2.2 c19), if_neg (fun h => by first | exact c37 h.1 | exact h.2.1 c42 | exact h.2.2 c48), if_neg (fun h => by first | exact c66 h.1 | exact h.2.1 c70 | exact h.2.2 c77)]; exact ⟨rfl, R0, FX.c0 N⟩)
      · refine K_iload_n dX3_set_40 rfl rfl ?_
        refine K_iconst (v := nI 2) dX3_set_41 (by decide) rfl ?_
        refine K_icmp_lt (tgt := 64) dX3_set_42 (by decide) rfl (fun c42 => ?_) (fun c42 => ?_)
        · refine K_iload_n dX3_set_64 rfl rfl ?_
          refine K_iconst (v := nI 2) dX3_set_65 (by decide) rfl ?_
          refine K_icmp_ne (tgt := 90) dX3_set_66 (by decide) rfl (fun c66 => ?_) (fun c66 => ?_)
          · refine K_iload_n dX3_set_90 rfl rfl ?_
            refine K_iret dX3_set_91 rfl ?_
            simp only [o_set]
            first | (rw [if_pos ⟨c8, c13, c19⟩]; rw [q1 c13] at r1; exact ⟨rfl, r1, (FX.c0 N).set (by decide)⟩) | (rw [if_neg (fun h => by first | exact c8 h.1 | exact h.2.1 c13 | exact h.2.2 c19), if_pos ⟨c37, c42, c48⟩]; rw [q2 c42] at r2; exact ⟨rfl, r2, (FX.c0 N).set (by decide)⟩) | (rw [if_neg (fun h => by first | exact c8 h.1 | exact h.2.1 c13 | exact h.2.2 c19), if_neg (fun h => by first | exact c37 h.1 | exact h.2.1 c42 | exact h.2.2 c48), if_pos ⟨c66, c70, c77⟩]; rw [nI_back c70] at r3; exact ⟨rfl, r3, (FX.c0 N).set (by decide)⟩) | (rw [if_neg (fun h => by first | exact c8 h.1 | exact h.2.1 c13 | exact h.2.2 c19), if_neg (fun h => by first | exact c37 h.1 | exact h.2.1 c42 | exact h.2.2 c48), if_neg (fun h => by first | exact c66 h.1 | exact h.2.1 c70 | exact h.2.2 c77)]; exact ⟨rfl, R0, FX.c0 N⟩)
          · refine K_iload_n dX3_set_69 rfl rfl ?_
            refine K_if_lt (tgt := 90) dX3_set_70 (by decide) rfl (fun c70 => ?_) (fun c70 => ?_)
            · refine K_iload_n dX3_set_90 rfl rfl ?_
              refine K_iret dX3_set_91 rfl ?_
              simp only [o_set]
              first | (rw [if_pos ⟨c8, c13, c19⟩]; rw [q1 c13] at r1; exact ⟨rfl, r1, (FX.c0 N).set (by decide)⟩) | (rw [if_neg (fun h => by first | exact c8 h.1 | exact h.2.1 c13 | exact h.2.2 c19), if_pos ⟨c37, c42, c48⟩]; rw [q2 c42] at r2; exact ⟨rfl, r2, (FX.c0 N).set (by decide)⟩) | (rw [if_neg (fun h => by first | exact c8 h.1 | exact h.2.1 c13 | exact h.2.2 c19), if_neg (fun h => by first | exact c37 h.1 | exact h.2.1 c42 | exact h.2.2 c48), if_pos ⟨c66, c70, c77⟩]; rw [nI_back c70] at r3; exact ⟨rfl, r3, (FX.c0 N).set (by decide)⟩) | (rw [if_neg (fun h => by first | exact c8 h.1 | exact h.2.1 c13 | exact h.2.2 c19), if_neg (fun h => by first | exact c37 h.1 | exact h.2.1 c42 | exact h.2.2 c48), if_neg (fun h => by first | exact c66 h.1 | exact h.2.1 c70 | exact h.2.2 c77)]; exact ⟨rfl, R0, FX.c0 N⟩)
            · refine K_iload_n dX3_set_73 rfl rfl ?_
              refine K_sipush (v := nI 500) dX3_set_74 (by decide) rfl ?_
              refine K_icmp_gt (tgt := 90) dX3_set_77 (by decide) rfl (fun c77 => ?_) (fun c77 => ?_)
              · refine K_iload_n dX3_set_90 rfl rfl ?_
                refine K_iret dX3_set_91 rfl ?_
                simp only [o_set]
                first | (rw [if_pos ⟨c8, c13, c19⟩]; rw [q1 c13] at r1; exact ⟨rfl, r1, (FX.c0 N).set (by decide)⟩) | (rw [if_neg (fun h => by first | exact c8 h.1 | exact h.2.1 c13 | exact h.2.2 c19), if_pos ⟨c37, c42, c48⟩]; rw [q2 c42] at r2; exact ⟨rfl, r2, (FX.c0 N).set (by decide)⟩) | (rw [if_neg (fun h => by first | exact c8 h.1 | exact h.2.1 c13 | exact h.2.2 c19), if_neg (fun h => by first | exact c37 h.1 | exact h.2.1 c42 | exact h.2.2 c48), if_pos ⟨c66, c70, c77⟩]; rw [nI_back c70] at r3; exact ⟨rfl, r3, (FX.c0 N).set (by decide)⟩) | (rw [if_neg (fun h => by first | exact c8 h.1 | exact h.2.1 c13 | exact h.2.2 c19), if_neg (fun h => by first | exact c37 h.1 | exact h.2.1 c42 | exact h.2.2 c48), if_neg (fun h => by first | exact c66 h.1 | exact h.2.1 c70 | exact h.2.2 c77)]; exact ⟨rfl, R0, FX.c0 N⟩)
              · refine K_aload_n dX3_set_80 rfl rfl ?_
                refine K_getI dX3_set_81 fl_X3_58 (by first | rfl | exact sk_rk (by omega) | exact sk_hh (by omega)) rfl (by first | assumption | rfl) rfl ?_
                refine K_istore_n (lv' := [(0, _), (1, _), (2, _), (3, _)]) dX3_set_84 (by decide) rfl rfl ?_
                refine K_aload_n dX3_set_85 rfl rfl ?_
                refine K_iload_n dX3_set_86 rfl rfl ?_
                refine K_putI dX3_set_87 fl_X3_58 (by first | rfl | exact sk_rk (by omega) | exact sk_hh (by omega)) rfl rfl rfl rfl ?_
                refine K_iload_n dX3_set_90 rfl rfl ?_
                refine K_iret dX3_set_91 rfl ?_
                simp only [o_set]
                first | (rw [if_pos ⟨c8, c13, c19⟩]; rw [q1 c13] at r1; exact ⟨rfl, r1, (FX.c0 N).set (by decide)⟩) | (rw [if_neg (fun h => by first | exact c8 h.1 | exact h.2.1 c13 | exact h.2.2 c19), if_pos ⟨c37, c42, c48⟩]; rw [q2 c42] at r2; exact ⟨rfl, r2, (FX.c0 N).set (by decide)⟩) | (rw [if_neg (fun h => by first | exact c8 h.1 | exact h.2.1 c13 | exact h.2.2 c19), if_neg (fun h => by first | exact c37 h.1 | exact h.2.1 c42 | exact h.2.2 c48), if_pos ⟨c66, c70, c77⟩]; rw [nI_back c70] at r3; exact ⟨rfl, r3, (FX.c0 N).set (by decide)⟩) | (rw [if_neg (fun h => by first | exact c8 h.1 | exact h.2.1 c13 | exact h.2.2 c19), if_neg (fun h => by first | exact c37 h.1 | exact h.2.1 c42 | exact h.2.2 c48), if_neg (fun h => by first | exact c66 h.1 | exact h.2.1 c70 | exact h.2.2 c77)]; exact ⟨rfl, R0, FX.c0 N⟩)
        · refine K_iload_n dX3_set_45 rfl rfl ?_
          refine K_bipush (v := nI 10) dX3_set_46 (by decide) rfl ?_
          refine K_icmp_gt (tgt := 64) dX3_set_48 (by decide) rfl (fun c48 => ?_) (fun c48 => ?_)
          · refine K_iload_n dX3_set_64 rfl rfl ?_
            refine K_iconst (v := nI 2) dX3_set_65 (by decide) rfl ?_
            refine K_icmp_ne (tgt := 90) dX3_set_66 (by decide) rfl (fun c66 => ?_) (fun c66 => ?_)
            · refine K_iload_n dX3_set_90 rfl rfl ?_
              refine K_iret dX3_set_91 rfl ?_
              simp only [o_set]
              first | (rw [if_pos ⟨c8, c13, c19⟩]; rw [q1 c13] at r1; exact ⟨rfl, r1, (FX.c0 N).set (by decide)⟩) | (rw [if_neg (fun h => by first | exact c8 h.1 | exact h.2.1 c13 | exact h.2.2 c19), if_pos ⟨c37, c42, c48⟩]; rw [q2 c42] at r2; exact ⟨rfl, r2, (FX.c0 N).set (by decide)⟩) | (rw [if_neg (fun h => by first | exact c8 h.1 | exact h.2.1 c13 | exact h.2.2 c19), if_neg (fun h => by first | exact c37 h.1 | exact h.2.1 c42 | exact h.2.2 c48), if_pos ⟨c66, c70, c77⟩]; rw [nI_back c70] at r3; exact ⟨rfl, r3, (FX.c0 N).set (by decide)⟩) | (rw [if_neg (fun h => by first | exact c8 h.1 | exact h.2.1 c13 | exact h.2.2 c19), if_neg (fun h => by first | exact c37 h.1 | exact h.2.1 c42 | exact h.2.2 c48), if_neg (fun h => by first | exact c66 h.1 | exact h.2.1 c70 | exact h.2.2 c77)]; exact ⟨rfl, R0, FX.c0 N⟩)
            · refine K_iload_n dX3_set_69 rfl rfl ?_
              refine K_if_lt (tgt := 90) dX3_set_70 (by decide) rfl (fun c70 => ?_) (fun c70 => ?_)
              · refine K_iload_n dX3_set_90 rfl rfl ?_
                refine K_iret dX3_set_91 rfl ?_
                simp only [o_set]
                first | (rw [if_pos ⟨c8, c13, c19⟩]; rw [q1 c13] at r1; exact ⟨rfl, r1, (FX.c0 N).set (by decide)⟩) | (rw [if_neg (fun h => by first | exact c8 h.1 | exact h.2.1 c13 | exact h.2.2 c19), if_pos ⟨c37, c42, c48⟩]; rw [q2 c42] at r2; exact ⟨rfl, r2, (FX.c0 N).set (by decide)⟩) | (rw [if_neg (fun h => by first | exact c8 h.1 | exact h.2.1 c13 | exact h.2.2 c19), if_neg (fun h => by first | exact c37 h.1 | exact h.2.1 c42 | exact h.2.2 c48), if_pos ⟨c66, c70, c77⟩]; rw [nI_back c70] at r3; exact ⟨rfl, r3, (FX.c0 N).set (by decide)⟩) | (rw [if_neg (fun h => by first | exact c8 h.1 | exact h.2.1 c13 | exact h.2.2 c19), if_neg (fun h => by first | exact c37 h.1 | exact h.2.1 c42 | exact h.2.2 c48), if_neg (fun h => by first | exact c66 h.1 | exact h.2.1 c70 | exact h.2.2 c77)]; exact ⟨rfl, R0, FX.c0 N⟩)
              · refine K_iload_n dX3_set_73 rfl rfl ?_
                refine K_sipush (v := nI 500) dX3_set_74 (by decide) rfl ?_
                refine K_icmp_gt (tgt := 90) dX3_set_77 (by decide) rfl (fun c77 => ?_) (fun c77 => ?_)
                · refine K_iload_n dX3_set_90 rfl rfl ?_
                  refine K_iret dX3_set_91 rfl ?_
                  simp only [o_set]
                  first | (rw [if_pos ⟨c8, c13, c19⟩]; rw [q1 c13] at r1; exact ⟨rfl, r1, (FX.c0 N).set (by decide)⟩) | (rw [if_neg (fun h => by first | exact c8 h.1 | exact h.2.1 c13 | exact h.2.2 c19), if_pos ⟨c37, c42, c48⟩]; rw [q2 c42] at r2; exact ⟨rfl, r2, (FX.c0 N).set (by decide)⟩) | (rw [if_neg (fun h => by first | exact c8 h.1 | exact h.2.1 c13 | exact h.2.2 c19), if_neg (fun h => by first | exact c37 h.1 | exact h.2.1 c42 | exact h.2.2 c48), if_pos ⟨c66, c70, c77⟩]; rw [nI_back c70] at r3; exact ⟨rfl, r3, (FX.c0 N).set (by decide)⟩) | (rw [if_neg (fun h => by first | exact c8 h.1 | exact h.2.1 c13 | exact h.2.2 c19), if_neg (fun h => by first | exact c37 h.1 | exact h.2.1 c42 | exact h.2.2 c48), if_neg (fun h => by first | exact c66 h.1 | exact h.2.1 c70 | exact h.2.2 c77)]; exact ⟨rfl, R0, FX.c0 N⟩)
                · refine K_aload_n dX3_set_80 rfl rfl ?_
                  refine K_getI dX3_set_81 fl_X3_58 (by first | rfl | exact sk_rk (by omega) | exact sk_hh (by omega)) rfl (by first | assumption | rfl) rfl ?_
                  refine K_istore_n (lv' := [(0, _), (1, _), (2, _), (3, _)]) dX3_set_84 (by decide) rfl rfl ?_
                  refine K_aload_n dX3_set_85 rfl rfl ?_
                  refine K_iload_n dX3_set_86 rfl rfl ?_
                  refine K_putI dX3_set_87 fl_X3_58 (by first | rfl | exact sk_rk (by omega) | exact sk_hh (by omega)) rfl rfl rfl rfl ?_
                  refine K_iload_n dX3_set_90 rfl rfl ?_
                  refine K_iret dX3_set_91 rfl ?_
                  simp only [o_set]
                  first | (rw [if_pos ⟨c8, c13, c19⟩]; rw [q1 c13] at r1; exact ⟨rfl, r1, (FX.c0 N).set (by decide)⟩) | (rw [if_neg (fun h => by first | exact c8 h.1 | exact h.2.1 c13 | exact h.2.2 c19), if_pos ⟨c37, c42, c48⟩]; rw [q2 c42] at r2; exact ⟨rfl, r2, (FX.c0 N).set (by decide)⟩) | (rw [if_neg (fun h => by first | exact c8 h.1 | exact h.2.1 c13 | exact h.2.2 c19), if_neg (fun h => by first | exact c37 h.1 | exact h.2.1 c42 | exact h.2.2 c48), if_pos ⟨c66, c70, c77⟩]; rw [nI_back c70] at r3; exact ⟨rfl, r3, (FX.c0 N).set (by decide)⟩) | (rw [if_neg (fun h => by first | exact c8 h.1 | exact h.2.1 c13 | exact h.2.2 c19), if_neg (fun h => by first | exact c37 h.1 | exact h.2.1 c42 | exact h.2.2 c48), if_neg (fun h => by first | exact c66 h.1 | exact h.2.1 c70 | exact h.2.2 c77)]; exact ⟨rfl, R0, FX.c0 N⟩)
          · refine K_aload_n dX3_set_51 rfl rfl ?_
            refine K_getI dX3_set_52 fl_X3_55 (by first | rfl | exact sk_rk (by omega) | exact sk_hh (by omega)) rfl (by first | assumption | rfl) rfl ?_
            refine K_istore_n (lv' := [(0, _), (1, _), (2, _), (3, _)]) dX3_set_55 (by decide) rfl rfl ?_
            refine K_aload_n dX3_set_56 rfl rfl ?_
            refine K_iload_n dX3_set_57 rfl rfl ?_
            refine K_putI dX3_set_58 fl_X3_55 (by first | rfl | exact sk_rk (by omega) | exact sk_hh (by omega)) rfl rfl rfl rfl ?_
            refine K_goto (tgt := 90) dX3_set_61 (by decide) ?_
            refine K_iload_n dX3_set_90 rfl rfl ?_
            refine K_iret dX3_set_91 rfl ?_
            simp only [o_set]
            first | (rw [if_pos ⟨c8, c13, c19⟩]; rw [q1 c13] at r1; exact ⟨rfl, r1, (FX.c0 N).set (by decide)⟩) | (rw [if_neg (fun h => by first | exact c8 h.1 | exact h.2.1 c13 | exact h.2.2 c19), if_pos ⟨c37, c42, c48⟩]; rw [q2 c42] at r2; exact ⟨rfl, r2, (FX.c0 N).set (by decide)⟩) | (rw [if_neg (fun h => by first | exact c8 h.1 | exact h.2.1 c13 | exact h.2.2 c19), if_neg (fun h => by first | exact c37 h.1 | exact h.2.1 c42 | exact h.2.2 c48), if_pos ⟨c66, c70, c77⟩]; rw [nI_back c70] at r3; exact ⟨rfl, r3, (FX.c0 N).set (by decide)⟩) | (rw [if_neg (fun h => by first | exact c8 h.1 | exact h.2.1 c13 | exact h.2.2 c19), if_neg (fun h => by first | exact c37 h.1 | exact h.2.1 c42 | exact h.2.2 c48), if_neg (fun h => by first | exact c66 h.1 | exact h.2.1 c70 | exact h.2.2 c77)]; exact ⟨rfl, R0, FX.c0 N⟩)
    · refine K_iload_n dX3_set_16 rfl rfl ?_
      refine K_bipush (v := nI 8) dX3_set_17 (by decide) rfl ?_
      refine K_icmp_gt (tgt := 35) dX3_set_19 (by decide) rfl (fun c19 => ?_) (fun c19 => ?_)
      · refine K_iload_n dX3_set_35 rfl rfl ?_
        refine K_iconst (v := nI 1) dX3_set_36 (by decide) rfl ?_
        refine K_icmp_ne (tgt := 64) dX3_set_37 (by decide) rfl (fun c37 => ?_) (fun c37 => ?_)
        · refine K_iload_n dX3_set_64 rfl rfl ?_
          refine K_iconst (v := nI 2) dX3_set_65 (by decide) rfl ?_
          refine K_icmp_ne (tgt := 90) dX3_set_66 (by decide) rfl (fun c66 => ?_) (fun c66 => ?_)
          · refine K_iload_n dX3_set_90 rfl rfl ?_
            refine K_iret dX3_set_91 rfl ?_
            simp only [o_set]
            first | (rw [if_pos ⟨c8, c13, c19⟩]; rw [q1 c13] at r1; exact ⟨rfl, r1, (FX.c0 N).set (by decide)⟩) | (rw [if_neg (fun h => by first | exact c8 h.1 | exact h.2.1 c13 | exact h.2.2 c19), if_pos ⟨c37, c42, c48⟩]; rw [q2 c42] at r2; exact ⟨rfl, r2, (FX.c0 N).set (by decide)⟩) | (rw [if_neg (fun h => by first | exact c8 h.1 | exact h.2.1 c13 | exact h.2.2 c19), if_neg (fun h => by first | exact c37 h.1 | exact h.2.1 c42 | exact h.2.2 c48), if_pos ⟨c66, c70, c77⟩]; rw [nI_back c70] at r3; exact ⟨rfl, r3, (FX.c0 N).set (by decide)⟩) | (rw [if_neg (fun h => by first | exact c8 h.1 | exact h.2.1 c13 | exact h.2.2 c19), if_neg (fun h => by first | exact c37 h.1 | exact h.2.1 c42 | exact h.2.2 c48), if_neg (fun h => by first | exact c66 h.1 | exact h.2.1 c70 | exact h.2.2 c77)]; exact ⟨rfl, R0, FX.c0 N⟩)
          · refine K_iload_n dX3_set_69 rfl rfl ?_
            refine K_if_lt (tgt := 90) dX3_set_70 (by decide) rfl (fun c70 => ?_) (fun c70 => ?_)
            · refine K_iload_n dX3_set_90 rfl rfl ?_
              refine K_iret dX3_set_91 rfl ?_
              simp only [o_set]
              first | (rw [if_pos ⟨c8, c13, c19⟩]; rw [q1 c13] at r1; exact ⟨rfl, r1, (FX.c0 N).set (by decide)⟩) | (rw [if_neg (fun h => by first | exact c8 h.1 | exact h.2.1 c13 | exact h.2.2 c19), if_pos ⟨c37, c42, c48⟩]; rw [q2 c42] at r2; exact ⟨rfl, r2, (FX.c0 N).set (by decide)⟩) | (rw [if_neg (fun h => by first | exact c8 h.1 | exact h.2.1 c13 | exact h.2.2 c19), if_neg (fun h => by first | exact c37 h.1 | exact h.2.1 c42 | exact h.2.2 c48), if_pos ⟨c66, c70, c77⟩]; rw [nI_back c70] at r3; exact ⟨rfl, r3, (FX.c0 N).set (by decide)⟩) | (rw [if_neg (fun h => by first | exact c8 h.1 | exact h.2.1 c13 | exact h.2.2 c19), if_neg (fun h => by first | exact c37 h.1 | exact h.2.1 c42 | exact h.2.2 c48), if_neg (fun h => by first | exact c66 h.1 | exact h.2.1 c70 | exact h.2.2 c77)]; exact ⟨rfl, R0, FX.c0 N⟩)
            · refine K_iload_n dX3_set_73 rfl rfl ?_
              refine K_sipush (v := nI 500) dX3_set_74 (by decide) rfl ?_
              refine K_icmp_gt (tgt := 90) dX3_set_77 (by decide) rfl (fun c77 => ?_) (fun c77 => ?_)
              · refine K_iload_n dX3_set_90 rfl rfl ?_
                refine K_iret dX3_set_91 rfl ?_
                simp only [o_set]
                first | (rw [if_pos ⟨c8, c13, c19⟩]; rw [q1 c13] at r1; exact ⟨rfl, r1, (FX.c0 N).set (by decide)⟩) | (rw [if_neg (fun h => by first | exact c8 h.1 | exact h.2.1 c13 | exact h.2.2 c19), if_pos ⟨c37, c42, c48⟩]; rw [q2 c42] at r2; exact ⟨rfl, r2, (FX.c0 N).set (by decide)⟩) | (rw [if_neg (fun h => by first | exact c8 h.1 | exact h.2.1 c13 | exact h.2.2 c19), if_neg (fun h => by first | exact c37 h.1 | exact h.2.1 c42 | exact h.2.2 c48), if_pos ⟨c66, c70, c77⟩]; rw [nI_back c70] at r3; exact ⟨rfl, r3, (FX.c0 N).set (by decide)⟩) | (rw [if_neg (fun h => by first | exact c8 h.1 | exact h.2.1 c13 | exact h.2.2 c19), if_neg (fun h => by first | exact c37 h.1 | exact h.2.1 c42 | exact h.2.2 c48), if_neg (fun h => by first | exact c66 h.1 | exact h.2.1 c70 | exact h.2.2 c77)]; exact ⟨rfl, R0, FX.c0 N⟩)
              · refine K_aload_n dX3_set_80 rfl rfl ?_
                refine K_getI dX3_set_81 fl_X3_58 (by first | rfl | exact sk_rk (by omega) | exact sk_hh (by omega)) rfl (by first | assumption | rfl) rfl ?_
                refine K_istore_n (lv' := [(0, _), (1, _), (2, _), (3, _)]) dX3_set_84 (by decide) rfl rfl ?_
                refine K_aload_n dX3_set_85 rfl rfl ?_
                refine K_iload_n dX3_set_86 rfl rfl ?_
                refine K_putI dX3_set_87 fl_X3_58 (by first | rfl | exact sk_rk (by omega) | exact sk_hh (by omega)) rfl rfl rfl rfl ?_
                refine K_iload_n dX3_set_90 rfl rfl ?_
                refine K_iret dX3_set_91 rfl ?_
                simp only [o_set]
                first | (rw [if_pos ⟨c8, c13, c19⟩]; rw [q1 c13] at r1; exact ⟨rfl, r1, (FX.c0 N).set (by decide)⟩) | (rw [if_neg (fun h => by first | exact c8 h.1 | exact h.2.1 c13 | exact h.2.2 c19), if_pos ⟨c37, c42, c48⟩]; rw [q2 c42] at r2; exact ⟨rfl, r2, (FX.c0 N).set (by decide)⟩) | (rw [if_neg (fun h => by first | exact c8 h.1 | exact h.2.1 c13 | exact h.2.2 c19), if_neg (fun h => by first | exact c37 h.1 | exact h.2.1 c42 | exact h.2.2 c48), if_pos ⟨c66, c70, c77⟩]; rw [nI_back c70] at r3; exact ⟨rfl, r3, (FX.c0 N).set (by decide)⟩) | (rw [if_neg (fun h => by first | exact c8 h.1 | exact h.2.1 c13 | exact h.2.2 c19), if_neg (fun h => by first | exact c37 h.1 | exact h.2.1 c42 | exact h.2.2 c48), if_neg (fun h => by first | exact c66 h.1 | exact h.2.1 c70 | exact h.2.2 c77)]; exact ⟨rfl, R0, FX.c0 N⟩)
        · refine K_iload_n dX3_set_40 rfl rfl ?_
          refine K_iconst (v := nI 2) dX3_set_41 (by decide) rfl ?_
          refine K_icmp_lt (tgt := 64) dX3_set_42 (by decide) rfl (fun c42 => ?_) (fun c42 => ?_)
          · refine K_iload_n dX3_set_64 rfl rfl ?_
            refine K_iconst (v := nI 2) dX3_set_65 (by decide) rfl ?_
            refine K_icmp_ne (tgt := 90) dX3_set_66 (by decide) rfl (fun c66 => ?_) (fun c66 => ?_)
            · refine K_iload_n dX3_set_90 rfl rfl ?_
              refine K_iret dX3_set_91 rfl ?_
              simp only [o_set]
              first | (rw [if_pos ⟨c8, c13, c19⟩]; rw [q1 c13] at r1; exact ⟨rfl, r1, (FX.c0 N).set (by decide)⟩) | (rw [if_neg (fun h => by first | exact c8 h.1 | exact h.2.1 c13 | exact h.2.2 c19), if_pos ⟨c37, c42, c48⟩]; rw [q2 c42] at r2; exact ⟨rfl, r2, (FX.c0 N).set (by decide)⟩) | (rw [if_neg (fun h => by first | exact c8 h.1 | exact h.2.1 c13 | exact h.2.2 c19), if_neg (fun h => by first | exact c37 h.1 | exact h.2.1 c42 | exact h.2.2 c48), if_pos ⟨c66, c70, c77⟩]; rw [nI_back c70] at r3; exact ⟨rfl, r3, (FX.c0 N).set (by decide)⟩) | (rw [if_neg (fun h => by first | exact c8 h.1 | exact h.2.1 c13 | exact h.2.2 c19), if_neg (fun h => by first | exact c37 h.1 | exact h.2.1 c42 | exact h.2.2 c48), if_neg (fun h => by first | exact c66 h.1 | exact h.2.1 c70 | exact h.2.2 c77)]; exact ⟨rfl, R0, FX.c0 N⟩)
            · refine K_iload_n dX3_set_69 rfl rfl ?_
              refine K_if_lt (tgt := 90) dX3_set_70 (by decide) rfl (fun c70 => ?_) (fun c70 => ?_)
              · refine K_iload_n dX3_set_90 rfl rfl ?_
                refine K_iret dX3_set_91 rfl ?_
                simp only [o_set]
                first | (rw [if_pos ⟨c8, c13, c19⟩]; rw [q1 c13] at r1; exact ⟨rfl, r1, (FX.c0 N).set (by decide)⟩) | (rw [if_neg (fun h => by first | exact c8 h.1 | exact h.2.1 c13 | exact h.2.2 c19), if_pos ⟨c37, c42, c48⟩]; rw [q2 c42] at r2; exact ⟨rfl, r2, (FX.c0 N).set (by decide)⟩) | (rw [if_neg (fun h => by first | exact c8 h.1 | exact h.2.1 c13 | exact h.2.2 c19), if_neg (fun h => by first | exact c37 h.1 | exact h.2.1 c42 | exact h.2.2 c48), if_pos ⟨c66, c70, c77⟩]; rw [nI_back c70] at r3; exact ⟨rfl, r3, (FX.c0 N).set (by decide)⟩) | (rw [if_neg (fun h => by first | exact c8 h.1 | exact h.2.1 c13 | exact h.2.2 c19), if_neg (fun h => by first | exact c37 h.1 | exact h.2.1 c42 | exact h.2.2 c48), if_neg (fun h => by first | exact c66 h.1 | exact h.2.1 c70 | exact h.2.2 c77)]; exact ⟨rfl, R0, FX.c0 N⟩)
              · refine K_iload_n dX3_set_73 rfl rfl ?_
                refine K_sipush (v := nI 500) dX3_set_74 (by decide) rfl ?_
                refine K_icmp_gt (tgt := 90) dX3_set_77 (by decide) rfl (fun c77 => ?_) (fun c77 => ?_)
                · refine K_iload_n dX3_set_90 rfl rfl ?_
                  refine K_iret dX3_set_91 rfl ?_
                  simp only [o_set]
                  first | (rw [if_pos ⟨c8, c13, c19⟩]; rw [q1 c13] at r1; exact ⟨rfl, r1, (FX.c0 N).set (by decide)⟩) | (rw [if_neg (fun h => by first | exact c8 h.1 | exact h.2.1 c13 | exact h.2.2 c19), if_pos ⟨c37, c42, c48⟩]; rw [q2 c42] at r2; exact ⟨rfl, r2, (FX.c0 N).set (by decide)⟩) | (rw [if_neg (fun h => by first | exact c8 h.1 | exact h.2.1 c13 | exact h.2.2 c19), if_neg (fun h => by first | exact c37 h.1 | exact h.2.1 c42 | exact h.2.2 c48), if_pos ⟨c66, c70, c77⟩]; rw [nI_back c70] at r3; exact ⟨rfl, r3, (FX.c0 N).set (by decide)⟩) | (rw [if_neg (fun h => by first | exact c8 h.1 | exact h.2.1 c13 | exact h.2.2 c19), if_neg (fun h => by first | exact c37 h.1 | exact h.2.1 c42 | exact h.2.2 c48), if_neg (fun h => by first | exact c66 h.1 | exact h.2.1 c70 | exact h.2.2 c77)]; exact ⟨rfl, R0, FX.c0 N⟩)
                · refine K_aload_n dX3_set_80 rfl rfl ?_
                  refine K_getI dX3_set_81 fl_X3_58 (by first | rfl | exact sk_rk (by omega) | exact sk_hh (by omega)) rfl (by first | assumption | rfl) rfl ?_
                  refine K_istore_n (lv' := [(0, _), (1, _), (2, _), (3, _)]) dX3_set_84 (by decide) rfl rfl ?_
                  refine K_aload_n dX3_set_85 rfl rfl ?_
                  refine K_iload_n dX3_set_86 rfl rfl ?_
                  refine K_putI dX3_set_87 fl_X3_58 (by first | rfl | exact sk_rk (by omega) | exact sk_hh (by omega)) rfl rfl rfl rfl ?_
                  refine K_iload_n dX3_set_90 rfl rfl ?_
                  refine K_iret dX3_set_91 rfl ?_
                  simp only [o_set]
                  first | (rw [if_pos ⟨c8, c13, c19⟩]; rw [q1 c13] at r1; exact ⟨rfl, r1, (FX.c0 N).set (by decide)⟩) | (rw [if_neg (fun h => by first | exact c8 h.1 | exact h.2.1 c13 | exact h.2.2 c19), if_pos ⟨c37, c42, c48⟩]; rw [q2 c42] at r2; exact ⟨rfl, r2, (FX.c0 N).set (by decide)⟩) | (rw [if_neg (fun h => by first | exact c8 h.1 | exact h.2.1 c13 | exact h.2.2 c19), if_neg (fun h => by first | exact c37 h.1 | exact h.2.1 c42 | exact h.2.2 c48), if_pos ⟨c66, c70, c77⟩]; rw [nI_back c70] at r3; exact ⟨rfl, r3, (FX.c0 N).set (by decide)⟩) | (rw [if_neg (fun h => by first | exact c8 h.1 | exact h.2.1 c13 | exact h.2.2 c19), if_neg (fun h => by first | exact c37 h.1 | exact h.2.1 c42 | exact h.2.2 c48), if_neg (fun h => by first | exact c66 h.1 | exact h.2.1 c70 | exact h.2.2 c77)]; exact ⟨rfl, R0, FX.c0 N⟩)
          · refine K_iload_n dX3_set_45 rfl rfl ?_
            refine K_bipush (v := nI 10) dX3_set_46 (by decide) rfl ?_
            refine K_icmp_gt (tgt := 64) dX3_set_48 (by decide) rfl (fun c48 => ?_) (fun c48 => ?_)
            · refine K_iload_n dX3_set_64 rfl rfl ?_
              refine K_iconst (v := nI 2) dX3_set_65 (by decide) rfl ?_
              refine K_icmp_ne (tgt := 90) dX3_set_66 (by decide) rfl (fun c66 => ?_) (fun c66 => ?_)
              · refine K_iload_n dX3_set_90 rfl rfl ?_
                refine K_iret dX3_set_91 rfl ?_
                simp only [o_set]
                first | (rw [if_pos ⟨c8, c13, c19⟩]; rw [q1 c13] at r1; exact ⟨rfl, r1, (FX.c0 N).set (by decide)⟩) | (rw [if_neg (fun h => by first | exact c8 h.1 | exact h.2.1 c13 | exact h.2.2 c19), if_pos ⟨c37, c42, c48⟩]; rw [q2 c42] at r2; exact ⟨rfl, r2, (FX.c0 N).set (by decide)⟩) | (rw [if_neg (fun h => by first | exact c8 h.1 | exact h.2.1 c13 | exact h.2.2 c19), if_neg (fun h => by first | exact c37 h.1 | exact h.2.1 c42 | exact h.2.2 c48), if_pos ⟨c66, c70, c77⟩]; rw [nI_back c70] at r3; exact ⟨rfl, r3, (FX.c0 N).set (by decide)⟩) | (rw [if_neg (fun h => by first | exact c8 h.1 | exact h.2.1 c13 | exact h.2.2 c19), if_neg (fun h => by first | exact c37 h.1 | exact h.2.1 c42 | exact h.2.2 c48), if_neg (fun h => by first | exact c66 h.1 | exact h.2.1 c70 | exact h.2.2 c77)]; exact ⟨rfl, R0, FX.c0 N⟩)
              · refine K_iload_n dX3_set_69 rfl rfl ?_
                refine K_if_lt (tgt := 90) dX3_set_70 (by decide) rfl (fun c70 => ?_) (fun c70 => ?_)
                · refine K_iload_n dX3_set_90 rfl rfl ?_
                  refine K_iret dX3_set_91 rfl ?_
                  simp only [o_set]
                  first | (rw [if_pos ⟨c8, c13, c19⟩]; rw [q1 c13] at r1; exact ⟨rfl, r1, (FX.c0 N).set (by decide)⟩) | (rw [if_neg (fun h => by first | exact c8 h.1 | exact h.2.1 c13 | exact h.2.2 c19), if_pos ⟨c37, c42, c48⟩]; rw [q2 c42] at r2; exact ⟨rfl, r2, (FX.c0 N).set (by decide)⟩) | (rw [if_neg (fun h => by first | exact c8 h.1 | exact h.2.1 c13 | exact h.2.2 c19), if_neg (fun h => by first | exact c37 h.1 | exact h.2.1 c42 | exact h.2.2 c48), if_pos ⟨c66, c70, c77⟩]; rw [nI_back c70] at r3; exact ⟨rfl, r3, (FX.c0 N).set (by decide)⟩) | (rw [if_neg (fun h => by first | exact c8 h.1 | exact h.2.1 c13 | exact h.2.2 c19), if_neg (fun h => by first | exact c37 h.1 | exact h.2.1 c42 | exact h.2.2 c48), if_neg (fun h => by first | exact c66 h.1 | exact h.2.1 c70 | exact h.2.2 c77)]; exact ⟨rfl, R0, FX.c0 N⟩)
                · refine K_iload_n dX3_set_73 rfl rfl ?_
                  refine K_sipush (v := nI 500) dX3_set_74 (by decide) rfl ?_
                  refine K_icmp_gt (tgt := 90) dX3_set_77 (by decide) rfl (fun c77 => ?_) (fun c77 => ?_)
                  · refine K_iload_n dX3_set_90 rfl rfl ?_
                    refine K_iret dX3_set_91 rfl ?_
                    simp only [o_set]
                    first | (rw [if_pos ⟨c8, c13, c19⟩]; rw [q1 c13] at r1; exact ⟨rfl, r1, (FX.c0 N).set (by decide)⟩) | (rw [if_neg (fun h => by first | exact c8 h.1 | exact h.2.1 c13 | exact h.2.2 c19), if_pos ⟨c37, c42, c48⟩]; rw [q2 c42] at r2; exact ⟨rfl, r2, (FX.c0 N).set (by decide)⟩) | (rw [if_neg (fun h => by first | exact c8 h.1 | exact h.2.1 c13 | exact h.2.2 c19), if_neg (fun h => by first | exact c37 h.1 | exact h.2.1 c42 | exact h.2.2 c48), if_pos ⟨c66, c70, c77⟩]; rw [nI_back c70] at r3; exact ⟨rfl, r3, (FX.c0 N).set (by decide)⟩) | (rw [if_neg (fun h => by first | exact c8 h.1 | exact h.2.1 c13 | exact h.2.2 c19), if_neg (fun h => by first | exact c37 h.1 | exact h.2.1 c42 | exact h.2.2 c48), if_neg (fun h => by first | exact c66 h.1 | exact h.2.1 c70 | exact h.2.2 c77)]; exact ⟨rfl, R0, FX.c0 N⟩)
                  · refine K_aload_n dX3_set_80 rfl rfl ?_
                    refine K_getI dX3_set_81 fl_X3_58 (by first | rfl | exact sk_rk (by omega) | exact sk_hh (by omega)) rfl (by first | assumption | rfl) rfl ?_
                    refine K_istore_n (lv' := [(0, _), (1, _), (2, _), (3, _)]) dX3_set_84 (by decide) rfl rfl ?_
                    refine K_aload_n dX3_set_85 rfl rfl ?_
                    refine K_iload_n dX3_set_86 rfl rfl ?_
                    refine K_putI dX3_set_87 fl_X3_58 (by first | rfl | exact sk_rk (by omega) | exact sk_hh (by omega)) rfl rfl rfl rfl ?_
                    refine K_iload_n dX3_set_90 rfl rfl ?_
                    refine K_iret dX3_set_91 rfl ?_
                    simp only [o_set]
                    first | (rw [if_pos ⟨c8, c13, c19⟩]; rw [q1 c13] at r1; exact ⟨rfl, r1, (FX.c0 N).set (by decide)⟩) | (rw [if_neg (fun h => by first | exact c8 h.1 | exact h.2.1 c13 | exact h.2.2 c19), if_pos ⟨c37, c42, c48⟩]; rw [q2 c42] at r2; exact ⟨rfl, r2, (FX.c0 N).set (by decide)⟩) | (rw [if_neg (fun h => by first | exact c8 h.1 | exact h.2.1 c13 | exact h.2.2 c19), if_neg (fun h => by first | exact c37 h.1 | exact h.2.1 c42 | exact h.2.2 c48), if_pos ⟨c66, c70, c77⟩]; rw [nI_back c70] at r3; exact ⟨rfl, r3, (FX.c0 N).set (by decide)⟩) | (rw [if_neg (fun h => by first | exact c8 h.1 | exact h.2.1 c13 | exact h.2.2 c19), if_neg (fun h => by first | exact c37 h.1 | exact h.2.1 c42 | exact h.2.2 c48), if_neg (fun h => by first | exact c66 h.1 | exact h.2.1 c70 | exact h.2.2 c77)]; exact ⟨rfl, R0, FX.c0 N⟩)
            · refine K_aload_n dX3_set_51 rfl rfl ?_
              refine K_getI dX3_set_52 fl_X3_55 (by first | rfl | exact sk_rk (by omega) | exact sk_hh (by omega)) rfl (by first | assumption | rfl) rfl ?_
              refine K_istore_n (lv' := [(0, _), (1, _), (2, _), (3, _)]) dX3_set_55 (by decide) rfl rfl ?_
              refine K_aload_n dX3_set_56 rfl rfl ?_
              refine K_iload_n dX3_set_57 rfl rfl ?_
              refine K_putI dX3_set_58 fl_X3_55 (by first | rfl | exact sk_rk (by omega) | exact sk_hh (by omega)) rfl rfl rfl rfl ?_
              refine K_goto (tgt := 90) dX3_set_61 (by decide) ?_
              refine K_iload_n dX3_set_90 rfl rfl ?_
              refine K_iret dX3_set_91 rfl ?_
              simp only [o_set]
              first | (rw [if_pos ⟨c8, c13, c19⟩]; rw [q1 c13] at r1; exact ⟨rfl, r1, (FX.c0 N).set (by decide)⟩) | (rw [if_neg (fun h => by first | exact c8 h.1 | exact h.2.1 c13 | exact h.2.2 c19), if_pos ⟨c37, c42, c48⟩]; rw [q2 c42] at r2; exact ⟨rfl, r2, (FX.c0 N).set (by decide)⟩) | (rw [if_neg (fun h => by first | exact c8 h.1 | exact h.2.1 c13 | exact h.2.2 c19), if_neg (fun h => by first | exact c37 h.1 | exact h.2.1 c42 | exact h.2.2 c48), if_pos ⟨c66, c70, c77⟩]; rw [nI_back c70] at r3; exact ⟨rfl, r3, (FX.c0 N).set (by decide)⟩) | (rw [if_neg (fun h => by first | exact c8 h.1 | exact h.2.1 c13 | exact h.2.2 c19), if_neg (fun h => by first | exact c37 h.1 | exact h.2.1 c42 | exact h.2.2 c48), if_neg (fun h => by first | exact c66 h.1 | exact h.2.1 c70 | exact h.2.2 c77)]; exact ⟨rfl, R0, FX.c0 N⟩)
      · refine K_aload_n dX3_set_22 rfl rfl ?_
        refine K_getI dX3_set_23 fl_X3_52 (by first | rfl | exact sk_rk (by omega) | exact sk_hh (by omega)) rfl (by first | assumption | rfl) rfl ?_
        refine K_istore_n (lv' := [(0, _), (1, _), (2, _), (3, _)]) dX3_set_26 (by decide) rfl rfl ?_
        refine K_aload_n dX3_set_27 rfl rfl ?_
        refine K_iload_n dX3_set_28 rfl rfl ?_
        refine K_putI dX3_set_29 fl_X3_52 (by first | rfl | exact sk_rk (by omega) | exact sk_hh (by omega)) rfl rfl rfl rfl ?_
        refine K_goto (tgt := 90) dX3_set_32 (by decide) ?_
        refine K_iload_n dX3_set_90 rfl rfl ?_
        refine K_iret dX3_set_91 rfl ?_
        simp only [o_set]
        first | (rw [if_pos ⟨c8, c13, c19⟩]; rw [q1 c13] at r1; exact ⟨rfl, r1, (FX.c0 N).set (by decide)⟩) | (rw [if_neg (fun h => by first | exact c8 h.1 | exact h.2.1 c13 | exact h.2.2 c19), if_pos ⟨c37, c42, c48⟩]; rw [q2 c42] at r2; exact ⟨rfl, r2, (FX.c0 N).set (by decide)⟩) | (rw [if_neg (fun h => by first | exact c8 h.1 | exact h.2.1 c13 | exact h.2.2 c19), if_neg (fun h => by first | exact c37 h.1 | exact h.2.1 c42 | exact h.2.2 c48), if_pos ⟨c66, c70, c77⟩]; rw [nI_back c70] at r3; exact ⟨rfl, r3, (FX.c0 N).set (by decide)⟩) | (rw [if_neg (fun h => by first | exact c8 h.1 | exact h.2.1 c13 | exact h.2.2 c19), if_neg (fun h => by first | exact c37 h.1 | exact h.2.1 c42 | exact h.2.2 c48), if_neg (fun h => by first | exact c66 h.1 | exact h.2.1 c70 | exact h.2.2 c77)]; exact ⟨rfl, R0, FX.c0 N⟩)
