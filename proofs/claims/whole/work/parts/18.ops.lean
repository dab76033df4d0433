/-- a chain is paid, its first i steps -/
def trv (S : GS) : Nat → GS
  | 0 => S
  | i + 1 => payG (trv S i) (s_td S i) (s_td S (i + 1)) (nI 1)
theorem trv_n (S : GS) : ∀ i, s_n (trv S i) = s_n S ∧ s_td (trv S i) = s_td S ∧ s_tc (trv S i) = s_tc S
  | 0 => ⟨rfl, rfl, rfl⟩
  | i + 1 => trv_n S i
theorem trv_wf {S : GS} (w : WF S) : ∀ i, i < s_tc S → WF (trv S i)
  | 0, _ => w
  | i + 1, h => by
    have hq := trv_n S i
    exact WF.pay (trv_wf w i (by omega)) (by rw [hq.1]; exact w.2.2.2.2.2.2 i (by omega)) (by rw [hq.1]; exact w.2.2.2.2.2.2 (i + 1) h) _
def o_travel (S : GS) : Int32 × GS := if s_ch S = true then (nI (s_tc S - 1), trv (gC S) (s_tc S - 1)) else (-1, S)
theorem l_X3_travel {d : Nat} (hd : 3 ≤ d) {S : GS} {N0 : Mem} {K : Mej} (w : WF S) : ∀ (k j : Nat) (N : Mem), j + 1 + k = s_tc S → RX (trv S j) N K → FX N0 N → EK d mX3_travel (PRX (nI (s_tc S - 1)) (trv S (s_tc S - 1)) N0) 16 [(0, .ref 0), (1, .int (nI (j + 1)))] [] N K
  | 0, j, N, h, R, F => by
    obtain rfl : j = s_tc S - 1 := by omega
    have ht := w.1.2.2.1
    have hq := trv_n S (s_tc S - 1)
    have h9 := R.1.2.2.1
    rw [hq.2.2] at h9
    refine K_iload_n dX3_travel_16 rfl rfl ?_
    refine K_aload_n dX3_travel_17 rfl rfl ?_
    refine K_getI dX3_travel_18 fl_X3_49 (by first | rfl | exact sk_rk (by omega) | exact sk_hh (by omega)) rfl (by first | assumption | rfl) rfl ?_
    refine K_icmp_geN (tgt := 49) dX3_travel_21 (by decide) rfl (by first | omega | fail) (by first | omega | fail) (fun c21 => ?_) (fun c21 => ?_)
    · refine K_aload_n dX3_travel_49 rfl rfl ?_
      refine K_getI dX3_travel_50 fl_X3_49 (by first | rfl | exact sk_rk (by omega) | exact sk_hh (by omega)) rfl (by first | assumption | rfl) rfl ?_
      refine K_iconst (v := nI 1) dX3_travel_53 (by decide) rfl ?_
      first | refine K_subN dX3_travel_54 (by first | omega | fail) rfl ?_ | refine K_isub dX3_travel_54 rfl ?_
      refine K_iret dX3_travel_55 rfl ?_
      exact ⟨rfl, R, F⟩
    · omega
  | k + 1, j, N, h, R, F => by
    have ih := fun N2 => l_X3_travel (N0 := N0) (K := K) hd w k (j + 1) N2 (by omega)
    have ht := w.1.2.2.1
    have hq := trv_n S j
    have wj := trv_wf w j (by omega)
    have h9 := R.1.2.2.1
    rw [hq.2.2] at h9
    have t1 : N 4 (j + 1 - 1) = nI (s_td S j) := by
      have := R.2.2.2.2.2.1 j (by rw [hq.2.2]; omega)
      rw [hq.2.1] at this
      rw [Nat.add_sub_cancel]
      exact this
    have t2 : N 4 (j + 1) = nI (s_td S (j + 1)) := by
      have := R.2.2.2.2.2.1 (j + 1) (by rw [hq.2.2]; omega)
      rw [hq.2.1] at this
      exact this
    refine K_iload_n dX3_travel_16 rfl rfl ?_
    refine K_aload_n dX3_travel_17 rfl rfl ?_
    refine K_getI dX3_travel_18 fl_X3_49 (by first | rfl | exact sk_rk (by omega) | exact sk_hh (by omega)) rfl (by first | assumption | rfl) rfl ?_
    refine K_icmp_geN (tgt := 49) dX3_travel_21 (by decide) rfl (by first | omega | fail) (by first | omega | fail) (fun c21 => ?_) (fun c21 => ?_)
    · omega
    · refine K_aload_n dX3_travel_24 rfl rfl ?_
      refine K_aload_n dX3_travel_25 rfl rfl ?_
      refine K_getR (r := 4) dX3_travel_26 fl_X3_22 rfl rfl rfl rfl ?_
      refine K_iload_n dX3_travel_29 rfl rfl ?_
      refine K_iconst (v := nI 1) dX3_travel_30 (by decide) rfl ?_
      first | refine K_subN dX3_travel_31 (by first | omega | fail) rfl ?_ | refine K_isub dX3_travel_31 rfl ?_
      refine K_iald dX3_travel_32 (by first | rfl | exact sk_rk (by omega) | exact sk_hh (by omega)) (by first | omega | fail) (by decide) (by first | assumption | rfl) rfl ?_
      refine K_aload_n dX3_travel_33 rfl rfl ?_
      refine K_getR (r := 4) dX3_travel_34 fl_X3_22 rfl rfl rfl rfl ?_
      refine K_iload_n dX3_travel_37 rfl rfl ?_
      refine K_iald dX3_travel_38 (by first | rfl | exact sk_rk (by omega) | exact sk_hh (by omega)) (by first | omega | fail) (by decide) (by first | assumption | rfl) rfl ?_
      refine K_iconst (v := nI 1) dX3_travel_39 (by decide) rfl ?_
      refine K_callV (ci := 3) (d1 := d - 1) [_, _, _] dX3_travel_40 ml_X3_215 (by decide) rfl rfl rfl (Nat.le_of_ble_eq_true rfl) (c_X3_pay (by omega) R wj (by rw [hq.1]; exact w.2.2.2.2.2.2 j (by omega)) (by rw [hq.1]; exact w.2.2.2.2.2.2 (j + 1) (by omega))) (by omega) rfl ?_
      rintro r N2 K2 ⟨z1, R2, F2, z2⟩
      subst z1
      subst z2
      first | refine K_incN (lv' := [(0, _), (1, _)]) dX3_travel_43 rfl (by decide) rfl rfl ?_ | refine K_iinc (lv' := [(0, _), (1, _)]) dX3_travel_43 rfl rfl (by decide) rfl rfl ?_
      refine K_goto (tgt := 16) dX3_travel_46 (by decide) ?_
      exact ih N2 R2 (F.trans F2)
set_option maxRecDepth 100000 in
theorem c_X3_travel {d : Nat} (hd : 3 ≤ d) {S : GS} {N : Mem} {K : Mej} (R : RX S N K) (w : WF S) (hc : s_ch S = true → 1 ≤ s_tc S) : CK d mX3_travel [.ref 0] N K (PRX (o_travel S).1 (o_travel S).2 N) := by
  have h13 := R.1.2.2.2.2.2.2
  cases hs : s_ch S with
  | false =>
    rw [hs] at h13
    refine CK.start [(0, _)] (plainFor_of_name (by decide)) (Nat.le_of_ble_eq_true rfl) rfl ?_
    refine K_aload_n dX3_travel_0 rfl rfl ?_
    refine K_getI dX3_travel_1 fl_X3_61 (by first | rfl | exact sk_rk (by omega) | exact sk_hh (by omega)) rfl (by first | assumption | rfl) rfl ?_
    refine K_if_neB (tgt := 9) dX3_travel_4 (by decide) rfl (fun c4 => ?_) (fun c4 => ?_)
    · cases c4
    · refine K_iconst (v := (-1)) dX3_travel_7 (by decide) rfl ?_
      refine K_iret dX3_travel_8 rfl ?_
      rw [o_travel, hs]
      exact ⟨rfl, R, FX.rf N⟩
  | true =>
    rw [hs] at h13
    have h1 := hc hs
    refine CK.start [(0, _)] (plainFor_of_name (by decide)) (Nat.le_of_ble_eq_true rfl) rfl ?_
    refine K_aload_n dX3_travel_0 rfl rfl ?_
    refine K_getI dX3_travel_1 fl_X3_61 (by first | rfl | exact sk_rk (by omega) | exact sk_hh (by omega)) rfl (by first | assumption | rfl) rfl ?_
    refine K_if_neB (tgt := 9) dX3_travel_4 (by decide) rfl (fun c4 => ?_) (fun c4 => ?_)
    · refine K_aload_n dX3_travel_9 rfl rfl ?_
      refine K_iconst (v := nI 0) dX3_travel_10 (by decide) rfl ?_
      refine K_putZ dX3_travel_11 fl_X3_61 (by first | rfl | exact sk_rk (by omega) | exact sk_hh (by omega)) rfl rfl rfl (by first | exact bI_01 _ | exact Or.inl rfl | exact Or.inr rfl | assumption) rfl ?_
      refine K_iconst (v := nI 1) dX3_travel_14 (by decide) rfl ?_
      refine K_istore_n (lv' := [(0, _), (1, _)]) dX3_travel_15 (by decide) rfl rfl ?_
      rw [o_travel, hs]
      exact l_X3_travel hd (S := gC S) w.c0 (s_tc S - 1) 0 _ (by show 0 + 1 + (s_tc S - 1) = s_tc S; omega) R.c0 (FX.c0 N)
    · cases c4
/-- the plan of a booked year is put back, its first i families' part -/
def unP (S : GS) (y : Nat) : Nat → GS
  | 0 => S
  | i + 1 => gP (unP S y i) 0 i 0 (s_bk S y i)
theorem unP_n (S : GS) (y : Nat) : ∀ i, s_n (unP S y i) = s_n S ∧ s_yr (unP S y i) = s_yr S
  | 0 => ⟨rfl, rfl⟩
  | i + 1 => unP_n S y i
theorem unP_pl (S : GS) (y : Nat) (f : Nat) : ∀ i, s_pl (unP S y i) f = if f < i then s_bk S y f else s_pl S f
  | 0 => by simp [unP]
  | i + 1 => by
    have ih := unP_pl S y f i
    show (if 0 = 0 ∧ f = i ∧ 0 = 0 then s_bk S y i else s_pl (unP S y i) f) = _
    by_cases e : f = i
    · subst e
      simp
    · rw [if_neg (by omega), ih]
      by_cases e2 : f < i
      · rw [if_pos e2, if_pos (by omega)]
      · rw [if_neg e2, if_neg (by omega)]
theorem l_X3_undo {d : Nat} {S : GS} {N0 : Mem} {K : Mej} {Post : PK} {y : Nat} (hy : y < 60) (hyr : s_yr S = y) (goal : ∀ N, RX (unP S y 10) N K → FX N0 N → EK d mX3_undo Post 58 [(0, .ref 0), (1, .int (nI 10))] [] N K) : ∀ (k i : Nat) (N : Mem), i + k = 10 → RX (unP S y i) N K → (∀ f, f < 10 → N 3 (y * 10 + f) = oI (s_bk S y f)) → FX N0 N → EK d mX3_undo Post 26 [(0, .ref 0), (1, .int (nI i))] [] N K
  | 0, i, N, h, R, B, F => by
    obtain rfl : i = 10 := by omega
    refine K_iload_n dX3_undo_26 rfl rfl ?_
    refine K_bipush (v := nI 10) dX3_undo_27 (by decide) rfl ?_
    refine K_icmp_geN (tgt := 58) dX3_undo_29 (by decide) rfl (by first | omega | fail) (by first | omega | fail) (fun c29 => ?_) (fun c29 => ?_)
    · exact goal N R F
    · omega
  | k + 1, i, N, h, R, B, F => by
    have ih := fun N2 => l_X3_undo (d := d) (N0 := N0) (K := K) hy hyr goal k (i + 1) N2 (by omega)
    have h8 := R.1.2.1
    rw [(unP_n S y i).2, hyr] at h8
    have hb := B i (by omega)
    refine K_iload_n dX3_undo_26 rfl rfl ?_
    refine K_bipush (v := nI 10) dX3_undo_27 (by decide) rfl ?_
    refine K_icmp_geN (tgt := 58) dX3_undo_29 (by decide) rfl (by first | omega | fail) (by first | omega | fail) (fun c29 => ?_) (fun c29 => ?_)
    · omega
    · refine K_aload_n dX3_undo_32 rfl rfl ?_
      refine K_getR (r := 2) dX3_undo_33 fl_X3_15 rfl rfl rfl rfl ?_
      refine K_iload_n dX3_undo_36 rfl rfl ?_
      refine K_aload_n dX3_undo_37 rfl rfl ?_
      refine K_getR (r := 3) dX3_undo_38 fl_X3_19 rfl rfl rfl rfl ?_
      refine K_aload_n dX3_undo_41 rfl rfl ?_
      refine K_getI dX3_undo_42 fl_X3_46 (by first | rfl | exact sk_rk (by omega) | exact sk_hh (by omega)) rfl (by first | assumption | rfl) rfl ?_
      refine K_bipush (v := nI 10) dX3_undo_45 (by decide) rfl ?_
      refine K_mulN dX3_undo_47 rfl ?_
      refine K_iload_n dX3_undo_48 rfl rfl ?_
      refine K_addN dX3_undo_49 rfl ?_
      refine K_iald dX3_undo_50 (by first | rfl | exact sk_rk (by omega) | exact sk_hh (by omega)) (by first | omega | fail) (by decide) (by first | assumption | rfl) rfl ?_
      refine K_iast dX3_undo_51 (by first | rfl | exact sk_rk (by omega) | exact sk_hh (by omega)) (by first | omega | fail) (by decide) rfl ?_
      first | refine K_incN (lv' := [(0, _), (1, _)]) dX3_undo_52 rfl (by decide) rfl rfl ?_ | refine K_iinc (lv' := [(0, _), (1, _)]) dX3_undo_52 rfl rfl (by decide) rfl rfl ?_
      refine K_goto (tgt := 26) dX3_undo_55 (by decide) ?_
      exact ih _ (R.pl (f := i) (s_bk S y i)) (fun f hf => by rw [sM_row (by decide)]; exact B f hf) (F.set (by decide))
def unG (S : GS) : GS := unP (gN (gC S) 0 4 (s_yr S - 1)) (s_yr S - 1) 10
theorem unG_wf {S : GS} (w : WF S) (h : s_yr S ≠ 0) : WF (unG S) := by
  have wc := w.c0
  obtain ⟨⟨w11, w12, w13, w14, w15, w16⟩, w2, w3, w4, w5, w6, w7⟩ := wc
  have hb : ∀ f g, f < 10 → s_pl (unG S) f = some g → f < s_n S ∧ g < s_n S ∧ g ≠ f := by
    intro f g hf hg
    unfold unG at hg
    rw [unP_pl, if_pos hf] at hg
    exact w6 (s_yr S - 1) f g (by show s_yr S - 1 < s_yr S; omega) hf hg
  have hwl : ∀ f, s_wl (unG S) f = s_wl (gC S) f := fun f => (show s_wl (gN (gC S) 0 4 (s_yr S - 1)) f = s_wl (gC S) f from wl_gN (by decide))
  refine ⟨⟨w11, ?_, w13, w14, w15, w16⟩, w2, fun f h1 h2 => ?_, fun f k hf hk => by rw [hwl]; exact w4 f k hf hk, hb, fun y f g hy hf hg => ?_, w7⟩
  · show s_yr S - 1 ≤ 60
    have : s_yr S ≤ 60 := w12
    omega
  · obtain ⟨a1, a2, a3, a4, a5, a6, a7, a8, a9⟩ := w3 f h1 h2
    refine ⟨a1, a2, a3, a4, a5, a6, ?_, a8, a9⟩
    cases hq : s_pl (unG S) f with
    | none => rfl
    | some g =>
      have := (hb f g h2 hq).1
      have h3 : s_n S ≤ f := h1
      omega
  · refine w6 y f g ?_ hf hg
    have : y < s_yr S - 1 := hy
    show y < s_yr S
    omega
def o_undo (S : GS) : Int32 × GS := if s_yr S = 0 then (-1, gC S) else (nI (s_yr S - 1), payPl (unG S) (-1) (s_n S))
theorem payPl_yr (S : GS) (sg : Int32) : ∀ i, s_yr (payPl S sg i) = s_yr S
  | 0 => rfl
  | i + 1 => by
    have ih := payPl_yr S sg i
    unfold payPl
    split
    · exact ih
    · exact ih
set_option maxRecDepth 100000 in
theorem c_X3_undo {d : Nat} (hd : 4 ≤ d) {S : GS} {N : Mem} {K : Mej} (R : RX S N K) (w : WF S) : CK d mX3_undo [.ref 0] N K (PRX (o_undo S).1 (o_undo S).2 N) := by
  have R0 := R.c0
  have hy := w.1.2.1
  have h8 : sM N 0 13 (nI 0) 0 8 = nI (s_yr S) := R0.1.2.1
  by_cases hz : s_yr S = 0
  · rw [hz] at h8
    refine CK.start [(0, _)] (plainFor_of_name (by decide)) (Nat.le_of_ble_eq_true rfl) rfl ?_
    refine K_aload_n dX3_undo_0 rfl rfl ?_
    refine K_iconst (v := nI 0) dX3_undo_1 (by decide) rfl ?_
    refine K_putZ dX3_undo_2 fl_X3_61 (by first | rfl | exact sk_rk (by omega) | exact sk_hh (by omega)) rfl rfl rfl (by first | exact bI_01 _ | exact Or.inl rfl | exact Or.inr rfl | assumption) rfl ?_
    refine K_aload_n dX3_undo_5 rfl rfl ?_
    refine K_getI dX3_undo_6 fl_X3_46 (by first | rfl | exact sk_rk (by omega) | exact sk_hh (by omega)) rfl (by first | assumption | rfl) rfl ?_
    refine K_if_neN (tgt := 14) dX3_undo_9 (by decide) rfl (by first | omega | fail) (fun c9 => ?_) (fun c9 => ?_)
    · exact absurd rfl c9
    · refine K_iconst (v := (-1)) dX3_undo_12 (by decide) rfl ?_
      refine K_iret dX3_undo_13 rfl ?_
      rw [o_undo, if_pos hz]
      exact ⟨rfl, R0, FX.c0 N⟩
  · have R1 := R0.sc8 (s_yr S - 1) (fun y f hy2 hf => R0.2.2.2.2.1 y f (by show y < s_yr S; omega) hf)
    have B1 : ∀ f, f < 10 → sM (sM N 0 13 (nI 0)) 0 8 (nI (s_yr S - 1)) 3 ((s_yr S - 1) * 10 + f) = oI (s_bk S (s_yr S - 1) f) := fun f hf => R0.2.2.2.2.1 (s_yr S - 1) f (by show s_yr S - 1 < s_yr S; omega) hf
    have wg := unG_wf w hz
    rw [o_undo, if_neg hz]
    have fin : ∀ N2, RX (unG S) N2 K → FX N N2 → EK d mX3_undo (PRX (nI (s_yr S - 1)) (payPl (unG S) (-1) (s_n S)) N) 58 [(0, .ref 0), (1, .int (nI 10))] [] N2 K := by
      intro N2 R2 F2
      refine K_aload_n dX3_undo_58 rfl rfl ?_
      refine K_iconst (v := (-1)) dX3_undo_59 (by decide) rfl ?_
      refine K_callV (ci := 3) (d1 := d - 1) [_] dX3_undo_60 ml_X3_219 (by decide) rfl rfl rfl (Nat.le_of_ble_eq_true rfl) (c_X3_payPlan (by omega) R2 wg) (by omega) rfl ?_
      rintro r N3 K3 ⟨z1, R3, F3, z2⟩
      subst z1
      subst z2
      have h83 := R3.1.2.1
      rw [payPl_yr] at h83
      have h84 : N3 0 8 = nI (s_yr S - 1) := h83
      clear h83
      refine K_aload_n dX3_undo_63 rfl rfl ?_
      refine K_getI dX3_undo_64 fl_X3_46 (by first | rfl | exact sk_rk (by omega) | exact sk_hh (by omega)) rfl (by first | assumption | rfl) rfl ?_
      refine K_iret dX3_undo_67 rfl ?_
      exact ⟨rfl, R3, F2.trans F3⟩
    refine CK.start [(0, _)] (plainFor_of_name (by decide)) (Nat.le_of_ble_eq_true rfl) rfl ?_
    refine K_aload_n dX3_undo_0 rfl rfl ?_
    refine K_iconst (v := nI 0) dX3_undo_1 (by decide) rfl ?_
    refine K_putZ dX3_undo_2 fl_X3_61 (by first | rfl | exact sk_rk (by omega) | exact sk_hh (by omega)) rfl rfl rfl (by first | exact bI_01 _ | exact Or.inl rfl | exact Or.inr rfl | assumption) rfl ?_
    refine K_aload_n dX3_undo_5 rfl rfl ?_
    refine K_getI dX3_undo_6 fl_X3_46 (by first | rfl | exact sk_rk (by omega) | exact sk_hh (by omega)) rfl (by first | assumption | rfl) rfl ?_
    refine K_if_neN (tgt := 14) dX3_undo_9 (by decide) rfl (by first | omega | fail) (fun c9 => ?_) (fun c9 => ?_)
    · refine K_aload_n dX3_undo_14 rfl rfl ?_
      refine K_dup dX3_undo_15 rfl rfl ?_
      refine K_getI dX3_undo_16 fl_X3_46 (by first | rfl | exact sk_rk (by omega) | exact sk_hh (by omega)) rfl (by first | assumption | rfl) rfl ?_
      refine K_iconst (v := nI 1) dX3_undo_19 (by decide) rfl ?_
      first | refine K_subN dX3_undo_20 (by first | omega | fail) rfl ?_ | refine K_isub dX3_undo_20 rfl ?_
      refine K_putI dX3_undo_21 fl_X3_46 (by first | rfl | exact sk_rk (by omega) | exact sk_hh (by omega)) rfl rfl rfl rfl ?_
      refine K_iconst (v := nI 0) dX3_undo_24 (by decide) rfl ?_
      refine K_istore_n (lv' := [(0, _), (1, _)]) dX3_undo_25 (by decide) rfl rfl ?_
      exact l_X3_undo (S := gN (gC S) 0 4 (s_yr S - 1)) (y := s_yr S - 1) (by omega) rfl fin 10 0 _ rfl R1 B1 (((FX.rf N).set (by decide)).set (by decide))
    · exact absurd c9 hz
