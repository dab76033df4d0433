def famOk (S : GS) (k b p : Int32) : Bool := decide (¬ k < 0 ∧ ¬ nI 4 ≤ k ∧ (¬ b < nI 1 ∧ ¬ nI 9 < b) ∧ (¬ p < nI 1 ∧ ¬ nI 9 < p) ∧ s_n S < 10)
def famG (S : GS) (k b p : Nat) (pet : Bool) : GS := gN (gB (gN (gN (gN S 1 (s_n S) k) 2 (s_n S) b) 3 (s_n S) p) 0 (s_n S) 0 pet) 0 0 (s_n S + 1)
def o_family (S : GS) (k b p : Int32) (pet : Bool) : Int32 × GS := if famOk S k b p = true then (nI (s_n S), famG (gC S) k.toNatClampNeg b.toNatClampNeg p.toNatClampNeg pet) else (-1, gC S)
set_option maxRecDepth 100000 in
theorem c_X3_family {d : Nat} (hd : 1 ≤ d) {S : GS} {N : Mem} {K : Mej} (R : RX S N K) (w : WF S) {k b p : Int32} {pet : Bool} : CK d mX3_family [.ref 0, .int k, .int b, .int p, .int (bI pet)] N K (PRX (o_family S k b p pet).1 (o_family S k b p pet).2 N) := by
  have hn := w.1.1
  have R0 := R.c0
  have h7 : sM N 0 13 (nI 0) 0 7 = nI (s_n S) := R0.1.1
  by_cases hok : ¬ k < 0 ∧ ¬ nI 4 ≤ k ∧ (¬ b < nI 1 ∧ ¬ nI 9 < b) ∧ (¬ p < nI 1 ∧ ¬ nI 9 < p) ∧ s_n S < 10
  · obtain ⟨hk0, hk4, hb, hp, hn9⟩ := id hok
    have ek := nI_back hk0
    have eb := nI_back (nlt0 (by decide) hb.1)
    have ep := nI_back (nlt0 (by decide) hp.1)
    have R1 := (((R0.h2 (f := s_n S) hn9 k.toNatClampNeg).h3 (f := s_n S) hn9 b.toNatClampNeg).h4 (f := s_n S) hn9 p.toNatClampNeg).h5 (f := s_n S) hn9 pet
    rw [ek, eb, ep] at R1
    have h7b : sM (sM (sM (sM (sM N 0 13 (nI 0)) (20 + s_n S) 2 k) (20 + s_n S) 3 b) (20 + s_n S) 4 p) (20 + s_n S) 5 (bI pet) 0 7 = nI (s_n S) := R1.1.1
    have R2 := R1.sc7 (s_n S + 1)
    have h7c : sM (sM (sM (sM (sM (sM N 0 13 (nI 0)) (20 + s_n S) 2 k) (20 + s_n S) 3 b) (20 + s_n S) 4 p) (20 + s_n S) 5 (bI pet)) 0 7 (nI (s_n S + 1)) 0 7 = nI (s_n S + 1) := sM_eq _ _ _ _
    have tb : decide (¬ b < nI 1 ∧ ¬ nI 9 < b) = true := decide_eq_true hb
    have tp : decide (¬ p < nI 1 ∧ ¬ nI 9 < p) = true := decide_eq_true hp
    refine CK.start [(0, _), (1, _), (2, _), (3, _), (4, _)] (plainFor_of_name (by decide)) (Nat.le_of_ble_eq_true rfl) rfl ?_
    refine K_aload_n dX3_family_0 rfl rfl ?_
    refine K_iconst (v := nI 0) dX3_family_1 (by decide) rfl ?_
    refine K_putZ dX3_family_2 fl_X3_61 (by first | rfl | exact sk_rk (by omega) | exact sk_hh (by omega)) rfl rfl rfl (by first | exact bI_01 _ | exact Or.inl rfl | exact Or.inr rfl | assumption) rfl ?_
    refine K_iload_n dX3_family_5 rfl rfl ?_
    refine K_if_lt (tgt := 32) dX3_family_6 (by decide) rfl (fun c6 => ?_) (fun c6 => ?_)
    · exact absurd c6 hk0
    · refine K_iload_n dX3_family_9 rfl rfl ?_
      refine K_iconst (v := nI 4) dX3_family_10 (by decide) rfl ?_
      refine K_icmp_ge (tgt := 32) dX3_family_11 (by decide) rfl (fun c11 => ?_) (fun c11 => ?_)
      · exact absurd c11 hk4
      · refine K_iload_n dX3_family_14 rfl rfl ?_
        refine K_sv (d1 := d - 1) [_] dX3_family_15 ml_X3_66 rfl rfl (Nat.le_of_ble_eq_true rfl) c_X3_isOneToNine (by omega) rfl ?_
        refine K_if_eqB (tgt := 32) dX3_family_18 (by decide) rfl (fun c18 => ?_) (fun c18 => ?_)
        · rw [tb] at c18; cases c18
        · refine K_iload_n dX3_family_21 rfl rfl ?_
          refine K_sv (d1 := d - 1) [_] dX3_family_22 ml_X3_66 rfl rfl (Nat.le_of_ble_eq_true rfl) c_X3_isOneToNine (by omega) rfl ?_
          refine K_if_eqB (tgt := 32) dX3_family_25 (by decide) rfl (fun c25 => ?_) (fun c25 => ?_)
          · rw [tp] at c25; cases c25
          · refine K_iconst (v := nI 1) dX3_family_28 (by decide) rfl ?_
            refine K_goto (tgt := 33) dX3_family_29 (by decide) ?_
            refine K_istore (lv' := [(0, _), (1, _), (2, _), (3, _), (4, _), (5, _)]) dX3_family_33 (by decide) rfl rfl ?_
            refine K_iload dX3_family_35 rfl rfl ?_
            refine K_if_eqN (tgt := 49) dX3_family_37 (by decide) rfl (by first | omega | fail) (fun c37 => ?_) (fun c37 => ?_)
            · exact absurd c37 (by decide)
            · refine K_aload_n dX3_family_40 rfl rfl ?_
              refine K_getI dX3_family_41 fl_X3_42 (by first | rfl | exact sk_rk (by omega) | exact sk_hh (by omega)) rfl (by first | assumption | rfl) rfl ?_
              refine K_bipush (v := nI 10) dX3_family_44 (by decide) rfl ?_
              refine K_icmp_ltN (tgt := 51) dX3_family_46 (by decide) rfl (by first | omega | fail) (by first | omega | fail) (fun c46 => ?_) (fun c46 => ?_)
              · refine K_aload_n dX3_family_51 rfl rfl ?_
                refine K_getR (r := 1) dX3_family_52 fl_X3_11 rfl rfl rfl rfl ?_
                refine K_aload_n dX3_family_55 rfl rfl ?_
                refine K_getI dX3_family_56 fl_X3_42 (by first | rfl | exact sk_rk (by omega) | exact sk_hh (by omega)) rfl (by first | assumption | rfl) rfl ?_
                refine K_hh dX3_family_59 (by first | omega | fail) rfl ?_
                refine K_iload_n dX3_family_60 rfl rfl ?_
                refine K_iload_n dX3_family_61 rfl rfl ?_
                refine K_iload_n dX3_family_62 rfl rfl ?_
                refine K_iload dX3_family_63 rfl rfl ?_
                refine K_c0 (ci := 0) (d1 := d - 1) [_, _, _, _] dX3_family_65 ml_X3_70 (by decide) (sk_hh (by omega)) rfl rfl (Nat.le_of_ble_eq_true rfl) (c_X0_moveIn hn9) (by omega) rfl ?_
                refine K_aload_n dX3_family_68 rfl rfl ?_
                refine K_dup dX3_family_69 rfl rfl ?_
                refine K_getI dX3_family_70 fl_X3_42 (by first | rfl | exact sk_rk (by omega) | exact sk_hh (by omega)) rfl (by first | assumption | rfl) rfl ?_
                refine K_iconst (v := nI 1) dX3_family_73 (by decide) rfl ?_
                refine K_addN dX3_family_74 rfl ?_
                refine K_putI dX3_family_75 fl_X3_42 (by first | rfl | exact sk_rk (by omega) | exact sk_hh (by omega)) rfl rfl rfl rfl ?_
                refine K_aload_n dX3_family_78 rfl rfl ?_
                refine K_getI dX3_family_79 fl_X3_42 (by first | rfl | exact sk_rk (by omega) | exact sk_hh (by omega)) rfl (by first | assumption | rfl) rfl ?_
                refine K_iconst (v := nI 1) dX3_family_82 (by decide) rfl ?_
                first | refine K_subN dX3_family_83 (by first | omega | fail) rfl ?_ | refine K_isub dX3_family_83 rfl ?_
                refine K_iret dX3_family_84 rfl ?_
                rw [o_family, show famOk S k b p = true from decide_eq_true hok, if_pos rfl]
                exact ⟨rfl, R2, (((((FX.c0 N).set (by omega)).set (by omega)).set (by omega)).set (by omega)).set (by decide)⟩
              · omega
  · have hf : famOk S k b p = false := decide_eq_false hok
    have h0 : EK d mX3_family (PRX (o_family S k b p pet).1 (o_family S k b p pet).2 N) 35 [(0, .ref 0), (1, .int k), (2, .int b), (3, .int p), (4, .int (bI pet)), (5, .int (nI 0))] [] (sM N 0 13 (nI 0)) K := by
      refine K_iload dX3_family_35 rfl rfl ?_
      refine K_if_eqN (tgt := 49) dX3_family_37 (by decide) rfl (by first | omega | fail) (fun c37 => ?_) (fun c37 => ?_)
      · refine K_iconst (v := (-1)) dX3_family_49 (by decide) rfl ?_
        refine K_iret dX3_family_50 rfl ?_
        rw [o_family, hf]
        exact ⟨rfl, R0, FX.c0 N⟩
      · exact absurd rfl c37
    have h1 : ¬ s_n S < 10 → EK d mX3_family (PRX (o_family S k b p pet).1 (o_family S k b p pet).2 N) 35 [(0, .ref 0), (1, .int k), (2, .int b), (3, .int p), (4, .int (bI pet)), (5, .int (nI 1))] [] (sM N 0 13 (nI 0)) K := by
      intro hge
      refine K_iload dX3_family_35 rfl rfl ?_
      refine K_if_eqN (tgt := 49) dX3_family_37 (by decide) rfl (by first | omega | fail) (fun c37 => ?_) (fun c37 => ?_)
      · exact absurd c37 (by decide)
      · refine K_aload_n dX3_family_40 rfl rfl ?_
        refine K_getI dX3_family_41 fl_X3_42 (by first | rfl | exact sk_rk (by omega) | exact sk_hh (by omega)) rfl (by first | assumption | rfl) rfl ?_
        refine K_bipush (v := nI 10) dX3_family_44 (by decide) rfl ?_
        refine K_icmp_ltN (tgt := 51) dX3_family_46 (by decide) rfl (by first | omega | fail) (by first | omega | fail) (fun c46 => ?_) (fun c46 => ?_)
        · omega
        · refine K_iconst (v := (-1)) dX3_family_49 (by decide) rfl ?_
          refine K_iret dX3_family_50 rfl ?_
          rw [o_family, hf]
          exact ⟨rfl, R0, FX.c0 N⟩
    refine CK.start [(0, _), (1, _), (2, _), (3, _), (4, _)] (plainFor_of_name (by decide)) (Nat.le_of_ble_eq_true rfl) rfl ?_
    refine K_aload_n dX3_family_0 rfl rfl ?_
    refine K_iconst (v := nI 0) dX3_family_1 (by decide) rfl ?_
    refine K_putZ dX3_family_2 fl_X3_61 (by first | rfl | exact sk_rk (by omega) | exact sk_hh (by omega)) rfl rfl rfl (by first | exact bI_01 _ | exact Or.inl rfl | exact Or.inr rfl | assumption) rfl ?_
    refine K_iload_n dX3_family_5 rfl rfl ?_
    refine K_if_lt (tgt := 32) dX3_family_6 (by decide) rfl (fun c6 => ?_) (fun c6 => ?_)
    · refine K_iconst (v := nI 0) dX3_family_32 (by decide) rfl ?_
      refine K_istore (lv' := [(0, _), (1, _), (2, _), (3, _), (4, _), (5, _)]) dX3_family_33 (by decide) rfl rfl ?_
      first | exact h0 | exact h1 (fun h => hok ⟨c6, c11, of_decide_eq_true c18, of_decide_eq_true c25, h⟩)
    · refine K_iload_n dX3_family_9 rfl rfl ?_
      refine K_iconst (v := nI 4) dX3_family_10 (by decide) rfl ?_
      refine K_icmp_ge (tgt := 32) dX3_family_11 (by decide) rfl (fun c11 => ?_) (fun c11 => ?_)
      · refine K_iconst (v := nI 0) dX3_family_32 (by decide) rfl ?_
        refine K_istore (lv' := [(0, _), (1, _), (2, _), (3, _), (4, _), (5, _)]) dX3_family_33 (by decide) rfl rfl ?_
        first | exact h0 | exact h1 (fun h => hok ⟨c6, c11, of_decide_eq_true c18, of_decide_eq_true c25, h⟩)
      · refine K_iload_n dX3_family_14 rfl rfl ?_
        refine K_sv (d1 := d - 1) [_] dX3_family_15 ml_X3_66 rfl rfl (Nat.le_of_ble_eq_true rfl) c_X3_isOneToNine (by omega) rfl ?_
        refine K_if_eqB (tgt := 32) dX3_family_18 (by decide) rfl (fun c18 => ?_) (fun c18 => ?_)
        · refine K_iconst (v := nI 0) dX3_family_32 (by decide) rfl ?_
          refine K_istore (lv' := [(0, _), (1, _), (2, _), (3, _), (4, _), (5, _)]) dX3_family_33 (by decide) rfl rfl ?_
          first | exact h0 | exact h1 (fun h => hok ⟨c6, c11, of_decide_eq_true c18, of_decide_eq_true c25, h⟩)
        · refine K_iload_n dX3_family_21 rfl rfl ?_
          refine K_sv (d1 := d - 1) [_] dX3_family_22 ml_X3_66 rfl rfl (Nat.le_of_ble_eq_true rfl) c_X3_isOneToNine (by omega) rfl ?_
          refine K_if_eqB (tgt := 32) dX3_family_25 (by decide) rfl (fun c25 => ?_) (fun c25 => ?_)
          · refine K_iconst (v := nI 0) dX3_family_32 (by decide) rfl ?_
            refine K_istore (lv' := [(0, _), (1, _), (2, _), (3, _), (4, _), (5, _)]) dX3_family_33 (by decide) rfl rfl ?_
            first | exact h0 | exact h1 (fun h => hok ⟨c6, c11, of_decide_eq_true c18, of_decide_eq_true c25, h⟩)
          · refine K_iconst (v := nI 1) dX3_family_28 (by decide) rfl ?_
            refine K_goto (tgt := 33) dX3_family_29 (by decide) ?_
            refine K_istore (lv' := [(0, _), (1, _), (2, _), (3, _), (4, _), (5, _)]) dX3_family_33 (by decide) rfl rfl ?_
            first | exact h0 | exact h1 (fun h => hok ⟨c6, c11, of_decide_eq_true c18, of_decide_eq_true c25, h⟩)
/-- the points move; nothing else does -/
theorem WF.po {S : GS} (w : WF S) {f : Nat} (hf : f < s_n S) (v : Int32) : WF (gZ S f v) := by
  obtain ⟨w1, w2, w3, w4, w5, w6, w7⟩ := w
  refine ⟨w1, w2, fun g h1 h2 => ?_, w4, w5, w6, w7⟩
  obtain ⟨a1, a2, a3, a4, a5, a6, a7, a8, a9⟩ := w3 g h1 h2
  have h1' : s_n S ≤ g := h1
  exact ⟨a1, a2, a3, a4, a5, a6, a7, by show (if g = f then v else s_po S g) = 0; rw [if_neg (by omega)]; exact a8, a9⟩
theorem WF.pay {S : GS} (w : WF S) {a b : Nat} (ha : a < s_n S) (hb : b < s_n S) (sg : Int32) : WF (payG S a b sg) := WF.po (WF.po w ha _) hb _
/-- the plan is paid, the first i families' part -/
def payPl (S : GS) (sg : Int32) : Nat → GS
  | 0 => S
  | i + 1 => match s_pl S i with
    | none => payPl S sg i
    | some g => payG (payPl S sg i) i g sg
theorem payPl_n (S : GS) (sg : Int32) : ∀ i, s_n (payPl S sg i) = s_n S ∧ s_pl (payPl S sg i) = s_pl S
  | 0 => ⟨rfl, rfl⟩
  | i + 1 => by
    have ih := payPl_n S sg i
    unfold payPl
    split
    · exact ih
    · exact ih
theorem payPl_wf {S : GS} (w : WF S) (sg : Int32) : ∀ i, i ≤ s_n S → WF (payPl S sg i)
  | 0, _ => w
  | i + 1, hi => by
    have ih := payPl_wf w sg i (by omega)
    have hq := payPl_n S sg i
    have hn := w.1.1
    unfold payPl
    split
    · exact ih
    · next g hg =>
      have h := w.2.2.2.2.1 i g (by omega) hg
      exact WF.pay ih (by rw [hq.1]; omega) (by rw [hq.1]; exact h.2.1) sg
theorem payPl_no {S : GS} {sg : Int32} {i : Nat} (h : s_pl S i = none) : payPl S sg (i + 1) = payPl S sg i := by
  show (match s_pl S i with | none => payPl S sg i | some g => payG (payPl S sg i) i g sg) = _
  rw [h]
theorem payPl_go {S : GS} {sg : Int32} {i g : Nat} (h : s_pl S i = some g) : payPl S sg (i + 1) = payG (payPl S sg i) i g sg := by
  show (match s_pl S i with | none => payPl S sg i | some g => payG (payPl S sg i) i g sg) = _
  rw [h]
theorem l_X3_payPlan {d : Nat} (hd : 3 ≤ d) {S : GS} {N0 : Mem} {K : Mej} {sg : Int32} (w : WF S) : ∀ (k i : Nat) (N : Mem), i + k = s_n S → RX (payPl S sg i) N K → FX N0 N → EK d mX3_payPlan (fun r N2 K2 => r = none ∧ RX (payPl S sg (s_n S)) N2 K2 ∧ FX N0 N2 ∧ K2 = K) 2 [(0, .ref 0), (1, .int sg), (2, .int (nI i))] [] N K
  | 0, i, N, h, R, F => by
    obtain rfl : i = s_n S := by omega
    have hn := w.1.1
    have hq := payPl_n S sg (s_n S)
    have h0 := R.1.1
    rw [hq.1] at h0
    refine K_iload_n dX3_payPlan_2 rfl rfl ?_
    refine K_aload_n dX3_payPlan_3 rfl rfl ?_
    refine K_getI dX3_payPlan_4 fl_X3_42 (by first | rfl | exact sk_rk (by omega) | exact sk_hh (by omega)) rfl (by first | assumption | rfl) rfl ?_
    refine K_icmp_geN (tgt := 38) dX3_payPlan_7 (by decide) rfl (by first | omega | fail) (by first | omega | fail) (fun c7 => ?_) (fun c7 => ?_)
    · refine K_ret dX3_payPlan_38 rfl ?_
      exact ⟨rfl, R, F, rfl⟩
    · omega
  | k + 1, i, N, h, R, F => by
    have ih := fun N2 => l_X3_payPlan (N0 := N0) (K := K) (sg := sg) hd w k (i + 1) N2 (by omega)
    have hn := w.1.1
    have hq := payPl_n S sg i
    have wi := payPl_wf w sg i (by omega)
    have h0 := R.1.1
    rw [hq.1] at h0
    have hp := R.2.2.2.1 i (by omega)
    rw [hq.2] at hp
    cases hs : s_pl S i with
    | none =>
      rw [hs] at hp
      have hp2 : N 2 i = -1 := hp
      clear hp
      refine K_iload_n dX3_payPlan_2 rfl rfl ?_
      refine K_aload_n dX3_payPlan_3 rfl rfl ?_
      refine K_getI dX3_payPlan_4 fl_X3_42 (by first | rfl | exact sk_rk (by omega) | exact sk_hh (by omega)) rfl (by first | assumption | rfl) rfl ?_
      refine K_icmp_geN (tgt := 38) dX3_payPlan_7 (by decide) rfl (by first | omega | fail) (by first | omega | fail) (fun c7 => ?_) (fun c7 => ?_)
      · omega
      · refine K_aload_n dX3_payPlan_10 rfl rfl ?_
        refine K_getR (r := 2) dX3_payPlan_11 fl_X3_15 rfl rfl rfl rfl ?_
        refine K_iload_n dX3_payPlan_14 rfl rfl ?_
        refine K_iald dX3_payPlan_15 (by first | rfl | exact sk_rk (by omega) | exact sk_hh (by omega)) (by first | omega | fail) (by decide) (by first | assumption | rfl) rfl ?_
        refine K_iconst (v := (-1)) dX3_payPlan_16 (by decide) rfl ?_
        refine K_icmp_eq (tgt := 32) dX3_payPlan_17 (by decide) rfl (fun c17 => ?_) (fun c17 => ?_)
        · first | refine K_incN (lv' := [(0, _), (1, _), (2, _)]) dX3_payPlan_32 rfl (by decide) rfl rfl ?_ | refine K_iinc (lv' := [(0, _), (1, _), (2, _)]) dX3_payPlan_32 rfl rfl (by decide) rfl rfl ?_
          refine K_goto (tgt := 2) dX3_payPlan_35 (by decide) ?_
          exact ih N (by rw [payPl_no hs]; exact R) F
        · exact absurd rfl c17
    | some g =>
      rw [hs] at hp
      obtain ⟨b1, b2, b3⟩ := w.2.2.2.2.1 i g (by omega) hs
      have hp2 : N 2 i = nI g := hp
      clear hp
      refine K_iload_n dX3_payPlan_2 rfl rfl ?_
      refine K_aload_n dX3_payPlan_3 rfl rfl ?_
      refine K_getI dX3_payPlan_4 fl_X3_42 (by first | rfl | exact sk_rk (by omega) | exact sk_hh (by omega)) rfl (by first | assumption | rfl) rfl ?_
      refine K_icmp_geN (tgt := 38) dX3_payPlan_7 (by decide) rfl (by first | omega | fail) (by first | omega | fail) (fun c7 => ?_) (fun c7 => ?_)
      · omega
      · refine K_aload_n dX3_payPlan_10 rfl rfl ?_
        refine K_getR (r := 2) dX3_payPlan_11 fl_X3_15 rfl rfl rfl rfl ?_
        refine K_iload_n dX3_payPlan_14 rfl rfl ?_
        refine K_iald dX3_payPlan_15 (by first | rfl | exact sk_rk (by omega) | exact sk_hh (by omega)) (by first | omega | fail) (by decide) (by first | assumption | rfl) rfl ?_
        refine K_iconst (v := (-1)) dX3_payPlan_16 (by decide) rfl ?_
        refine K_icmp_eq (tgt := 32) dX3_payPlan_17 (by decide) rfl (fun c17 => ?_) (fun c17 => ?_)
        · exact absurd c17 (nI_neg1 (by omega))
        · refine K_aload_n dX3_payPlan_20 rfl rfl ?_
          refine K_iload_n dX3_payPlan_21 rfl rfl ?_
          refine K_aload_n dX3_payPlan_22 rfl rfl ?_
          refine K_getR (r := 2) dX3_payPlan_23 fl_X3_15 rfl rfl rfl rfl ?_
          refine K_iload_n dX3_payPlan_26 rfl rfl ?_
          refine K_iald dX3_payPlan_27 (by first | rfl | exact sk_rk (by omega) | exact sk_hh (by omega)) (by first | omega | fail) (by decide) (by first | assumption | rfl) rfl ?_
          refine K_iload_n dX3_payPlan_28 rfl rfl ?_
          refine K_callV (ci := 3) (d1 := d - 1) [_, _, _] dX3_payPlan_29 ml_X3_215 (by decide) rfl rfl rfl (Nat.le_of_ble_eq_true rfl) (c_X3_pay (by omega) R wi (by rw [hq.1]; exact b1) (by rw [hq.1]; exact b2)) (by omega) rfl ?_
          rintro r N2 K2 ⟨z1, R2, F2, z2⟩
          subst z1
          subst z2
          first | refine K_incN (lv' := [(0, _), (1, _), (2, _)]) dX3_payPlan_32 rfl (by decide) rfl rfl ?_ | refine K_iinc (lv' := [(0, _), (1, _), (2, _)]) dX3_payPlan_32 rfl rfl (by decide) rfl rfl ?_
          refine K_goto (tgt := 2) dX3_payPlan_35 (by decide) ?_
          exact ih N2 (by rw [payPl_go hs]; exact R2) (F.trans F2)
set_option maxRecDepth 100000 in
theorem c_X3_payPlan {d : Nat} (hd : 3 ≤ d) {S : GS} {N : Mem} {K : Mej} {sg : Int32} (R : RX S N K) (w : WF S) : CK d mX3_payPlan [.ref 0, .int sg] N K (fun r N2 K2 => r = none ∧ RX (payPl S sg (s_n S)) N2 K2 ∧ FX N N2 ∧ K2 = K) := by
  refine CK.start [(0, _), (1, _)] (plainFor_of_name (by decide)) (Nat.le_of_ble_eq_true rfl) rfl ?_
  refine K_iconst (v := nI 0) dX3_payPlan_0 (by decide) rfl ?_
  refine K_istore_n (lv' := [(0, _), (1, _), (2, _)]) dX3_payPlan_1 (by decide) rfl rfl ?_
  exact l_X3_payPlan hd w (s_n S) 0 N (by omega) R (FX.rf N)
