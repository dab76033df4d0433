theorem gN8_wc (S : GS) (f v f2 : Nat) : s_wc (gN S 8 f v) f2 = if f2 = f then v else s_wc S f2 := by
  show (if 8 = 8 ∧ f2 = f then v else S.1 8 f2) = _
  by_cases e : f2 = f
  · rw [if_pos ⟨rfl, e⟩, if_pos e]
  · rw [if_neg (fun z => e z.2), if_neg e]
    rfl
theorem drop_rk (S : GS) (f f2 g : Nat) : s_rk (gN S 8 f 0) f2 g = if f2 = f then 0 else s_rk S f2 g := by
  unfold s_rk
  rw [wl_gN (by decide), gN8_wc]
  by_cases e : f2 = f
  · rw [if_pos e, if_pos e]
    rfl
  · rw [if_neg e, if_neg e]
theorem RX.drop {S : GS} {N : Mem} {K : Mej} (R : RX S N K) {f : Nat} (hf : f < 10) : RX (gN S 8 f 0) (fillM (sM N (20 + f) 1 (nI 0)) (30 + f) 10 (nI 0)) K := by
  have hr : ∀ i, i ≠ 20 + f → i ≠ 30 + f → fillM (sM N (20 + f) 1 (nI 0)) (30 + f) 10 (nI 0) i = N i := fun i h1 h2 => (fillM_row h2).trans (sM_row h1)
  refine ⟨?_, fun f2 hf2 => ?_, fun f2 g2 hf2 hg2 => ?_, fun f2 hf2 => ?_, fun y f2 hy hf2 => ?_, fun i hi => ?_, R.2.2.2.2.2.2⟩
  · rw [hr 0 (by omega) (by omega)]
    exact R.1
  · obtain ⟨b1, b2, b3, b4, b5, b6, b7, b8, b9, b10, b11, b12⟩ := R.2.1 f2 hf2
    rw [fillM_row (show 20 + f2 ≠ 30 + f by omega)]
    have ne : ∀ j, j ≠ 1 → sM N (20 + f) 1 (nI 0) (20 + f2) j = N (20 + f2) j := fun j hj => sM_ne (Or.inr hj)
    refine ⟨?_, (ne 2 (by decide)).trans b2, (ne 3 (by decide)).trans b3, (ne 4 (by decide)).trans b4, (ne 5 (by decide)).trans b5, (ne 6 (by decide)).trans b6, (ne 7 (by decide)).trans b7, (ne 8 (by decide)).trans b8, (ne 9 (by decide)).trans b9, (ne 10 (by decide)).trans b10, ?_, (ne 12 (by decide)).trans b12⟩
    · rw [gN8_wc]
      by_cases e : f2 = f
      · subst e
        rw [if_pos rfl]
        exact sM_eq _ _ _ _
      · rw [if_neg e, sM_ne (Or.inl (by omega))]
        exact b1
    · obtain ⟨m, hm, e11, hb⟩ := b11
      exact ⟨m, hm, (ne 11 (by decide)).trans e11, hb⟩
  · rw [drop_rk]
    by_cases e : f2 = f
    · subst e
      rw [if_pos rfl]
      show (if 30 + f2 = 30 + f2 ∧ g2 < 10 then nI 0 else _) = _
      rw [if_pos ⟨rfl, hg2⟩]
    · rw [if_neg e, hr (30 + f2) (by omega) (by omega)]
      exact R.2.2.1 f2 g2 hf2 hg2
  · rw [hr 2 (by omega) (by omega)]; exact R.2.2.2.1 f2 hf2
  · rw [hr 3 (by omega) (by omega)]; exact R.2.2.2.2.1 y f2 hy hf2
  · rw [hr 4 (by omega) (by omega)]; exact R.2.2.2.2.2.1 i hi
theorem WF.drop {S : GS} (w : WF S) {f : Nat} : WF (gN S 8 f 0) := by
  obtain ⟨w1, w2, w3, w4, w5, w6, w7⟩ := w
  refine ⟨w1, w2, fun f2 h1 h2 => ?_, fun f2 k hf2 hk => ?_, w5, w6, w7⟩
  · obtain ⟨a1, a2, a3, a4, a5, a6, a7, a8, a9⟩ := w3 f2 h1 h2
    refine ⟨?_, a2, a3, a4, a5, a6, a7, a8, a9⟩
    rw [gN8_wc]
    split
    · rfl
    · exact a1
  · rw [gN8_wc] at hk
    rw [wl_gN (by decide)]
    by_cases e : f2 = f
    · rw [if_pos e] at hk
      omega
    · rw [if_neg e] at hk
      exact w4 f2 k hf2 hk
def wsG (S : GS) (f : Nat) (kd n a st : Int32) : GS := if kd = nI 2 then gN (gC S) 8 f 0 else cpF f (decide (kd = 0)) a st n.toNatClampNeg 0 (gN (gC S) 8 f 0)
def o_wishes (S : GS) (x kd n a st : Int32) : Int32 × GS :=
  if isF (s_n S) x = true ∧ ¬ kd < 0 ∧ ¬ nI 2 < kd ∧ n ≤ nI 20 then
    (if ¬ kd = nI 2 ∧ n < 0 then (-2, gC S)
     else (nI (s_wc (wsG S x.toNatClampNeg kd n a st) x.toNatClampNeg), wsG S x.toNatClampNeg kd n a st))
  else (-1, gC S)
theorem nle_20 {n : Nat} (hn : n < 2 ^ 31) (h : nI n ≤ nI 20) : n ≤ 20 := (nI_leI hn (by decide)).mp h
set_option maxRecDepth 100000 in
theorem c_X3_wishes {d : Nat} (hd : 4 ≤ d) {S : GS} {N : Mem} {K : Mej} (R : RX S N K) (w : WF S) {x kd n a st : Int32} : CK d mX3_wishes [.ref 0, .int x, .int kd, .int n, .int a, .int st] N K (PRX (o_wishes S x kd n a st).1 (o_wishes S x kd n a st).2 N) := by
  have hn := w.1.1
  have R0 := R.c0
  have h7 : sM N 0 13 (nI 0) 0 7 = nI (s_n S) := R0.1.1
  by_cases hok : isF (s_n S) x = true ∧ ¬ kd < 0 ∧ ¬ nI 2 < kd ∧ n ≤ nI 20
  · obtain ⟨hx, hk0, hk2, hn20⟩ := id hok
    rw [o_wishes, if_pos hok]
    by_cases hneg : ¬ kd = nI 2 ∧ n < 0
    · rw [if_pos hneg]
      have hng : ¬ 0 ≤ n := fun h => by
        have h2 := hneg.2
        rw [Int32.lt_iff_toInt_lt] at h2
        rw [Int32.le_iff_toInt_le] at h
        omega
      refine CK.start [(0, _), (1, _), (2, _), (3, _), (4, _), (5, _)] (plainFor_of_name (by decide)) (Nat.le_of_ble_eq_true rfl) rfl ?_
      refine K_aload_n dX3_wishes_0 rfl rfl ?_
      refine K_iconst (v := nI 0) dX3_wishes_1 (by decide) rfl ?_
      refine K_putZ dX3_wishes_2 fl_X3_61 (by first | rfl | exact sk_rk (by omega) | exact sk_hh (by omega)) rfl rfl rfl (by first | exact bI_01 _ | exact Or.inl rfl | exact Or.inr rfl | assumption) rfl ?_
      refine K_aload_n dX3_wishes_5 rfl rfl ?_
      refine K_iload_n dX3_wishes_6 rfl rfl ?_
      refine K_cv (ci := 3) (d1 := d - 1) [_] dX3_wishes_7 ml_X3_74 (by decide) rfl rfl rfl (Nat.le_of_ble_eq_true rfl) (c_X3_isFamily h7) (by omega) rfl ?_
      refine K_if_eqB (tgt := 28) dX3_wishes_10 (by decide) rfl (fun c10 => ?_) (fun c10 => ?_)
      · rw [hx] at c10; cases c10
      · refine K_iload_n dX3_wishes_13 rfl rfl ?_
        refine K_if_lt (tgt := 28) dX3_wishes_14 (by decide) rfl (fun c14 => ?_) (fun c14 => ?_)
        · exact absurd c14 hk0
        · refine K_iload_n dX3_wishes_17 rfl rfl ?_
          refine K_iconst (v := nI 2) dX3_wishes_18 (by decide) rfl ?_
          refine K_icmp_gt (tgt := 28) dX3_wishes_19 (by decide) rfl (fun c19 => ?_) (fun c19 => ?_)
          · exact absurd c19 hk2
          · refine K_iload_n dX3_wishes_22 rfl rfl ?_
            refine K_bipush (v := nI 20) dX3_wishes_23 (by decide) rfl ?_
            refine K_icmp_le (tgt := 30) dX3_wishes_25 (by decide) rfl (fun c25 => ?_) (fun c25 => ?_)
            · refine K_iload_n dX3_wishes_30 rfl rfl ?_
              refine K_iconst (v := nI 2) dX3_wishes_31 (by decide) rfl ?_
              refine K_icmp_eq (tgt := 42) dX3_wishes_32 (by decide) rfl (fun c32 => ?_) (fun c32 => ?_)
              · exact absurd c32 hneg.1
              · refine K_iload_n dX3_wishes_35 rfl rfl ?_
                refine K_if_ge (tgt := 42) dX3_wishes_36 (by decide) rfl (fun c36 => ?_) (fun c36 => ?_)
                · exact absurd c36 hng
                · refine K_bipush (v := (-2)) dX3_wishes_39 (by decide) rfl ?_
                  refine K_iret dX3_wishes_41 rfl ?_
                  exact ⟨rfl, R0, FX.c0 N⟩
            · exact absurd hn20 c25
    · rw [if_neg hneg]
      obtain ⟨f, hf, rfl⟩ := (isF_iff hn).mp hx
      have hc : (nI f).toNatClampNeg = f := nI_clamp (by omega)
      have R1 := R0.drop (f := f) (by omega)
      have w1 := w.c0.drop (f := f)
      have F1 : FX N (fillM (sM (sM N 0 13 (nI 0)) (20 + f) 1 (nI 0)) (30 + f) 10 (nI 0)) := ((FX.c0 N).set (by omega)).fill (by omega)
      rw [hc]
      by_cases hk : kd = nI 2
      · have hg : wsG S f kd n a st = gN (gC S) 8 f 0 := if_pos hk
        rw [hg]
        have hw1 := (R1.2.1 f (by omega)).1
        refine CK.start [(0, _), (1, _), (2, _), (3, _), (4, _), (5, _)] (plainFor_of_name (by decide)) (Nat.le_of_ble_eq_true rfl) rfl ?_
        refine K_aload_n dX3_wishes_0 rfl rfl ?_
        refine K_iconst (v := nI 0) dX3_wishes_1 (by decide) rfl ?_
        refine K_putZ dX3_wishes_2 fl_X3_61 (by first | rfl | exact sk_rk (by omega) | exact sk_hh (by omega)) rfl rfl rfl (by first | exact bI_01 _ | exact Or.inl rfl | exact Or.inr rfl | assumption) rfl ?_
        refine K_aload_n dX3_wishes_5 rfl rfl ?_
        refine K_iload_n dX3_wishes_6 rfl rfl ?_
        refine K_cv (ci := 3) (d1 := d - 1) [_] dX3_wishes_7 ml_X3_74 (by decide) rfl rfl rfl (Nat.le_of_ble_eq_true rfl) (c_X3_isFamily h7) (by omega) rfl ?_
        refine K_if_eqB (tgt := 28) dX3_wishes_10 (by decide) rfl (fun c10 => ?_) (fun c10 => ?_)
        · rw [hx] at c10; cases c10
        · refine K_iload_n dX3_wishes_13 rfl rfl ?_
          refine K_if_lt (tgt := 28) dX3_wishes_14 (by decide) rfl (fun c14 => ?_) (fun c14 => ?_)
          · exact absurd c14 hk0
          · refine K_iload_n dX3_wishes_17 rfl rfl ?_
            refine K_iconst (v := nI 2) dX3_wishes_18 (by decide) rfl ?_
            refine K_icmp_gt (tgt := 28) dX3_wishes_19 (by decide) rfl (fun c19 => ?_) (fun c19 => ?_)
            · exact absurd c19 hk2
            · refine K_iload_n dX3_wishes_22 rfl rfl ?_
              refine K_bipush (v := nI 20) dX3_wishes_23 (by decide) rfl ?_
              refine K_icmp_le (tgt := 30) dX3_wishes_25 (by decide) rfl (fun c25 => ?_) (fun c25 => ?_)
              · refine K_iload_n dX3_wishes_30 rfl rfl ?_
                refine K_iconst (v := nI 2) dX3_wishes_31 (by decide) rfl ?_
                refine K_icmp_eq (tgt := 42) dX3_wishes_32 (by decide) rfl (fun c32 => ?_) (fun c32 => ?_)
                · refine K_aload_n dX3_wishes_42 rfl rfl ?_
                  refine K_getR (r := 1) dX3_wishes_43 fl_X3_11 rfl rfl rfl rfl ?_
                  refine K_iload_n dX3_wishes_46 rfl rfl ?_
                  refine K_hh dX3_wishes_47 (by first | omega | fail) rfl ?_
                  refine K_c0 (ci := 0) (d1 := d - 1) [] dX3_wishes_48 ml_X3_100 (by decide) (sk_hh (by omega)) rfl rfl (Nat.le_of_ble_eq_true rfl) (c_X0_dropWishes (by omega)) (by omega) rfl ?_
                  refine K_iload_n dX3_wishes_51 rfl rfl ?_
                  refine K_iconst (v := nI 2) dX3_wishes_52 (by decide) rfl ?_
                  refine K_icmp_eq (tgt := 75) dX3_wishes_53 (by decide) rfl (fun c53 => ?_) (fun c53 => ?_)
                  · refine K_aload_n dX3_wishes_75 rfl rfl ?_
                    refine K_getR (r := 1) dX3_wishes_76 fl_X3_11 rfl rfl rfl rfl ?_
                    refine K_iload_n dX3_wishes_79 rfl rfl ?_
                    refine K_hh dX3_wishes_80 (by first | omega | fail) rfl ?_
                    refine K_getI dX3_wishes_81 fl_X3_97 (by first | rfl | exact sk_rk (by omega) | exact sk_hh (by omega)) rfl (by first | assumption | rfl) rfl ?_
                    refine K_iret dX3_wishes_84 rfl ?_
                    exact ⟨rfl, R1, F1⟩
                  · exact absurd hk c53
                · exact absurd hk c32
              · exact absurd hn20 c25
      · have hn0 : ¬ n < 0 := fun h => hneg ⟨hk, h⟩
        obtain ⟨nn, hnn, rfl⟩ := nI_of hn0
        have hn2 := nle_20 hnn hn20
        have hg : wsG S f kd (nI nn) a st = cpF f (decide (kd = 0)) a st nn 0 (gN (gC S) 8 f 0) := by rw [wsG, if_neg hk, nI_clamp hnn]
        rw [hg]
        have hf1 : f < s_n (gN (gC S) 8 f 0) := hf
        by_cases hz : kd = 0
        · rw [decide_eq_true hz]
          refine CK.start [(0, _), (1, _), (2, _), (3, _), (4, _), (5, _)] (plainFor_of_name (by decide)) (Nat.le_of_ble_eq_true rfl) rfl ?_
          refine K_aload_n dX3_wishes_0 rfl rfl ?_
          refine K_iconst (v := nI 0) dX3_wishes_1 (by decide) rfl ?_
          refine K_putZ dX3_wishes_2 fl_X3_61 (by first | rfl | exact sk_rk (by omega) | exact sk_hh (by omega)) rfl rfl rfl (by first | exact bI_01 _ | exact Or.inl rfl | exact Or.inr rfl | assumption) rfl ?_
          refine K_aload_n dX3_wishes_5 rfl rfl ?_
          refine K_iload_n dX3_wishes_6 rfl rfl ?_
          refine K_cv (ci := 3) (d1 := d - 1) [_] dX3_wishes_7 ml_X3_74 (by decide) rfl rfl rfl (Nat.le_of_ble_eq_true rfl) (c_X3_isFamily h7) (by omega) rfl ?_
          refine K_if_eqB (tgt := 28) dX3_wishes_10 (by decide) rfl (fun c10 => ?_) (fun c10 => ?_)
          · rw [hx] at c10; cases c10
          · refine K_iload_n dX3_wishes_13 rfl rfl ?_
            refine K_if_lt (tgt := 28) dX3_wishes_14 (by decide) rfl (fun c14 => ?_) (fun c14 => ?_)
            · exact absurd c14 hk0
            · refine K_iload_n dX3_wishes_17 rfl rfl ?_
              refine K_iconst (v := nI 2) dX3_wishes_18 (by decide) rfl ?_
              refine K_icmp_gt (tgt := 28) dX3_wishes_19 (by decide) rfl (fun c19 => ?_) (fun c19 => ?_)
              · exact absurd c19 hk2
              · refine K_iload_n dX3_wishes_22 rfl rfl ?_
                refine K_bipush (v := nI 20) dX3_wishes_23 (by decide) rfl ?_
                refine K_icmp_le (tgt := 30) dX3_wishes_25 (by decide) rfl (fun c25 => ?_) (fun c25 => ?_)
                · refine K_iload_n dX3_wishes_30 rfl rfl ?_
                  refine K_iconst (v := nI 2) dX3_wishes_31 (by decide) rfl ?_
                  refine K_icmp_eq (tgt := 42) dX3_wishes_32 (by decide) rfl (fun c32 => ?_) (fun c32 => ?_)
                  · exact absurd c32 hk
                  · refine K_iload_n dX3_wishes_35 rfl rfl ?_
                    refine K_if_geN (tgt := 42) dX3_wishes_36 (by decide) rfl (by first | omega | fail) (fun c36 => ?_) (fun c36 => ?_)
                    · refine K_aload_n dX3_wishes_42 rfl rfl ?_
                      refine K_getR (r := 1) dX3_wishes_43 fl_X3_11 rfl rfl rfl rfl ?_
                      refine K_iload_n dX3_wishes_46 rfl rfl ?_
                      refine K_hh dX3_wishes_47 (by first | omega | fail) rfl ?_
                      refine K_c0 (ci := 0) (d1 := d - 1) [] dX3_wishes_48 ml_X3_100 (by decide) (sk_hh (by omega)) rfl rfl (Nat.le_of_ble_eq_true rfl) (c_X0_dropWishes (by omega)) (by omega) rfl ?_
                      refine K_iload_n dX3_wishes_51 rfl rfl ?_
                      refine K_iconst (v := nI 2) dX3_wishes_52 (by decide) rfl ?_
                      refine K_icmp_eq (tgt := 75) dX3_wishes_53 (by decide) rfl (fun c53 => ?_) (fun c53 => ?_)
                      · exact absurd c53 hk
                      · refine K_aload_n dX3_wishes_56 rfl rfl ?_
                        refine K_iload_n dX3_wishes_57 rfl rfl ?_
                        refine K_iload_n dX3_wishes_58 rfl rfl ?_
                        refine K_if_ne (tgt := 66) dX3_wishes_59 (by decide) rfl (fun c59 => ?_) (fun c59 => ?_)
                        · exact absurd hz c59
                        · refine K_iconst (v := nI 1) dX3_wishes_62 (by decide) rfl ?_
                          refine K_goto (tgt := 67) dX3_wishes_63 (by decide) ?_
                          refine K_iload_n dX3_wishes_67 rfl rfl ?_
                          refine K_iload dX3_wishes_68 rfl rfl ?_
                          refine K_iload dX3_wishes_70 rfl rfl ?_
                          refine K_callV (ci := 3) (d1 := d - 1) [_, _, _, _, _] dX3_wishes_72 ml_X3_103 (by decide) rfl rfl rfl (Nat.le_of_ble_eq_true rfl) (c_X3_copySheet (bt := true) (by omega) R1 w1 hf1 hn2) (by omega) rfl ?_
                          rintro r N2 K2 ⟨z1, R2, F2, z2⟩
                          subst z1
                          subst z2
                          have hw2 := (R2.2.1 f (by omega)).1
                          refine K_aload_n dX3_wishes_75 rfl rfl ?_
                          refine K_getR (r := 1) dX3_wishes_76 fl_X3_11 rfl rfl rfl rfl ?_
                          refine K_iload_n dX3_wishes_79 rfl rfl ?_
                          refine K_hh dX3_wishes_80 (by first | omega | fail) rfl ?_
                          refine K_getI dX3_wishes_81 fl_X3_97 (by first | rfl | exact sk_rk (by omega) | exact sk_hh (by omega)) rfl (by first | assumption | rfl) rfl ?_
                          refine K_iret dX3_wishes_84 rfl ?_
                          exact ⟨rfl, R2, F1.trans F2⟩
                    · exact c36.elim
                · exact absurd hn20 c25
        · rw [decide_eq_false hz]
          refine CK.start [(0, _), (1, _), (2, _), (3, _), (4, _), (5, _)] (plainFor_of_name (by decide)) (Nat.le_of_ble_eq_true rfl) rfl ?_
          refine K_aload_n dX3_wishes_0 rfl rfl ?_
          refine K_iconst (v := nI 0) dX3_wishes_1 (by decide) rfl ?_
          refine K_putZ dX3_wishes_2 fl_X3_61 (by first | rfl | exact sk_rk (by omega) | exact sk_hh (by omega)) rfl rfl rfl (by first | exact bI_01 _ | exact Or.inl rfl | exact Or.inr rfl | assumption) rfl ?_
          refine K_aload_n dX3_wishes_5 rfl rfl ?_
          refine K_iload_n dX3_wishes_6 rfl rfl ?_
          refine K_cv (ci := 3) (d1 := d - 1) [_] dX3_wishes_7 ml_X3_74 (by decide) rfl rfl rfl (Nat.le_of_ble_eq_true rfl) (c_X3_isFamily h7) (by omega) rfl ?_
          refine K_if_eqB (tgt := 28) dX3_wishes_10 (by decide) rfl (fun c10 => ?_) (fun c10 => ?_)
          · rw [hx] at c10; cases c10
          · refine K_iload_n dX3_wishes_13 rfl rfl ?_
            refine K_if_lt (tgt := 28) dX3_wishes_14 (by decide) rfl (fun c14 => ?_) (fun c14 => ?_)
            · exact absurd c14 hk0
            · refine K_iload_n dX3_wishes_17 rfl rfl ?_
              refine K_iconst (v := nI 2) dX3_wishes_18 (by decide) rfl ?_
              refine K_icmp_gt (tgt := 28) dX3_wishes_19 (by decide) rfl (fun c19 => ?_) (fun c19 => ?_)
              · exact absurd c19 hk2
              · refine K_iload_n dX3_wishes_22 rfl rfl ?_
                refine K_bipush (v := nI 20) dX3_wishes_23 (by decide) rfl ?_
                refine K_icmp_le (tgt := 30) dX3_wishes_25 (by decide) rfl (fun c25 => ?_) (fun c25 => ?_)
                · refine K_iload_n dX3_wishes_30 rfl rfl ?_
                  refine K_iconst (v := nI 2) dX3_wishes_31 (by decide) rfl ?_
                  refine K_icmp_eq (tgt := 42) dX3_wishes_32 (by decide) rfl (fun c32 => ?_) (fun c32 => ?_)
                  · exact absurd c32 hk
                  · refine K_iload_n dX3_wishes_35 rfl rfl ?_
                    refine K_if_geN (tgt := 42) dX3_wishes_36 (by decide) rfl (by first | omega | fail) (fun c36 => ?_) (fun c36 => ?_)
                    · refine K_aload_n dX3_wishes_42 rfl rfl ?_
                      refine K_getR (r := 1) dX3_wishes_43 fl_X3_11 rfl rfl rfl rfl ?_
                      refine K_iload_n dX3_wishes_46 rfl rfl ?_
                      refine K_hh dX3_wishes_47 (by first | omega | fail) rfl ?_
                      refine K_c0 (ci := 0) (d1 := d - 1) [] dX3_wishes_48 ml_X3_100 (by decide) (sk_hh (by omega)) rfl rfl (Nat.le_of_ble_eq_true rfl) (c_X0_dropWishes (by omega)) (by omega) rfl ?_
                      refine K_iload_n dX3_wishes_51 rfl rfl ?_
                      refine K_iconst (v := nI 2) dX3_wishes_52 (by decide) rfl ?_
                      refine K_icmp_eq (tgt := 75) dX3_wishes_53 (by decide) rfl (fun c53 => ?_) (fun c53 => ?_)
                      · exact absurd c53 hk
                      · refine K_aload_n dX3_wishes_56 rfl rfl ?_
                        refine K_iload_n dX3_wishes_57 rfl rfl ?_
                        refine K_iload_n dX3_wishes_58 rfl rfl ?_
                        refine K_if_ne (tgt := 66) dX3_wishes_59 (by decide) rfl (fun c59 => ?_) (fun c59 => ?_)
                        · refine K_iconst (v := nI 0) dX3_wishes_66 (by decide) rfl ?_
                          refine K_iload_n dX3_wishes_67 rfl rfl ?_
                          refine K_iload dX3_wishes_68 rfl rfl ?_
                          refine K_iload dX3_wishes_70 rfl rfl ?_
                          refine K_callV (ci := 3) (d1 := d - 1) [_, _, _, _, _] dX3_wishes_72 ml_X3_103 (by decide) rfl rfl rfl (Nat.le_of_ble_eq_true rfl) (c_X3_copySheet (bt := false) (by omega) R1 w1 hf1 hn2) (by omega) rfl ?_
                          rintro r N2 K2 ⟨z1, R2, F2, z2⟩
                          subst z1
                          subst z2
                          have hw2 := (R2.2.1 f (by omega)).1
                          refine K_aload_n dX3_wishes_75 rfl rfl ?_
                          refine K_getR (r := 1) dX3_wishes_76 fl_X3_11 rfl rfl rfl rfl ?_
                          refine K_iload_n dX3_wishes_79 rfl rfl ?_
                          refine K_hh dX3_wishes_80 (by first | omega | fail) rfl ?_
                          refine K_getI dX3_wishes_81 fl_X3_97 (by first | rfl | exact sk_rk (by omega) | exact sk_hh (by omega)) rfl (by first | assumption | rfl) rfl ?_
                          refine K_iret dX3_wishes_84 rfl ?_
                          exact ⟨rfl, R2, F1.trans F2⟩
                        · exact absurd c59 hz
                    · exact c36.elim
                · exact absurd hn20 c25
  · rw [o_wishes, if_neg hok]
    refine CK.start [(0, _), (1, _), (2, _), (3, _), (4, _), (5, _)] (plainFor_of_name (by decide)) (Nat.le_of_ble_eq_true rfl) rfl ?_
    refine K_aload_n dX3_wishes_0 rfl rfl ?_
    refine K_iconst (v := nI 0) dX3_wishes_1 (by decide) rfl ?_
    refine K_putZ dX3_wishes_2 fl_X3_61 (by first | rfl | exact sk_rk (by omega) | exact sk_hh (by omega)) rfl rfl rfl (by first | exact bI_01 _ | exact Or.inl rfl | exact Or.inr rfl | assumption) rfl ?_
    refine K_aload_n dX3_wishes_5 rfl rfl ?_
    refine K_iload_n dX3_wishes_6 rfl rfl ?_
    refine K_cv (ci := 3) (d1 := d - 1) [_] dX3_wishes_7 ml_X3_74 (by decide) rfl rfl rfl (Nat.le_of_ble_eq_true rfl) (c_X3_isFamily h7) (by omega) rfl ?_
    refine K_if_eqB (tgt := 28) dX3_wishes_10 (by decide) rfl (fun c10 => ?_) (fun c10 => ?_)
    · refine K_iconst (v := (-1)) dX3_wishes_28 (by decide) rfl ?_
      refine K_iret dX3_wishes_29 rfl ?_
      exact ⟨rfl, R0, FX.c0 N⟩
    · refine K_iload_n dX3_wishes_13 rfl rfl ?_
      refine K_if_lt (tgt := 28) dX3_wishes_14 (by decide) rfl (fun c14 => ?_) (fun c14 => ?_)
      · refine K_iconst (v := (-1)) dX3_wishes_28 (by decide) rfl ?_
        refine K_iret dX3_wishes_29 rfl ?_
        exact ⟨rfl, R0, FX.c0 N⟩
      · refine K_iload_n dX3_wishes_17 rfl rfl ?_
        refine K_iconst (v := nI 2) dX3_wishes_18 (by decide) rfl ?_
        refine K_icmp_gt (tgt := 28) dX3_wishes_19 (by decide) rfl (fun c19 => ?_) (fun c19 => ?_)
        · refine K_iconst (v := (-1)) dX3_wishes_28 (by decide) rfl ?_
          refine K_iret dX3_wishes_29 rfl ?_
          exact ⟨rfl, R0, FX.c0 N⟩
        · refine K_iload_n dX3_wishes_22 rfl rfl ?_
          refine K_bipush (v := nI 20) dX3_wishes_23 (by decide) rfl ?_
          refine K_icmp_le (tgt := 30) dX3_wishes_25 (by decide) rfl (fun c25 => ?_) (fun c25 => ?_)
          · exact absurd ⟨c10, c14, c19, c25⟩ hok
          · refine K_iconst (v := (-1)) dX3_wishes_28 (by decide) rfl ?_
            refine K_iret dX3_wishes_29 rfl ?_
            exact ⟨rfl, R0, FX.c0 N⟩
