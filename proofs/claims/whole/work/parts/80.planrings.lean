/-! the class's planRings, best, mend -/
theorem ed_ne {S : GS} (w : WF S) {f g : Nat} (hf : f < 10) (h : s_tk S f g = true) : g ≠ f := (w.rkn hf (tk_rk h)).2.2
def mI (k : Bool) : Int32 := if k = true then nI 1000 else nI 0
/-- the ways allowed till (f, g) -/
def AL (S : GS) (k : Bool) (f g : Nat) (K : Mej) : Prop := ∀ a b, a < 10 → b < 10 → K 12 (a * 10 + b) = jO (if a < f ∨ (a = f ∧ b < g) then ed S k a b else none)
theorem li_X3_planRings {d : Nat} (hd : 4 ≤ d) {S : GS} {k : Bool} {N : Mem} {K0 : Mej} {Post : PK} (w : WF S) (R : RX S N K0) {f : Nat} (hf : f < s_n S)
    (next : ∀ K, AL S k (f + 1) 0 K → (∀ b, b ≠ 12 → K b = K0 b) → EK d mX3_planRings Post 13 [(0, .ref 0), (1, .int (mI k)), (2, .int (nI (f + 1)))] [] N K) :
    ∀ (kk g : Nat) (ex : LV) (K : Mej), ex = [] → g + kk = s_n S → AL S k f g K → (∀ b, b ≠ 12 → K b = K0 b) → EK d mX3_planRings Post 23 [(0, .ref 0), (1, .int (mI k)), (2, .int (nI f)), (3, .int (nI g))] [] N K
  | 0, g, ex, K, _, e, A, hF => by
    have hn := w.1.1
    have h7 := R.1.1
    have hg : g = s_n S := by omega
    subst hg
    refine K_iload_n dX3_planRings_23 rfl rfl ?_
    refine K_aload_n dX3_planRings_24 rfl rfl ?_
    refine K_getI dX3_planRings_25 fl_X3_42 (by first | rfl | exact sk_rk (by omega) | exact sk_hh (by omega)) rfl (by first | assumption | rfl) rfl ?_
    refine K_icmp_geN (tgt := 89) dX3_planRings_28 (by decide) rfl (by first | omega | fail) (by first | omega | fail) (fun c28 => ?_) (fun c28 => ?_)
    · first | refine K_incN (lv' := [(0, _), (1, _), (2, _), (3, _)]) dX3_planRings_89 rfl (by decide) rfl rfl ?_ | refine K_iinc (lv' := [(0, _), (1, _), (2, _), (3, _)]) dX3_planRings_89 rfl rfl (by decide) rfl rfl ?_
      refine K_goto (tgt := 13) dX3_planRings_92 (by decide) ?_
      refine K_pick [0, 1, 2] rfl ?_
      exact next K (fun a b ha hb => by
        rw [A a b ha hb]
        by_cases e1 : a < f ∨ (a = f ∧ b < s_n S)
        · rw [if_pos e1, if_pos (by omega)]
        · rw [if_neg e1]
          by_cases e2 : a < f + 1 ∨ (a = f + 1 ∧ b < 0)
          · rw [if_pos e2, ed_f (by
              cases ht : s_tk S a b with
              | false => rfl
              | true => have := (w.rkn ha (tk_rk ht)).2.1; omega)]
          · rw [if_neg e2]) hF
    · omega
  | kk + 1, g, ex, K, hx, e, A, hF => by
    have hn := w.1.1
    have h7 := R.1.1
    have R1 : RX S N K := R.frame (fun _ _ => rfl) (fun j hj => by rw [hF 11 (by decide)])
    have hgn : g < s_n S := by omega
    have h2 := R.2.2.2.1 f (by omega)
    have hob := w.plb (f := f) (by omega)
    have hrk := R.2.2.1 f g (by omega) (by omega)
    have r9 := w.rk9 (f := f) (by omega) g
    have htk := c_X3_takes (d := d - 1) (by omega) R1 w hf hgn
    have nx : ∀ K2, K2 12 (f * 10 + g) = jO (ed S k f g) → (∀ a b, a < 10 → b < 10 → (a ≠ f ∨ b ≠ g) → K2 12 (a * 10 + b) = K 12 (a * 10 + b)) → (∀ b, b ≠ 12 → K2 b = K0 b) → EK d mX3_planRings Post 23 [(0, .ref 0), (1, .int (mI k)), (2, .int (nI f)), (3, .int (nI (g + 1)))] [] N K2 := fun K2 a1 a2 a3 =>
      li_X3_planRings hd w R hf next kk (g + 1) ex K2 hx (by omega) (fun a b ha hb => by
        by_cases e1 : a = f ∧ b = g
        · rw [e1.1, e1.2, a1, if_pos (by omega)]
        · rw [a2 a b ha hb (by omega), A a b ha hb]
          by_cases e2 : a < f ∨ (a = f ∧ b < g)
          · rw [if_pos e2, if_pos (by omega)]
          · rw [if_neg e2, if_neg (by omega)]) a3
    cases ht : s_tk S f g with
    | false =>
      refine K_iload_n dX3_planRings_23 rfl rfl ?_
      refine K_aload_n dX3_planRings_24 rfl rfl ?_
      refine K_getI dX3_planRings_25 fl_X3_42 (by first | rfl | exact sk_rk (by omega) | exact sk_hh (by omega)) rfl (by first | assumption | rfl) rfl ?_
      refine K_icmp_geN (tgt := 89) dX3_planRings_28 (by decide) rfl (by first | omega | fail) (by first | omega | fail) (fun c28 => ?_) (fun c28 => ?_)
      · omega
      · refine K_aload_n dX3_planRings_31 rfl rfl ?_
        refine K_iload_n dX3_planRings_32 rfl rfl ?_
        refine K_iload_n dX3_planRings_33 rfl rfl ?_
        refine K_cv (ci := 3) (d1 := d - 1) [_, _] dX3_planRings_34 ml_X3_188 (by decide) rfl rfl rfl (Nat.le_of_ble_eq_true rfl) htk (by omega) rfl ?_
        refine K_if_eqB (tgt := 83) dX3_planRings_37 (by decide) rfl (fun c37 => ?_) (fun c37 => ?_)
        · first | refine K_incN (lv' := [(0, _), (1, _), (2, _), (3, _)]) dX3_planRings_83 rfl (by decide) rfl rfl ?_ | refine K_iinc (lv' := [(0, _), (1, _), (2, _), (3, _)]) dX3_planRings_83 rfl rfl (by decide) rfl rfl ?_
          refine K_goto (tgt := 23) dX3_planRings_86 (by decide) ?_
          exact nx K (by rw [A f g (by omega) (by omega), if_neg (by omega), ed_f ht]) (fun _ _ _ _ _ => rfl) hF
        · rw [ht] at c37; cases c37
    | true =>
      have hne := ed_ne w (by omega) ht
      have h11 : K 11 f = pl11 f := R1.2.2.2.2.2.2 f (by omega)
      have hal := c_X1_allow (d := d - 1) (S := S) (k := k) (N := N) (K := K) (f := f) (g := g) (by omega) (by omega) hne h11
      have fin : ∀ K2, K2 = sJ K 12 (f * 10 + g) (jO (some (cc S k f g))) → EK d mX3_planRings Post 23 [(0, .ref 0), (1, .int (mI k)), (2, .int (nI f)), (3, .int (nI (g + 1)))] [] N K2 := fun K2 hK => by
        subst hK
        exact nx _ (by rw [sJ_eq, ed_t ht]) (fun a b ha hb hab => sJ_ne (Or.inr (by omega))) (fun b hb => (sJ_row hb).trans (hF b hb))
      by_cases hpl : s_pl S f = some g
      · cases k with
        | true =>
          rw [show eM S true f g = 1000 + 100 - s_rk S f g from by unfold eM; rw [if_pos ⟨rfl, hpl⟩]; omega] at hal
          rw [show mI true = nI 1000 from rfl] at fin ⊢
          refine K_iload_n dX3_planRings_23 rfl rfl ?_
          refine K_aload_n dX3_planRings_24 rfl rfl ?_
          refine K_getI dX3_planRings_25 fl_X3_42 (by first | rfl | exact sk_rk (by omega) | exact sk_hh (by omega)) rfl (by first | assumption | rfl) rfl ?_
          refine K_icmp_geN (tgt := 89) dX3_planRings_28 (by decide) rfl (by first | omega | fail) (by first | omega | fail) (fun c28 => ?_) (fun c28 => ?_)
          · omega
          · refine K_aload_n dX3_planRings_31 rfl rfl ?_
            refine K_iload_n dX3_planRings_32 rfl rfl ?_
            refine K_iload_n dX3_planRings_33 rfl rfl ?_
            refine K_cv (ci := 3) (d1 := d - 1) [_, _] dX3_planRings_34 ml_X3_188 (by decide) rfl rfl rfl (Nat.le_of_ble_eq_true rfl) htk (by omega) rfl ?_
            refine K_if_eqB (tgt := 83) dX3_planRings_37 (by decide) rfl (fun c37 => ?_) (fun c37 => ?_)
            · rw [ht] at c37; cases c37
            · refine K_aload_n dX3_planRings_40 rfl rfl ?_
              refine K_getR (r := 2) dX3_planRings_41 fl_X3_15 rfl rfl rfl rfl ?_
              refine K_iload_n dX3_planRings_44 rfl rfl ?_
              refine K_iald dX3_planRings_45 (by first | rfl | exact sk_rk (by omega) | exact sk_hh (by omega)) (by first | omega | fail) (by decide) (by first | assumption | rfl) rfl ?_
              refine K_iload_n dX3_planRings_46 rfl rfl ?_
              refine K_icmp_neON (tgt := 54) dX3_planRings_47 (by decide) rfl (by first | assumption | fail) (by first | omega | fail) (fun c47 => ?_) (fun c47 => ?_)
              · exact absurd hpl c47
              · refine K_iload_n dX3_planRings_50 rfl rfl ?_
                refine K_goto (tgt := 55) dX3_planRings_51 (by decide) ?_
                refine K_istore (lv' := [(0, _), (1, _), (2, _), (3, _), (4, _)]) dX3_planRings_55 (by decide) rfl rfl ?_
                refine K_aload_n dX3_planRings_57 rfl rfl ?_
                refine K_getR (r := 6) dX3_planRings_58 fl_X3_31 rfl rfl rfl rfl ?_
                refine K_iload_n dX3_planRings_61 rfl rfl ?_
                refine K_iload_n dX3_planRings_62 rfl rfl ?_
                refine K_iload dX3_planRings_63 rfl rfl ?_
                refine K_bipush (v := nI 100) dX3_planRings_65 (by decide) rfl ?_
                refine K_addN dX3_planRings_67 rfl ?_
                refine K_aload_n dX3_planRings_68 rfl rfl ?_
                refine K_getR (r := 1) dX3_planRings_69 fl_X3_11 rfl rfl rfl rfl ?_
                refine K_iload_n dX3_planRings_72 rfl rfl ?_
                refine K_hh dX3_planRings_73 (by first | omega | fail) rfl ?_
                refine K_rk dX3_planRings_74 fl_X3_155 (by first | omega | fail) rfl ?_
                refine K_iload_n dX3_planRings_77 rfl rfl ?_
                refine K_iald dX3_planRings_78 (by first | rfl | exact sk_rk (by omega) | exact sk_hh (by omega)) (by first | omega | fail) (by decide) (by first | assumption | rfl) rfl ?_
                refine K_subN dX3_planRings_79 (by first | omega | fail) rfl ?_
                refine K_c0 (ci := 1) (d1 := d - 1) [_, _, _] dX3_planRings_80 ml_X3_251 (by decide) rfl rfl rfl (Nat.le_of_ble_eq_true rfl) hal (by omega) rfl ?_
                first | refine K_incN (lv' := [(0, _), (1, _), (2, _), (3, _), (4, _)]) dX3_planRings_83 rfl (by decide) rfl rfl ?_ | refine K_iinc (lv' := [(0, _), (1, _), (2, _), (3, _), (4, _)]) dX3_planRings_83 rfl rfl (by decide) rfl rfl ?_
                refine K_goto (tgt := 23) dX3_planRings_86 (by decide) ?_
                refine K_pick [0, 1, 2, 3] rfl ?_
                exact fin _ rfl
        | false =>
          rw [show eM S false f g = 0 + 100 - s_rk S f g from by unfold eM; rw [if_neg (fun z => by cases z.1)]; omega] at hal
          rw [show mI false = nI 0 from rfl] at fin ⊢
          refine K_iload_n dX3_planRings_23 rfl rfl ?_
          refine K_aload_n dX3_planRings_24 rfl rfl ?_
          refine K_getI dX3_planRings_25 fl_X3_42 (by first | rfl | exact sk_rk (by omega) | exact sk_hh (by omega)) rfl (by first | assumption | rfl) rfl ?_
          refine K_icmp_geN (tgt := 89) dX3_planRings_28 (by decide) rfl (by first | omega | fail) (by first | omega | fail) (fun c28 => ?_) (fun c28 => ?_)
          · omega
          · refine K_aload_n dX3_planRings_31 rfl rfl ?_
            refine K_iload_n dX3_planRings_32 rfl rfl ?_
            refine K_iload_n dX3_planRings_33 rfl rfl ?_
            refine K_cv (ci := 3) (d1 := d - 1) [_, _] dX3_planRings_34 ml_X3_188 (by decide) rfl rfl rfl (Nat.le_of_ble_eq_true rfl) htk (by omega) rfl ?_
            refine K_if_eqB (tgt := 83) dX3_planRings_37 (by decide) rfl (fun c37 => ?_) (fun c37 => ?_)
            · rw [ht] at c37; cases c37
            · refine K_aload_n dX3_planRings_40 rfl rfl ?_
              refine K_getR (r := 2) dX3_planRings_41 fl_X3_15 rfl rfl rfl rfl ?_
              refine K_iload_n dX3_planRings_44 rfl rfl ?_
              refine K_iald dX3_planRings_45 (by first | rfl | exact sk_rk (by omega) | exact sk_hh (by omega)) (by first | omega | fail) (by decide) (by first | assumption | rfl) rfl ?_
              refine K_iload_n dX3_planRings_46 rfl rfl ?_
              refine K_icmp_neON (tgt := 54) dX3_planRings_47 (by decide) rfl (by first | assumption | fail) (by first | omega | fail) (fun c47 => ?_) (fun c47 => ?_)
              · exact absurd hpl c47
              · refine K_iload_n dX3_planRings_50 rfl rfl ?_
                refine K_goto (tgt := 55) dX3_planRings_51 (by decide) ?_
                refine K_istore (lv' := [(0, _), (1, _), (2, _), (3, _), (4, _)]) dX3_planRings_55 (by decide) rfl rfl ?_
                refine K_aload_n dX3_planRings_57 rfl rfl ?_
                refine K_getR (r := 6) dX3_planRings_58 fl_X3_31 rfl rfl rfl rfl ?_
                refine K_iload_n dX3_planRings_61 rfl rfl ?_
                refine K_iload_n dX3_planRings_62 rfl rfl ?_
                refine K_iload dX3_planRings_63 rfl rfl ?_
                refine K_bipush (v := nI 100) dX3_planRings_65 (by decide) rfl ?_
                refine K_addN dX3_planRings_67 rfl ?_
                refine K_aload_n dX3_planRings_68 rfl rfl ?_
                refine K_getR (r := 1) dX3_planRings_69 fl_X3_11 rfl rfl rfl rfl ?_
                refine K_iload_n dX3_planRings_72 rfl rfl ?_
                refine K_hh dX3_planRings_73 (by first | omega | fail) rfl ?_
                refine K_rk dX3_planRings_74 fl_X3_155 (by first | omega | fail) rfl ?_
                refine K_iload_n dX3_planRings_77 rfl rfl ?_
                refine K_iald dX3_planRings_78 (by first | rfl | exact sk_rk (by omega) | exact sk_hh (by omega)) (by first | omega | fail) (by decide) (by first | assumption | rfl) rfl ?_
                refine K_subN dX3_planRings_79 (by first | omega | fail) rfl ?_
                refine K_c0 (ci := 1) (d1 := d - 1) [_, _, _] dX3_planRings_80 ml_X3_251 (by decide) rfl rfl rfl (Nat.le_of_ble_eq_true rfl) hal (by omega) rfl ?_
                first | refine K_incN (lv' := [(0, _), (1, _), (2, _), (3, _), (4, _)]) dX3_planRings_83 rfl (by decide) rfl rfl ?_ | refine K_iinc (lv' := [(0, _), (1, _), (2, _), (3, _), (4, _)]) dX3_planRings_83 rfl rfl (by decide) rfl rfl ?_
                refine K_goto (tgt := 23) dX3_planRings_86 (by decide) ?_
                refine K_pick [0, 1, 2, 3] rfl ?_
                exact fin _ rfl
      · rw [show eM S k f g = 0 + 100 - s_rk S f g from by unfold eM; rw [if_neg (fun z => hpl z.2)]; omega] at hal
        refine K_iload_n dX3_planRings_23 rfl rfl ?_
        refine K_aload_n dX3_planRings_24 rfl rfl ?_
        refine K_getI dX3_planRings_25 fl_X3_42 (by first | rfl | exact sk_rk (by omega) | exact sk_hh (by omega)) rfl (by first | assumption | rfl) rfl ?_
        refine K_icmp_geN (tgt := 89) dX3_planRings_28 (by decide) rfl (by first | omega | fail) (by first | omega | fail) (fun c28 => ?_) (fun c28 => ?_)
        · omega
        · refine K_aload_n dX3_planRings_31 rfl rfl ?_
          refine K_iload_n dX3_planRings_32 rfl rfl ?_
          refine K_iload_n dX3_planRings_33 rfl rfl ?_
          refine K_cv (ci := 3) (d1 := d - 1) [_, _] dX3_planRings_34 ml_X3_188 (by decide) rfl rfl rfl (Nat.le_of_ble_eq_true rfl) htk (by omega) rfl ?_
          refine K_if_eqB (tgt := 83) dX3_planRings_37 (by decide) rfl (fun c37 => ?_) (fun c37 => ?_)
          · rw [ht] at c37; cases c37
          · refine K_aload_n dX3_planRings_40 rfl rfl ?_
            refine K_getR (r := 2) dX3_planRings_41 fl_X3_15 rfl rfl rfl rfl ?_
            refine K_iload_n dX3_planRings_44 rfl rfl ?_
            refine K_iald dX3_planRings_45 (by first | rfl | exact sk_rk (by omega) | exact sk_hh (by omega)) (by first | omega | fail) (by decide) (by first | assumption | rfl) rfl ?_
            refine K_iload_n dX3_planRings_46 rfl rfl ?_
            refine K_icmp_neON (tgt := 54) dX3_planRings_47 (by decide) rfl (by first | assumption | fail) (by first | omega | fail) (fun c47 => ?_) (fun c47 => ?_)
            · refine K_iconst (v := nI 0) dX3_planRings_54 (by decide) rfl ?_
              refine K_istore (lv' := [(0, _), (1, _), (2, _), (3, _), (4, _)]) dX3_planRings_55 (by decide) rfl rfl ?_
              refine K_aload_n dX3_planRings_57 rfl rfl ?_
              refine K_getR (r := 6) dX3_planRings_58 fl_X3_31 rfl rfl rfl rfl ?_
              refine K_iload_n dX3_planRings_61 rfl rfl ?_
              refine K_iload_n dX3_planRings_62 rfl rfl ?_
              refine K_iload dX3_planRings_63 rfl rfl ?_
              refine K_bipush (v := nI 100) dX3_planRings_65 (by decide) rfl ?_
              refine K_addN dX3_planRings_67 rfl ?_
              refine K_aload_n dX3_planRings_68 rfl rfl ?_
              refine K_getR (r := 1) dX3_planRings_69 fl_X3_11 rfl rfl rfl rfl ?_
              refine K_iload_n dX3_planRings_72 rfl rfl ?_
              refine K_hh dX3_planRings_73 (by first | omega | fail) rfl ?_
              refine K_rk dX3_planRings_74 fl_X3_155 (by first | omega | fail) rfl ?_
              refine K_iload_n dX3_planRings_77 rfl rfl ?_
              refine K_iald dX3_planRings_78 (by first | rfl | exact sk_rk (by omega) | exact sk_hh (by omega)) (by first | omega | fail) (by decide) (by first | assumption | rfl) rfl ?_
              refine K_subN dX3_planRings_79 (by first | omega | fail) rfl ?_
              refine K_c0 (ci := 1) (d1 := d - 1) [_, _, _] dX3_planRings_80 ml_X3_251 (by decide) rfl rfl rfl (Nat.le_of_ble_eq_true rfl) hal (by omega) rfl ?_
              first | refine K_incN (lv' := [(0, _), (1, _), (2, _), (3, _), (4, _)]) dX3_planRings_83 rfl (by decide) rfl rfl ?_ | refine K_iinc (lv' := [(0, _), (1, _), (2, _), (3, _), (4, _)]) dX3_planRings_83 rfl rfl (by decide) rfl rfl ?_
              refine K_goto (tgt := 23) dX3_planRings_86 (by decide) ?_
              refine K_pick [0, 1, 2, 3] rfl ?_
              exact fin _ rfl
            · exact absurd c47 hpl
theorem lo_X3_planRings {d : Nat} (hd : 4 ≤ d) {S : GS} {k : Bool} {N : Mem} {K0 : Mej} {Post : PK} (w : WF S) (R : RX S N K0)
    (next : ∀ K, ETb S k K → (∀ b, b ≠ 12 → K b = K0 b) → EK d mX3_planRings Post 95 [(0, .ref 0), (1, .int (mI k)), (2, .int (nI (s_n S)))] [] N K) :
    ∀ (kk f : Nat) (K : Mej), f + kk = s_n S → AL S k f 0 K → (∀ b, b ≠ 12 → K b = K0 b) → EK d mX3_planRings Post 13 [(0, .ref 0), (1, .int (mI k)), (2, .int (nI f))] [] N K
  | 0, f, K, e, A, hF => by
    have hn := w.1.1
    have h7 := R.1.1
    have hf : f = s_n S := by omega
    subst hf
    refine K_iload_n dX3_planRings_13 rfl rfl ?_
    refine K_aload_n dX3_planRings_14 rfl rfl ?_
    refine K_getI dX3_planRings_15 fl_X3_42 (by first | rfl | exact sk_rk (by omega) | exact sk_hh (by omega)) rfl (by first | assumption | rfl) rfl ?_
    refine K_icmp_geN (tgt := 95) dX3_planRings_18 (by decide) rfl (by first | omega | fail) (by first | omega | fail) (fun c18 => ?_) (fun c18 => ?_)
    · exact next K (fun a b ha hb => by
        rw [A a b ha hb]
        by_cases e1 : a < s_n S ∨ (a = s_n S ∧ b < 0)
        · rw [if_pos e1]
        · rw [if_neg e1, ed_f (by
            cases ht : s_tk S a b with
            | false => rfl
            | true => have := (w.rkn ha (tk_rk ht)).1; omega)]) hF
    · omega
  | kk + 1, f, K, e, A, hF => by
    have hn := w.1.1
    have h7 := R.1.1
    refine K_iload_n dX3_planRings_13 rfl rfl ?_
    refine K_aload_n dX3_planRings_14 rfl rfl ?_
    refine K_getI dX3_planRings_15 fl_X3_42 (by first | rfl | exact sk_rk (by omega) | exact sk_hh (by omega)) rfl (by first | assumption | rfl) rfl ?_
    refine K_icmp_geN (tgt := 95) dX3_planRings_18 (by decide) rfl (by first | omega | fail) (by first | omega | fail) (fun c18 => ?_) (fun c18 => ?_)
    · omega
    · refine K_iconst (v := nI 0) dX3_planRings_21 (by decide) rfl ?_
      refine K_istore_n (lv' := [(0, _), (1, _), (2, _), (3, _)]) dX3_planRings_22 (by decide) rfl rfl ?_
      exact li_X3_planRings hd w R (by omega) (fun K2 A2 F2 => lo_X3_planRings hd w R next kk (f + 1) K2 (by omega) A2 F2) (s_n S) 0 [] K rfl (by omega) A hF
set_option maxRecDepth 100000 in
theorem c_X3_planRings {d : Nat} (hd : 6 ≤ d) {S : GS} {k : Bool} {N : Mem} {K : Mej} (R : RX S N K) (w : WF S) : CK d mX3_planRings [.ref 0, .int (mI k)] N K (fun r N1 K1 => ∃ b, IsB S k b ∧ r = some (.int (nI (kpT S b (s_n S)))) ∧ RX (plG S (pv (s_n S) b)) N1 K1 ∧ FX N N1) := by
  have hn := w.1.1
  have h7 := R.1.1
  have R1 : RX S (sM N 6 5 (nI (s_n S))) (fillJ K 12 100 (jO none)) := R.frame (fun i hi => sM_row (by omega)) (fun f hf => by unfold fillJ; rw [if_neg (by omega)])
  have F1 : FX N (sM N 6 5 (nI (s_n S))) := (FX.rf N).set (by decide)
  have h11 := R1.1.2.2.2.2.1
  refine CK.start [(0, _), (1, _)] (plainFor_of_name (by decide)) (Nat.le_of_ble_eq_true rfl) rfl ?_
  refine K_aload_n dX3_planRings_0 rfl rfl ?_
  refine K_getR (r := 6) dX3_planRings_1 fl_X3_31 rfl rfl rfl rfl ?_
  refine K_aload_n dX3_planRings_4 rfl rfl ?_
  refine K_getI dX3_planRings_5 fl_X3_42 (by first | rfl | exact sk_rk (by omega) | exact sk_hh (by omega)) rfl (by first | assumption | rfl) rfl ?_
  refine K_c0 (ci := 1) (d1 := d - 1) [_] dX3_planRings_8 ml_X3_250 (by decide) rfl rfl rfl (Nat.le_of_ble_eq_true rfl) c_X1_clear (by omega) rfl ?_
  refine K_iconst (v := nI 0) dX3_planRings_11 (by decide) rfl ?_
  refine K_istore_n (lv' := [(0, _), (1, _), (2, _)]) dX3_planRings_12 (by decide) rfl rfl ?_
  refine lo_X3_planRings (by omega) w R1 ?_ (s_n S) 0 _ (Nat.zero_add _) (fun a b ha hb => ?_) (fun _ _ => rfl)
  · intro K2 E2 F2
    have hrp := c_X1_replacePlan (d := d - 1) (S := S) (k := k) (N := sM N 6 5 (nI (s_n S))) (K := K2) (by omega) w (sM_eq _ _ _ _) (fun f hf => R1.2.2.2.1 f hf) E2 (fun f hf => by rw [F2 11 (by decide)]; exact R1.2.2.2.2.2.2 f hf)
    refine K_aload_n dX3_planRings_95 rfl rfl ?_
    refine K_getR (r := 6) dX3_planRings_96 fl_X3_31 rfl rfl rfl rfl ?_
    refine K_aload_n dX3_planRings_99 rfl rfl ?_
    refine K_getR (r := 2) dX3_planRings_100 fl_X3_15 rfl rfl rfl rfl ?_
    refine K_aload_n dX3_planRings_103 rfl rfl ?_
    refine K_getI dX3_planRings_104 fl_X3_55 (by first | rfl | exact sk_rk (by omega) | exact sk_hh (by omega)) rfl (by first | assumption | rfl) rfl ?_
    refine K_callV (ci := 1) (d1 := d - 1) [_, _] dX3_planRings_107 ml_X3_254 (by decide) rfl rfl rfl (Nat.le_of_ble_eq_true rfl) hrp (by omega) rfl ?_
    rintro r N3 K3 ⟨b, b1, b2, b3, b4, b5⟩
    subst b2
    refine K_iret dX3_planRings_110 rfl ?_
    exact ⟨b, b1, rfl, R1.plG (fun i _ hi => b4 i hi) b5 (fun f hf => by rw [b3 f, F2 11 (by decide)]), F1.trans (fun i hi => b4 i (by omega))⟩
  · unfold fillJ
    rw [if_pos ⟨rfl, by omega⟩, if_neg (by omega)]
set_option maxRecDepth 100000 in
theorem c_X3_best {d : Nat} (hd : 7 ≤ d) {S : GS} {N : Mem} {K : Mej} (R : RX S N K) (w : WF S) : CK d mX3_best [.ref 0] N K (PRX (o_best S).1 (o_best S).2 N) := by
  have hpr := c_X3_planRings (d := d - 1) (k := false) (by omega) R.c0 w.c0
  refine CK.start [(0, _)] (plainFor_of_name (by decide)) (Nat.le_of_ble_eq_true rfl) rfl ?_
  refine K_aload_n dX3_best_0 rfl rfl ?_
  refine K_iconst (v := nI 0) dX3_best_1 (by decide) rfl ?_
  refine K_putZ dX3_best_2 fl_X3_61 (by first | rfl | exact sk_rk (by omega) | exact sk_hh (by omega)) rfl rfl rfl (by first | exact bI_01 _ | exact Or.inl rfl | exact Or.inr rfl | assumption) rfl ?_
  refine K_aload_n dX3_best_5 rfl rfl ?_
  refine K_iconst (v := nI 0) dX3_best_6 (by decide) rfl ?_
  refine K_callV (ci := 3) (d1 := d - 1) [_] dX3_best_7 ml_X3_173 (by decide) rfl rfl rfl (Nat.le_of_ble_eq_true rfl) hpr (by omega) rfl ?_
  rintro r N2 K2 ⟨b, b1, b2, b3, b4⟩
  subst b2
  rw [best_of w (IsB_gC b1)]
  have hpw : PW (gC S) (pv (s_n (gC S)) b) := fun f g h => by
    unfold pv at h
    split at h
    · next hf =>
      split at h
      · cases h
      · next hne => cases h; exact ⟨hf, (b1.1 f hf).1, hne⟩
    · cases h
  have hcg := c_X3_countGoing (d := d - 1) b3 (w.c0.plG hpw)
  have ec : cnt (s_go (plG (gC S) (pv (s_n (gC S)) b))) (s_n (plG (gC S) (pv (s_n (gC S)) b))) = goT b (s_n S) := cnt_agree (fun i hi => by
    show (pv (s_n S) b i).isSome = decide (b i ≠ i)
    unfold pv
    rw [if_pos (show i < s_n S from hi)]
    by_cases e : b i = i
    · rw [if_pos e]; simp [e]
    · rw [if_neg e]; simp [e])
  rw [ec] at hcg
  refine K_pop dX3_best_10 rfl rfl ?_
  refine K_aload_n dX3_best_11 rfl rfl ?_
  refine K_cv (ci := 3) (d1 := d - 1) [] dX3_best_12 ml_X3_121 (by decide) rfl rfl rfl (Nat.le_of_ble_eq_true rfl) hcg (by omega) rfl ?_
  refine K_iret dX3_best_15 rfl ?_
  exact ⟨rfl, b3, (FX.c0 N).trans b4⟩
set_option maxRecDepth 100000 in
theorem c_X3_mend {d : Nat} (hd : 7 ≤ d) {S : GS} {N : Mem} {K : Mej} (R : RX S N K) (w : WF S) : CK d mX3_mend [.ref 0] N K (PRX (o_mend S).1 (o_mend S).2 N) := by
  have hpr := c_X3_planRings (d := d - 1) (k := true) (by omega) R.c0 w.c0
  refine CK.start [(0, _)] (plainFor_of_name (by decide)) (Nat.le_of_ble_eq_true rfl) rfl ?_
  refine K_aload_n dX3_mend_0 rfl rfl ?_
  refine K_iconst (v := nI 0) dX3_mend_1 (by decide) rfl ?_
  refine K_putZ dX3_mend_2 fl_X3_61 (by first | rfl | exact sk_rk (by omega) | exact sk_hh (by omega)) rfl rfl rfl (by first | exact bI_01 _ | exact Or.inl rfl | exact Or.inr rfl | assumption) rfl ?_
  refine K_aload_n dX3_mend_5 rfl rfl ?_
  refine K_sipush (v := nI 1000) dX3_mend_6 (by decide) rfl ?_
  refine K_callV (ci := 3) (d1 := d - 1) [_] dX3_mend_9 ml_X3_173 (by decide) rfl rfl rfl (Nat.le_of_ble_eq_true rfl) hpr (by omega) rfl ?_
  rintro r N2 K2 ⟨b, b1, b2, b3, b4⟩
  subst b2
  rw [mend_of w (IsB_gC b1)]
  refine K_iret dX3_mend_12 rfl ?_
  exact ⟨rfl, b3, (FX.c0 N).trans b4⟩
