/-! the class's growWay, growWays, findRings -/
theorem or_gt {A i : Nat} (h : A.testBit i = false) : A < A ||| 2 ^ i := by
  have h1 : A ≤ A ||| 2 ^ i := Nat.left_le_or
  rcases Nat.lt_or_ge A (A ||| 2 ^ i) with h2 | h2
  · exact h2
  · have e : A = A ||| 2 ^ i := by omega
    have := congrArg (fun z => Nat.testBit z i) e
    simp only [or_bit, h] at this
    simp at this
def gwO (S : GS) (k : Bool) (s A j : Nat) (v : Int) (O : Nat → Nat → Option Int) (i : Nat) : Nat → Nat → Option Int := fun B j2 => if j2 < i ∧ B = A ||| 2 ^ j2 ∧ A.testBit j2 = false ∧ s_tk S (s + 1 + j) (s + 1 + j2) = true then omx (O B j2) (some (v + cc S k (s + 1 + j) (s + 1 + j2))) else O B j2
theorem gwO_le {S : GS} {k : Bool} {s A j : Nat} {v : Int} {O : Nat → Nat → Option Int} {i B j2 : Nat} (h : B ≤ A) : gwO S k s A j v O i B j2 = O B j2 := if_neg (fun z => by
  have := or_gt z.2.2.1
  rw [← z.2.1] at this
  omega)
theorem l_X1_growWay {d : Nat} (hd : 1 ≤ d) {S : GS} {k : Bool} {s A j : Nat} {v : Int} {O : Nat → Nat → Option Int} {N : Mem} {K0 : Mej} (hn : s_n S ≤ 10) (hs : s < s_n S) (hA : A < 2 ^ (s_n S - 1 - s)) (hj : s + 1 + j < s_n S) (E : ETb S k K0) (hv : O A j = some v) (bO : SndO S k s O) :
    ∀ (kk i : Nat) (K : Mej), i + kk = s_n S - 1 - s → (∀ b, b ≠ 13 → K b = K0 b) → OTb S s (gwO S k s A j v O i) K → EK d mX1_growWay (fun r N1 K1 => r = none ∧ N1 = N ∧ (∀ b, b ≠ 13 → K1 b = K0 b) ∧ OTb S s (gwO S k s A j v O (s_n S - 1 - s)) K1) 27 [(0, .ref 6), (1, .int (nI s)), (2, .int (nI A)), (3, .int (nI j)), (4, .int (nI (s_n S - 1 - s))), (5, .int (nI ((s + 1 + j) * 10 + s + 1))), (6, .int (nI i))] [] N K
  | 0, i, K, e, hF, hO => by
    have hi : i = s_n S - 1 - s := by omega
    subst hi
    refine K_iload dX1_growWay_27 rfl rfl ?_
    refine K_iload dX1_growWay_29 rfl rfl ?_
    refine K_icmp_geN (tgt := 119) dX1_growWay_31 (by decide) rfl (by first | omega | fail) (by first | omega | fail) (fun c31 => ?_) (fun c31 => ?_)
    · refine K_ret dX1_growWay_119 rfl ?_
      exact ⟨rfl, rfl, hF, hO⟩
    · omega
  | kk + 1, i, K, e, hF, hO => by
    have p := p9 (s := s) hn
    have h12 : K 12 ((s + 1 + j) * 10 + s + 1 + i) = jO (ed S k (s + 1 + j) (s + 1 + i)) := by
      rw [hF 12 (by decide), show (s + 1 + j) * 10 + s + 1 + i = (s + 1 + j) * 10 + (s + 1 + i) by omega]
      exact E _ _ (by omega) (by omega)
    have h13 : K 13 (A * 9 + j) = jO (some v) := by rw [hO A j hA (by omega), gwO_le (Nat.le_refl A), hv]
    have eb := ed_b (S := S) (k := k) (f := s + 1 + j) (g := s + 1 + i) (by omega)
    have bv := bO.b hn A j v hv
    have bc := cc_b (S := S) (k := k) (f := s + 1 + j) (g := s + 1 + i) (by omega)
    have skip : ¬ (A.testBit i = false ∧ s_tk S (s + 1 + j) (s + 1 + i) = true) → EK d mX1_growWay (fun r N1 K1 => r = none ∧ N1 = N ∧ (∀ b, b ≠ 13 → K1 b = K0 b) ∧ OTb S s (gwO S k s A j v O (s_n S - 1 - s)) K1) 27 [(0, .ref 6), (1, .int (nI s)), (2, .int (nI A)), (3, .int (nI j)), (4, .int (nI (s_n S - 1 - s))), (5, .int (nI ((s + 1 + j) * 10 + s + 1))), (6, .int (nI (i + 1)))] [] N K := fun z =>
      l_X1_growWay hd hn hs hA hj E hv bO kk (i + 1) K (by omega) hF (fun B j2 hB hj2 => by
        rw [hO B j2 hB hj2]
        unfold gwO
        by_cases e3 : j2 < i ∧ B = A ||| 2 ^ j2 ∧ A.testBit j2 = false ∧ s_tk S (s + 1 + j) (s + 1 + j2) = true
        · rw [if_pos e3, if_pos ⟨by omega, e3.2⟩]
        · rw [if_neg e3, if_neg (fun y => by
            by_cases e4 : j2 = i
            · subst e4; exact z y.2.2
            · exact e3 ⟨by omega, y.2⟩)])
    cases hb : A.testBit i with
    | true =>
      refine K_iload dX1_growWay_27 rfl rfl ?_
      refine K_iload dX1_growWay_29 rfl rfl ?_
      refine K_icmp_geN (tgt := 119) dX1_growWay_31 (by decide) rfl (by first | omega | fail) (by first | omega | fail) (fun c31 => ?_) (fun c31 => ?_)
      · omega
      · refine K_iload_n dX1_growWay_34 rfl rfl ?_
        refine K_iload dX1_growWay_35 rfl rfl ?_
        first | refine K_shrN dX1_growWay_37 (by first | omega | fail) (by first | omega | fail) rfl ?_ | refine K_ishr dX1_growWay_37 rfl ?_
        refine K_iconst (v := nI 1) dX1_growWay_38 (by decide) rfl ?_
        first | refine K_bitN dX1_growWay_39 rfl ?_ | refine K_andN dX1_growWay_39 rfl ?_ | refine K_iand dX1_growWay_39 rfl ?_
        refine K_if_neB (tgt := 113) dX1_growWay_40 (by decide) rfl (fun c40 => ?_) (fun c40 => ?_)
        · first | refine K_incN (lv' := [(0, _), (1, _), (2, _), (3, _), (4, _), (5, _), (6, _)]) dX1_growWay_113 rfl (by decide) rfl rfl ?_ | refine K_iinc (lv' := [(0, _), (1, _), (2, _), (3, _), (4, _), (5, _), (6, _)]) dX1_growWay_113 rfl rfl (by decide) rfl rfl ?_
          refine K_goto (tgt := 27) dX1_growWay_116 (by decide) ?_
          exact skip (fun z => by rw [hb] at z; cases z.1)
        · rw [hb] at c40; cases c40
    | false =>
      cases ht : s_tk S (s + 1 + j) (s + 1 + i) with
      | false =>
        rw [ed_f ht] at h12
        refine K_iload dX1_growWay_27 rfl rfl ?_
        refine K_iload dX1_growWay_29 rfl rfl ?_
        refine K_icmp_geN (tgt := 119) dX1_growWay_31 (by decide) rfl (by first | omega | fail) (by first | omega | fail) (fun c31 => ?_) (fun c31 => ?_)
        · omega
        · refine K_iload_n dX1_growWay_34 rfl rfl ?_
          refine K_iload dX1_growWay_35 rfl rfl ?_
          first | refine K_shrN dX1_growWay_37 (by first | omega | fail) (by first | omega | fail) rfl ?_ | refine K_ishr dX1_growWay_37 rfl ?_
          refine K_iconst (v := nI 1) dX1_growWay_38 (by decide) rfl ?_
          first | refine K_bitN dX1_growWay_39 rfl ?_ | refine K_andN dX1_growWay_39 rfl ?_ | refine K_iand dX1_growWay_39 rfl ?_
          refine K_if_neB (tgt := 113) dX1_growWay_40 (by decide) rfl (fun c40 => ?_) (fun c40 => ?_)
          · rw [hb] at c40; cases c40
          · refine K_aload_n dX1_growWay_43 rfl rfl ?_
            refine K_getR (r := 12) dX1_growWay_44 fl_X1_15 rfl rfl rfl rfl ?_
            refine K_iload dX1_growWay_47 rfl rfl ?_
            refine K_iload dX1_growWay_49 rfl rfl ?_
            refine K_addN dX1_growWay_51 rfl ?_
            refine K_lald dX1_growWay_52 (by first | rfl | exact sk_rk (by omega) | exact sk_hh (by omega)) (by first | omega | fail) (by decide) (by first | assumption | rfl) rfl ?_
            refine K_ldc2 dX1_growWay_53 kl_X1_33 rfl ?_
            refine K_lcmp dX1_growWay_56 rfl ?_
            refine K_if_eq (tgt := 113) dX1_growWay_57 (by decide) rfl (fun c57 => ?_) (fun c57 => ?_)
            · first | refine K_incN (lv' := [(0, _), (1, _), (2, _), (3, _), (4, _), (5, _), (6, _)]) dX1_growWay_113 rfl (by decide) rfl rfl ?_ | refine K_iinc (lv' := [(0, _), (1, _), (2, _), (3, _), (4, _), (5, _), (6, _)]) dX1_growWay_113 rfl rfl (by decide) rfl rfl ?_
              refine K_goto (tgt := 27) dX1_growWay_116 (by decide) ?_
              exact skip (fun z => by rw [ht] at z; cases z.2)
            · exact absurd ((lg_cmp_eq _ _).mpr rfl) c57
      | true =>
        rw [ed_t ht] at h12 eb
        have hAi : A ||| 2 ^ i < 2 ^ (s_n S - 1 - s) := Nat.or_lt_two_pow hA (Nat.pow_lt_pow_right (by omega) (by omega))
        have h13b : K 13 ((A ||| 2 ^ i) * 9 + i) = jO (O (A ||| 2 ^ i) i) := by
          rw [hO _ _ hAi (by omega)]
          unfold gwO
          rw [if_neg (fun z => by omega)]
        have nm : jO (some (cc S k (s + 1 + j) (s + 1 + i))) ≠ -4611686018427387904 := fun z => by
          have := (jO_eq eb).mp z
          cases this
        have es : jO (some v) + jO (some (cc S k (s + 1 + j) (s + 1 + i))) = jO (some (v + cc S k (s + 1 + j) (s + 1 + i))) := (Int64.ofInt_add _ _).symm
        have hmx : CK (d - 1) mJ9_max_f86c9 [.long (jO (O (A ||| 2 ^ i) i)), .long (jO (some v) + jO (some (cc S k (s + 1 + j) (s + 1 + i))))] N K (PX (some (.long (jO (omx (O (A ||| 2 ^ i) i) (some (v + cc S k (s + 1 + j) (s + 1 + i))))))) N K) := by
          rw [es, ← mx_jO (fun x e => jB_of (by have := bO.b hn _ _ x e; omega)) (fun x e => by cases e; exact jB_of (by omega))]
          exact c_J9_max_f86c9
        have ih := l_X1_growWay (d := d) (N := N) hd hn hs hA hj E hv bO kk (i + 1) (sJ K 13 ((A ||| 2 ^ i) * 9 + i) (jO (omx (O (A ||| 2 ^ i) i) (some (v + cc S k (s + 1 + j) (s + 1 + i)))))) (by omega) (fun b hb => (sJ_row hb).trans (hF b hb)) (fun B j2 hB hj2 => by
          rw [sJ_at]
          by_cases e3 : B = A ||| 2 ^ i ∧ j2 = i
          · rw [if_pos ⟨rfl, by rw [e3.1, e3.2]⟩]
            unfold gwO
            rw [if_pos ⟨by omega, by rw [e3.1, e3.2], by rw [e3.2]; exact hb, by rw [e3.2]; exact ht⟩, e3.1, e3.2]
          · rw [if_neg (by omega), hO B j2 hB hj2]
            unfold gwO
            by_cases e4 : j2 < i ∧ B = A ||| 2 ^ j2 ∧ A.testBit j2 = false ∧ s_tk S (s + 1 + j) (s + 1 + j2) = true
            · rw [if_pos e4, if_pos ⟨by omega, e4.2⟩]
            · rw [if_neg e4, if_neg (fun y => by
                by_cases e5 : j2 = i
                · exact e3 ⟨by rw [y.2.1, e5], e5⟩
                · exact e4 ⟨by omega, y.2⟩)])
        refine K_iload dX1_growWay_27 rfl rfl ?_
        refine K_iload dX1_growWay_29 rfl rfl ?_
        refine K_icmp_geN (tgt := 119) dX1_growWay_31 (by decide) rfl (by first | omega | fail) (by first | omega | fail) (fun c31 => ?_) (fun c31 => ?_)
        · omega
        · refine K_iload_n dX1_growWay_34 rfl rfl ?_
          refine K_iload dX1_growWay_35 rfl rfl ?_
          first | refine K_shrN dX1_growWay_37 (by first | omega | fail) (by first | omega | fail) rfl ?_ | refine K_ishr dX1_growWay_37 rfl ?_
          refine K_iconst (v := nI 1) dX1_growWay_38 (by decide) rfl ?_
          first | refine K_bitN dX1_growWay_39 rfl ?_ | refine K_andN dX1_growWay_39 rfl ?_ | refine K_iand dX1_growWay_39 rfl ?_
          refine K_if_neB (tgt := 113) dX1_growWay_40 (by decide) rfl (fun c40 => ?_) (fun c40 => ?_)
          · rw [hb] at c40; cases c40
          · refine K_aload_n dX1_growWay_43 rfl rfl ?_
            refine K_getR (r := 12) dX1_growWay_44 fl_X1_15 rfl rfl rfl rfl ?_
            refine K_iload dX1_growWay_47 rfl rfl ?_
            refine K_iload dX1_growWay_49 rfl rfl ?_
            refine K_addN dX1_growWay_51 rfl ?_
            refine K_lald dX1_growWay_52 (by first | rfl | exact sk_rk (by omega) | exact sk_hh (by omega)) (by first | omega | fail) (by decide) (by first | assumption | rfl) rfl ?_
            refine K_ldc2 dX1_growWay_53 kl_X1_33 rfl ?_
            refine K_lcmp dX1_growWay_56 rfl ?_
            refine K_if_eq (tgt := 113) dX1_growWay_57 (by decide) rfl (fun c57 => ?_) (fun c57 => ?_)
            · exact absurd ((lg_cmp_eq _ _).mp c57) nm
            · refine K_iload_n dX1_growWay_60 rfl rfl ?_
              refine K_iconst (v := nI 1) dX1_growWay_61 (by decide) rfl ?_
              refine K_iload dX1_growWay_62 rfl rfl ?_
              first | refine K_shl1 dX1_growWay_64 (by first | omega | fail) rfl ?_ | refine K_shlN dX1_growWay_64 (by first | omega | fail) (by first | omega | fail) rfl ?_ | refine K_ishl dX1_growWay_64 rfl ?_
              refine K_orN dX1_growWay_65 rfl ?_
              refine K_bipush (v := nI 9) dX1_growWay_66 (by decide) rfl ?_
              refine K_mulN dX1_growWay_68 rfl ?_
              refine K_iload dX1_growWay_69 rfl rfl ?_
              refine K_addN dX1_growWay_71 rfl ?_
              refine K_istore (lv' := [(0, _), (1, _), (2, _), (3, _), (4, _), (5, _), (6, _), (7, _)]) dX1_growWay_72 (by decide) rfl rfl ?_
              refine K_aload_n dX1_growWay_74 rfl rfl ?_
              refine K_getR (r := 13) dX1_growWay_75 fl_X1_18 rfl rfl rfl rfl ?_
              refine K_iload dX1_growWay_78 rfl rfl ?_
              refine K_aload_n dX1_growWay_80 rfl rfl ?_
              refine K_getR (r := 13) dX1_growWay_81 fl_X1_18 rfl rfl rfl rfl ?_
              refine K_iload dX1_growWay_84 rfl rfl ?_
              refine K_lald dX1_growWay_86 (by first | rfl | exact sk_rk (by omega) | exact sk_hh (by omega)) (by first | omega | fail) (by decide) (by first | assumption | rfl) rfl ?_
              refine K_aload_n dX1_growWay_87 rfl rfl ?_
              refine K_getR (r := 13) dX1_growWay_88 fl_X1_18 rfl rfl rfl rfl ?_
              refine K_iload_n dX1_growWay_91 rfl rfl ?_
              refine K_bipush (v := nI 9) dX1_growWay_92 (by decide) rfl ?_
              refine K_mulN dX1_growWay_94 rfl ?_
              refine K_iload_n dX1_growWay_95 rfl rfl ?_
              refine K_addN dX1_growWay_96 rfl ?_
              refine K_lald dX1_growWay_97 (by first | rfl | exact sk_rk (by omega) | exact sk_hh (by omega)) (by first | omega | fail) (by decide) (by first | assumption | rfl) rfl ?_
              refine K_aload_n dX1_growWay_98 rfl rfl ?_
              refine K_getR (r := 12) dX1_growWay_99 fl_X1_15 rfl rfl rfl rfl ?_
              refine K_iload dX1_growWay_102 rfl rfl ?_
              refine K_iload dX1_growWay_104 rfl rfl ?_
              refine K_addN dX1_growWay_106 rfl ?_
              refine K_lald dX1_growWay_107 (by first | rfl | exact sk_rk (by omega) | exact sk_hh (by omega)) (by first | omega | fail) (by decide) (by first | assumption | rfl) rfl ?_
              refine K_ladd dX1_growWay_108 rfl ?_
              refine K_sv (d1 := d - 1) [_, _] dX1_growWay_109 ml_X1_68 rfl rfl (Nat.le_of_ble_eq_true rfl) hmx (by omega) rfl ?_
              refine K_last dX1_growWay_112 (by first | rfl | exact sk_rk (by omega) | exact sk_hh (by omega)) (by first | omega | fail) (by decide) rfl ?_
              first | refine K_incN (lv' := [(0, _), (1, _), (2, _), (3, _), (4, _), (5, _), (6, _), (7, _)]) dX1_growWay_113 rfl (by decide) rfl rfl ?_ | refine K_iinc (lv' := [(0, _), (1, _), (2, _), (3, _), (4, _), (5, _), (6, _), (7, _)]) dX1_growWay_113 rfl rfl (by decide) rfl rfl ?_
              refine K_goto (tgt := 27) dX1_growWay_116 (by decide) ?_
              refine K_pick [0, 1, 2, 3, 4, 5, 6] rfl ?_
              exact ih
set_option maxRecDepth 100000 in
theorem c_X1_growWay {d : Nat} (hd : 1 ≤ d) {S : GS} {k : Bool} {s A j : Nat} {v : Int} {O : Nat → Nat → Option Int} {N : Mem} {K : Mej} (hn : s_n S ≤ 10) (hs : s < s_n S) (h5 : N 6 5 = nI (s_n S)) (hA : A < 2 ^ (s_n S - 1 - s)) (hj : s + 1 + j < s_n S) (E : ETb S k K) (TO : OTb S s O K) (hv : O A j = some v) (bO : SndO S k s O) :
    CK d mX1_growWay [.ref 6, .int (nI s), .int (nI A), .int (nI j)] N K (fun r N1 K1 => r = none ∧ N1 = N ∧ (∀ b, b ≠ 13 → K1 b = K b) ∧ OTb S s (gwO S k s A j v O (s_n S - 1 - s)) K1) := by
  refine CK.start [(0, _), (1, _), (2, _), (3, _)] (plainFor_of_name (by decide)) (Nat.le_of_ble_eq_true rfl) rfl ?_
  refine K_aload_n dX1_growWay_0 rfl rfl ?_
  refine K_getI dX1_growWay_1 fl_X1_27 (by first | rfl | exact sk_rk (by omega) | exact sk_hh (by omega)) rfl (by first | assumption | rfl) rfl ?_
  refine K_iconst (v := nI 1) dX1_growWay_4 (by decide) rfl ?_
  refine K_subN dX1_growWay_5 (by first | omega | fail) rfl ?_
  refine K_iload_n dX1_growWay_6 rfl rfl ?_
  refine K_subN dX1_growWay_7 (by first | omega | fail) rfl ?_
  refine K_istore (lv' := [(0, _), (1, _), (2, _), (3, _), (4, _)]) dX1_growWay_8 (by decide) rfl rfl ?_
  refine K_iload_n dX1_growWay_10 rfl rfl ?_
  refine K_iconst (v := nI 1) dX1_growWay_11 (by decide) rfl ?_
  refine K_addN dX1_growWay_12 rfl ?_
  refine K_iload_n dX1_growWay_13 rfl rfl ?_
  refine K_addN dX1_growWay_14 rfl ?_
  refine K_bipush (v := nI 10) dX1_growWay_15 (by decide) rfl ?_
  refine K_mulN dX1_growWay_17 rfl ?_
  refine K_iload_n dX1_growWay_18 rfl rfl ?_
  refine K_addN dX1_growWay_19 rfl ?_
  refine K_iconst (v := nI 1) dX1_growWay_20 (by decide) rfl ?_
  refine K_addN dX1_growWay_21 rfl ?_
  refine K_istore (lv' := [(0, _), (1, _), (2, _), (3, _), (4, _), (5, _)]) dX1_growWay_22 (by decide) rfl rfl ?_
  refine K_iconst (v := nI 0) dX1_growWay_24 (by decide) rfl ?_
  refine K_istore (lv' := [(0, _), (1, _), (2, _), (3, _), (4, _), (5, _), (6, _)]) dX1_growWay_25 (by decide) rfl rfl ?_
  exact l_X1_growWay hd hn hs hA hj E hv bO (s_n S - 1 - s) 0 K (by omega) (fun _ _ => rfl) (fun B j2 hB hj2 => by
    rw [TO B j2 hB hj2]
    unfold gwO
    rw [if_neg (fun z => by omega)])
theorem pS_agree {S : GS} {k : Bool} {p q : Nat → Nat} {m : Nat} (h : ∀ i, i ≤ m → p i = q i) : pS S k p m = pS S k q m := sumI_agree (fun i hi => by rw [h i (by omega), h (i + 1) (by omega)])
theorem mkF_agree {s : Nat} {p q : Nat → Nat} : ∀ {m : Nat}, (∀ i, i ≤ m → p i = q i) → mkF s p m = mkF s q m
  | 0, _ => rfl
  | m + 1, h => by
    show mkF s p m ||| 2 ^ (p (m + 1) - (s + 1)) = mkF s q m ||| 2 ^ (q (m + 1) - (s + 1))
    rw [mkF_agree (fun i hi => h i (by omega)), h (m + 1) (Nat.le_refl _)]
theorem gwO_snd {S : GS} {k : Bool} {s A j : Nat} {v : Int} {O : Nat → Nat → Option Int} (hj : s + 1 + j < s_n S) (h : SndO S k s O) (hv : O A j = some v) : SndO S k s (gwO S k s A j v O (s_n S - 1 - s)) := fun B j2 x e => by
  unfold gwO at e
  split at e
  · next hc =>
    rcases omx_or (O B j2) (some (v + cc S k (s + 1 + j) (s + 1 + j2))) with e2 | e2
    · rw [e2] at e; exact h B j2 x e
    · rw [e2] at e
      cases e
      obtain ⟨m, p, m1, hp, pm, pA, rfl⟩ := h A j v hv
      have hnew : ∀ i, i ≤ m → p i ≠ s + 1 + j2 := fun i hi e3 => by
        rcases Nat.eq_zero_or_pos i with rfl | h0
        · rw [hp.1] at e3; omega
        · have := (mkF_bit (fun i a b => (hp.2.1 i a b).1) j2).mpr ⟨i, h0, hi, e3⟩
          rw [pA, hc.2.2.1] at this
          cases this
      have ag : ∀ i, i ≤ m → (fun i => if i ≤ m then p i else s + 1 + j2) i = p i := fun i hi => if_pos hi
      refine ⟨m + 1, fun i => if i ≤ m then p i else s + 1 + j2, by omega, ⟨?_, fun i h1 h2 => ?_, fun i i2 h1 h2 => ?_, fun i hi => ?_⟩, ?_, ?_, ?_⟩
      · rw [ag 0 (Nat.zero_le _)]; exact hp.1
      · show s < (if i ≤ m then p i else s + 1 + j2) ∧ (if i ≤ m then p i else s + 1 + j2) < s_n S
        by_cases e3 : i ≤ m
        · rw [if_pos e3]; exact hp.2.1 i h1 e3
        · rw [if_neg e3]; omega
      · show (if i ≤ m then p i else s + 1 + j2) ≠ (if i2 ≤ m then p i2 else s + 1 + j2)
        rw [if_pos (by omega)]
        by_cases e3 : i2 ≤ m
        · rw [if_pos e3]; exact hp.2.2.1 i i2 h1 e3
        · rw [if_neg e3]; exact hnew i (by omega)
      · show s_tk S (if i ≤ m then p i else s + 1 + j2) (if i + 1 ≤ m then p (i + 1) else s + 1 + j2) = true
        rw [if_pos (by omega)]
        by_cases e3 : i + 1 ≤ m
        · rw [if_pos e3]; exact hp.2.2.2 i (by omega)
        · rw [if_neg e3, show i = m by omega, pm]; exact hc.2.2.2
      · show (if m + 1 ≤ m then p (m + 1) else s + 1 + j2) = s + 1 + j2
        rw [if_neg (by omega)]
      · show mkF s (fun i => if i ≤ m then p i else s + 1 + j2) m ||| 2 ^ ((if m + 1 ≤ m then p (m + 1) else s + 1 + j2) - (s + 1)) = B
        rw [mkF_agree ag, if_neg (by omega), pA, show s + 1 + j2 - (s + 1) = j2 by omega]
        exact hc.2.1.symm
      · show pS S k p m + cc S k (s + 1 + j) (s + 1 + j2) = pS S k (fun i => if i ≤ m then p i else s + 1 + j2) m + cc S k (if m ≤ m then p m else s + 1 + j2) (if m + 1 ≤ m then p (m + 1) else s + 1 + j2)
        rw [pS_agree ag, if_pos (Nat.le_refl m), if_neg (by omega), pm]
  · exact h B j2 x e
theorem gwO_mono {S : GS} {k : Bool} {s A j : Nat} {v : Int} {O : Nat → Nat → Option Int} {i B j2 : Nat} {x : Int} (h : geO (O B j2) x) : geO (gwO S k s A j v O i B j2) x := by
  unfold gwO
  split
  · exact omx_l h
  · exact h
theorem clR_mono {S : GS} {k : Bool} {s A j : Nat} {v : Int} {R : Nat → Option Int} {X : Nat} {x : Int} (h : geO (R X) x) : geO (clR S k s A j v R X) x := by
  unfold clR
  split
  · unfold upR
    split
    · next e => rw [e] at h; exact omx_l h
    · exact h
  · exact h
theorem clR_snd {S : GS} {k : Bool} {s A j : Nat} {v : Int} {O : Nat → Nat → Option Int} {R : Nat → Option Int} (hn : s_n S ≤ 10) (hs : s < s_n S) (h : SndR S k R) (hO : SndO S k s O) (hv : O A j = some v) (hm : pop A + 1 ≤ s_mo S) : SndR S k (clR S k s A j v R) := fun X x e => by
  unfold clR at e
  split at e
  · next ht =>
    unfold upR at e
    split at e
    · next eX =>
      rcases omx_or (R (A * 2 ^ (s + 1) ||| 2 ^ s)) (some (v + cc S k (s + 1 + j) s)) with e2 | e2
      · rw [e2] at e; rw [eX]; exact h _ x e
      · rw [e2] at e
        cases e
        obtain ⟨m, p, m1, hp, pm, pA, rfl⟩ := hO A j v hv
        have := (mkF_pop hn hp).1
        rw [pA] at this
        exact ⟨s, m, p, hs, m1, by omega, hp, by rw [pm]; exact ht, by rw [eX, ← pA, am_mk hp], by rw [pm]⟩
    · exact h X x e
  · exact h X x e
theorem PrO.mono {S : GS} {k : Bool} {s A j : Nat} {O O2 : Nat → Nat → Option Int} {R R2 : Nat → Option Int} (h : PrO S k s O R A j) (hO : O2 A j = O A j) (h1 : ∀ B i x, geO (O B i) x → geO (O2 B i) x) (h2 : ∀ X x, geO (R X) x → geO (R2 X) x) : PrO S k s O2 R2 A j := fun v e hm => by
  rw [hO] at e
  obtain ⟨a, b⟩ := h v e hm
  exact ⟨fun ht => h2 _ _ (a ht), fun h3 j2 h4 h5 h6 => h1 _ _ _ (b h3 j2 h4 h5 h6)⟩
theorem CmR.mono {S : GS} {k : Bool} {s : Nat} {R R2 : Nat → Option Int} (h : CmR S k R s) (h2 : ∀ X x, geO (R X) x → geO (R2 X) x) : CmR S k R2 s := fun m p a b c e => h2 _ _ (h m p a b c e)
def GI (S : GS) (k : Bool) (s : Nat) (O : Nat → Nat → Option Int) (R : Nat → Option Int) (K0 K : Mej) : Prop := SndO S k s O ∧ SndR S k R ∧ IniO S k s O ∧ OTb S s O K ∧ RTb S R K ∧ (∀ s2, s2 < s → CmR S k R s2) ∧ ∀ b, b ≠ 13 → b ≠ 14 → K b = K0 b
theorem li_X1_growWays {d : Nat} (hd : 2 ≤ d) {S : GS} {k : Bool} {s A : Nat} {N : Mem} {K0 : Mej} {Post : PK} (hn : s_n S ≤ 10) (hmo : s_mo S ≤ 10) (hs : s < s_n S) (h5 : N 6 5 = nI (s_n S)) (E : ETb S k K0) (hA : A < 2 ^ (s_n S - 1 - s)) (A0 : 0 < A)
    (next : ∀ O R K, GI S k s O R K0 K → (∀ B i, 0 < B → B < A + 1 → s + 1 + i < s_n S → PrO S k s O R B i) → EK d mX1_growWays Post 12 [(0, .ref 6), (1, .int (nI s)), (2, .int (nI (s_mo S))), (3, .int (nI (s_n S - 1 - s))), (4, .int (nI (A + 1)))] [] N K) :
    ∀ (kk j : Nat) (O : Nat → Nat → Option Int) (R : Nat → Option Int) (K : Mej), j + kk = s_n S - 1 - s → GI S k s O R K0 K → (∀ B i, 0 < B → B < A → s + 1 + i < s_n S → PrO S k s O R B i) → (∀ i, i < j → PrO S k s O R A i) → EK d mX1_growWays Post 32 [(0, .ref 6), (1, .int (nI s)), (2, .int (nI (s_mo S))), (3, .int (nI (s_n S - 1 - s))), (4, .int (nI A)), (5, .int (nI (pop A + 1))), (6, .int (nI j))] [] N K
  | 0, j, O, R, K, e, I, hB, hj => by
    have pl := pop_le A
    have p := p9 (s := s) hn
    refine K_iload dX1_growWays_32 rfl rfl ?_
    refine K_iload_n dX1_growWays_34 rfl rfl ?_
    refine K_icmp_geN (tgt := 94) dX1_growWays_35 (by decide) rfl (by first | omega | fail) (by first | omega | fail) (fun c35 => ?_) (fun c35 => ?_)
    · first | refine K_incN (lv' := [(0, _), (1, _), (2, _), (3, _), (4, _), (5, _), (6, _)]) dX1_growWays_94 rfl (by decide) rfl rfl ?_ | refine K_iinc (lv' := [(0, _), (1, _), (2, _), (3, _), (4, _), (5, _), (6, _)]) dX1_growWays_94 rfl rfl (by decide) rfl rfl ?_
      refine K_goto (tgt := 12) dX1_growWays_97 (by decide) ?_
      refine K_pick [0, 1, 2, 3, 4] rfl ?_
      exact next O R K I (fun B i b1 b2 b3 => by
        rcases Nat.lt_succ_iff_lt_or_eq.mp b2 with b2 | rfl
        · exact hB B i b1 b2 b3
        · exact hj i (by omega))
    · omega
  | kk + 1, j, O, R, K, e, I, hB, hj => by
    have pl := pop_le A
    have p := p9 (s := s) hn
    by_cases hlen : s_mo S < pop A + 1
    · have _u := hlen
      refine K_iload dX1_growWays_32 rfl rfl ?_
      refine K_iload_n dX1_growWays_34 rfl rfl ?_
      refine K_icmp_geN (tgt := 94) dX1_growWays_35 (by decide) rfl (by first | omega | fail) (by first | omega | fail) (fun c35 => ?_) (fun c35 => ?_)
      · omega
      · refine K_iload dX1_growWays_38 rfl rfl ?_
        refine K_iload_n dX1_growWays_40 rfl rfl ?_
        refine K_icmp_gtN (tgt := 94) dX1_growWays_41 (by decide) rfl (by first | omega | fail) (by first | omega | fail) (fun c41 => ?_) (fun c41 => ?_)
        · first | refine K_incN (lv' := [(0, _), (1, _), (2, _), (3, _), (4, _), (5, _), (6, _)]) dX1_growWays_94 rfl (by decide) rfl rfl ?_ | refine K_iinc (lv' := [(0, _), (1, _), (2, _), (3, _), (4, _), (5, _), (6, _)]) dX1_growWays_94 rfl rfl (by decide) rfl rfl ?_
          refine K_goto (tgt := 12) dX1_growWays_97 (by decide) ?_
          refine K_pick [0, 1, 2, 3, 4] rfl ?_
          exact next O R K I (fun B i b1 b2 b3 => by
            rcases Nat.lt_succ_iff_lt_or_eq.mp b2 with b2 | rfl
            · exact hB B i b1 b2 b3
            · exact fun v _ hm => by omega)
        · omega
    · have hjn : s + 1 + j < s_n S := by omega
      obtain ⟨i1, i2, i3, i4, i5, i6, i7⟩ := I
      have E1 : ETb S k K := fun f g hf hg => by rw [i7 12 (by decide) (by decide)]; exact E f g hf hg
      have h13 := i4 A j hA (by omega)
      have step : ∀ (O2 : Nat → Nat → Option Int) (R2 : Nat → Option Int) (K2 : Mej), GI S k s O2 R2 K0 K2 → (∀ B i, B ≤ A → O2 B i = O B i) → (∀ B i x, geO (O B i) x → geO (O2 B i) x) → (∀ X x, geO (R X) x → geO (R2 X) x) → PrO S k s O2 R2 A j → EK d mX1_growWays Post 32 [(0, .ref 6), (1, .int (nI s)), (2, .int (nI (s_mo S))), (3, .int (nI (s_n S - 1 - s))), (4, .int (nI A)), (5, .int (nI (pop A + 1))), (6, .int (nI (j + 1)))] [] N K2 := fun O2 R2 K2 J a1 a2 a3 a4 =>
        li_X1_growWays hd hn hmo hs h5 E hA A0 next kk (j + 1) O2 R2 K2 (by omega) J (fun B i b1 b2 b3 => (hB B i b1 b2 b3).mono (a1 B i (by omega)) a2 a3) (fun i hi => by
          rcases Nat.lt_succ_iff_lt_or_eq.mp hi with hi | rfl
          · exact (hj i hi).mono (a1 A i (Nat.le_refl A)) a2 a3
          · exact a4)
      cases hv : O A j with
      | none =>
        rw [hv] at h13
        refine K_iload dX1_growWays_32 rfl rfl ?_
        refine K_iload_n dX1_growWays_34 rfl rfl ?_
        refine K_icmp_geN (tgt := 94) dX1_growWays_35 (by decide) rfl (by first | omega | fail) (by first | omega | fail) (fun c35 => ?_) (fun c35 => ?_)
        · omega
        · refine K_iload dX1_growWays_38 rfl rfl ?_
          refine K_iload_n dX1_growWays_40 rfl rfl ?_
          refine K_icmp_gtN (tgt := 94) dX1_growWays_41 (by decide) rfl (by first | omega | fail) (by first | omega | fail) (fun c41 => ?_) (fun c41 => ?_)
          · omega
          · refine K_aload_n dX1_growWays_44 rfl rfl ?_
            refine K_getR (r := 13) dX1_growWays_45 fl_X1_18 rfl rfl rfl rfl ?_
            refine K_iload dX1_growWays_48 rfl rfl ?_
            refine K_bipush (v := nI 9) dX1_growWays_50 (by decide) rfl ?_
            refine K_mulN dX1_growWays_52 rfl ?_
            refine K_iload dX1_growWays_53 rfl rfl ?_
            refine K_addN dX1_growWays_55 rfl ?_
            refine K_lald dX1_growWays_56 (by first | rfl | exact sk_rk (by omega) | exact sk_hh (by omega)) (by first | omega | fail) (by decide) (by first | assumption | rfl) rfl ?_
            refine K_ldc2 dX1_growWays_57 kl_X1_33 rfl ?_
            refine K_lcmp dX1_growWays_60 rfl ?_
            refine K_if_eq (tgt := 88) dX1_growWays_61 (by decide) rfl (fun c61 => ?_) (fun c61 => ?_)
            · first | refine K_incN (lv' := [(0, _), (1, _), (2, _), (3, _), (4, _), (5, _), (6, _)]) dX1_growWays_88 rfl (by decide) rfl rfl ?_ | refine K_iinc (lv' := [(0, _), (1, _), (2, _), (3, _), (4, _), (5, _), (6, _)]) dX1_growWays_88 rfl rfl (by decide) rfl rfl ?_
              refine K_goto (tgt := 32) dX1_growWays_91 (by decide) ?_
              exact step O R K ⟨i1, i2, i3, i4, i5, i6, i7⟩ (fun _ _ _ => rfl) (fun _ _ _ h => h) (fun _ _ h => h) (fun v e2 => by rw [hv] at e2; cases e2)
            · exact absurd ((lg_cmp_eq _ _).mpr rfl) c61
      | some v =>
        rw [hv] at h13
        have nm : jO (some v) ≠ -4611686018427387904 := fun z => by
          have := (jO_eq (o := some v) (fun x e2 => by cases e2; exact jB_of (by have := i1.b hn A j v hv; omega))).mp z
          cases this
        have hcl := c_X1_closeWay (d := d - 1) (N := N) (by omega) hn hs hA hjn E1 i4 i5 hv i1 i2
        have sR := clR_snd hn hs i2 i1 hv (by omega)
        refine K_iload dX1_growWays_32 rfl rfl ?_
        refine K_iload_n dX1_growWays_34 rfl rfl ?_
        refine K_icmp_geN (tgt := 94) dX1_growWays_35 (by decide) rfl (by first | omega | fail) (by first | omega | fail) (fun c35 => ?_) (fun c35 => ?_)
        · omega
        · refine K_iload dX1_growWays_38 rfl rfl ?_
          refine K_iload_n dX1_growWays_40 rfl rfl ?_
          refine K_icmp_gtN (tgt := 94) dX1_growWays_41 (by decide) rfl (by first | omega | fail) (by first | omega | fail) (fun c41 => ?_) (fun c41 => ?_)
          · omega
          · refine K_aload_n dX1_growWays_44 rfl rfl ?_
            refine K_getR (r := 13) dX1_growWays_45 fl_X1_18 rfl rfl rfl rfl ?_
            refine K_iload dX1_growWays_48 rfl rfl ?_
            refine K_bipush (v := nI 9) dX1_growWays_50 (by decide) rfl ?_
            refine K_mulN dX1_growWays_52 rfl ?_
            refine K_iload dX1_growWays_53 rfl rfl ?_
            refine K_addN dX1_growWays_55 rfl ?_
            refine K_lald dX1_growWays_56 (by first | rfl | exact sk_rk (by omega) | exact sk_hh (by omega)) (by first | omega | fail) (by decide) (by first | assumption | rfl) rfl ?_
            refine K_ldc2 dX1_growWays_57 kl_X1_33 rfl ?_
            refine K_lcmp dX1_growWays_60 rfl ?_
            refine K_if_eq (tgt := 88) dX1_growWays_61 (by decide) rfl (fun c61 => ?_) (fun c61 => ?_)
            · exact absurd ((lg_cmp_eq _ _).mp c61) nm
            · refine K_aload_n dX1_growWays_64 rfl rfl ?_
              refine K_iload_n dX1_growWays_65 rfl rfl ?_
              refine K_iload dX1_growWays_66 rfl rfl ?_
              refine K_iload dX1_growWays_68 rfl rfl ?_
              refine K_callV (ci := 1) (d1 := d - 1) [_, _, _] dX1_growWays_70 ml_X1_61 (by decide) rfl rfl rfl (Nat.le_of_ble_eq_true rfl) hcl (by omega) rfl ?_
              rintro r N2 K2 ⟨z1, z2, z3, z4⟩
              subst z1
              subst z2
              have E2 : ETb S k K2 := fun f g hf hg => by rw [z3 12 (by decide)]; exact E1 f g hf hg
              have T2 : OTb S s O K2 := fun B i a b => by rw [z3 13 (by decide)]; exact i4 B i a b
              have F2 : ∀ b, b ≠ 13 → b ≠ 14 → K2 b = K0 b := fun b b1 b2 => (z3 b b2).trans (i7 b b1 b2)
              have C2 : ∀ s2, s2 < s → CmR S k (clR S k s A j v R) s2 := fun s2 h => (i6 s2 h).mono (fun _ _ h => clR_mono h)
              have clo2 : s_tk S (s + 1 + j) s = true → geO (clR S k s A j v R (A * 2 ^ (s + 1) ||| 2 ^ s)) (v + cc S k (s + 1 + j) s) := fun ht => by
                unfold clR upR
                rw [if_pos ht, if_pos rfl]
                exact omx_r
              refine K_iload dX1_growWays_73 rfl rfl ?_
              refine K_iload_n dX1_growWays_75 rfl rfl ?_
              refine K_icmp_geN (tgt := 88) dX1_growWays_76 (by decide) rfl (by first | omega | fail) (by first | omega | fail) (fun c76 => ?_) (fun c76 => ?_)
              · first | refine K_incN (lv' := [(0, _), (1, _), (2, _), (3, _), (4, _), (5, _), (6, _)]) dX1_growWays_88 rfl (by decide) rfl rfl ?_ | refine K_iinc (lv' := [(0, _), (1, _), (2, _), (3, _), (4, _), (5, _), (6, _)]) dX1_growWays_88 rfl rfl (by decide) rfl rfl ?_
                refine K_goto (tgt := 32) dX1_growWays_91 (by decide) ?_
                first | exact step (gwO S k s A j v O (s_n S - 1 - s)) (clR S k s A j v R) K3 ⟨gwO_snd hjn i1 hv, sR, fun i a b => gwO_mono (i3 i a b), y4, fun X hX => by rw [y3 14 (by decide)]; exact z4 X hX, C2, fun b b1 b2 => (y3 b b1).trans (F2 b b1 b2)⟩ (fun B i h => gwO_le h) (fun _ _ _ h => gwO_mono h) (fun _ _ h => clR_mono h) (fun x e2 _ => by
                  rw [gwO_le (Nat.le_refl A), hv] at e2
                  cases e2
                  refine ⟨clo2, fun _ j2 a b c => ?_⟩
                  unfold gwO
                  rw [if_pos ⟨by omega, rfl, b, c⟩]
                  exact omx_r) | exact step O (clR S k s A j v R) K2 ⟨i1, sR, i3, T2, z4, C2, F2⟩ (fun _ _ _ => rfl) (fun _ _ _ h => h) (fun _ _ h => clR_mono h) (fun x e2 _ => by
                  rw [hv] at e2
                  cases e2
                  exact ⟨clo2, fun h3 => by omega⟩)
              · refine K_aload_n dX1_growWays_79 rfl rfl ?_
                refine K_iload_n dX1_growWays_80 rfl rfl ?_
                refine K_iload dX1_growWays_81 rfl rfl ?_
                refine K_iload dX1_growWays_83 rfl rfl ?_
                refine K_callV (ci := 1) (d1 := d - 1) [_, _, _] dX1_growWays_85 ml_X1_65 (by decide) rfl rfl rfl (Nat.le_of_ble_eq_true rfl) (c_X1_growWay (by omega) hn hs h5 hA hjn E2 T2 hv i1) (by omega) rfl ?_
                rintro r N3 K3 ⟨y1, y2, y3, y4⟩
                subst y1
                subst y2
                first | refine K_incN (lv' := [(0, _), (1, _), (2, _), (3, _), (4, _), (5, _), (6, _)]) dX1_growWays_88 rfl (by decide) rfl rfl ?_ | refine K_iinc (lv' := [(0, _), (1, _), (2, _), (3, _), (4, _), (5, _), (6, _)]) dX1_growWays_88 rfl rfl (by decide) rfl rfl ?_
                refine K_goto (tgt := 32) dX1_growWays_91 (by decide) ?_
                first | exact step (gwO S k s A j v O (s_n S - 1 - s)) (clR S k s A j v R) K3 ⟨gwO_snd hjn i1 hv, sR, fun i a b => gwO_mono (i3 i a b), y4, fun X hX => by rw [y3 14 (by decide)]; exact z4 X hX, C2, fun b b1 b2 => (y3 b b1).trans (F2 b b1 b2)⟩ (fun B i h => gwO_le h) (fun _ _ _ h => gwO_mono h) (fun _ _ h => clR_mono h) (fun x e2 _ => by
                  rw [gwO_le (Nat.le_refl A), hv] at e2
                  cases e2
                  refine ⟨clo2, fun _ j2 a b c => ?_⟩
                  unfold gwO
                  rw [if_pos ⟨by omega, rfl, b, c⟩]
                  exact omx_r) | exact step O (clR S k s A j v R) K2 ⟨i1, sR, i3, T2, z4, C2, F2⟩ (fun _ _ _ => rfl) (fun _ _ _ h => h) (fun _ _ h => clR_mono h) (fun x e2 _ => by
                  rw [hv] at e2
                  cases e2
                  exact ⟨clo2, fun h3 => by omega⟩)
