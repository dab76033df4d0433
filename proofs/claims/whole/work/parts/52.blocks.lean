/-! the class's tellShortestRing and blocks -/
def ShI (h : Nat → Nat) (n i sh st : Nat) : Prop := (sh = 11 ∧ st = 0 ∧ ∀ j, j < i → lnF h n j = 0) ∨ (st < i ∧ lnF h n st = sh ∧ (0 < sh ∧ sh ≤ 10) ∧ (∀ j, j < i → lnF h n j = 0 ∨ sh ≤ lnF h n j) ∧ ∀ j, j < st → lnF h n j = 0 ∨ sh < lnF h n j)
theorem ShI.bnd {h : Nat → Nat} {n i sh st : Nat} (I : ShI h n i sh st) (hi : i ≤ 10) : sh ≤ 11 ∧ st ≤ 10 := by
  rcases I with ⟨a, b, -⟩ | ⟨a, b, c, -⟩ <;> omega
theorem ShI.skip {h : Nat → Nat} {n i sh st : Nat} (I : ShI h n i sh st) (hs : lnF h n i = 0 ∨ sh ≤ lnF h n i) (hl : lnF h n i ≤ 10) : ShI h n (i + 1) sh st := by
  rcases I with ⟨a, b, c⟩ | ⟨a, b, c, e1, e2⟩
  · refine Or.inl ⟨a, b, fun j hj => ?_⟩
    rcases Nat.lt_succ_iff_lt_or_eq.mp hj with hj | rfl
    · exact c j hj
    · omega
  · refine Or.inr ⟨by omega, b, c, fun j hj => ?_, e2⟩
    rcases Nat.lt_succ_iff_lt_or_eq.mp hj with hj | rfl
    · exact e1 j hj
    · exact hs
theorem ShI.take {h : Nat → Nat} {n i sh st : Nat} (I : ShI h n i sh st) (h0 : 0 < lnF h n i) (hs : lnF h n i < sh) (hl : lnF h n i ≤ 10) : ShI h n (i + 1) (lnF h n i) i := by
  have hx : ∀ j, j < i → lnF h n j = 0 ∨ lnF h n i < lnF h n j := by
    intro j hj
    rcases I with ⟨a, b, c⟩ | ⟨a, b, c, e1, e2⟩
    · exact Or.inl (c j hj)
    · rcases e1 j hj with e | e
      · exact Or.inl e
      · exact Or.inr (by omega)
  refine Or.inr ⟨by omega, rfl, ⟨h0, hl⟩, fun j hj => ?_, hx⟩
  rcases Nat.lt_succ_iff_lt_or_eq.mp hj with hj | rfl
  · rcases hx j hj with e | e
    · exact Or.inl e
    · exact Or.inr (by omega)
  · exact Or.inr (Nat.le_refl _)
def PTR (h : Nat → Nat) (n : Nat) (N : Mem) (K : Mej) : PK := fun r N1 K1 => K1 = K ∧ (∀ i, i ≠ 4 → i ≠ 9 → N1 i = N i) ∧ ((blR h n = none ∧ r = some (.int (nI 0)) ∧ N1 4 = N 4) ∨ ∃ q, blR h n = some q ∧ r = some (.int (nI q.length)) ∧ ∀ j, j < q.length → N1 4 j = nI (q.getD j 0))
theorem l2_X2_tellShortestRing {d : Nat} (dd : 1 ≤ d) {h : Nat → Nat} {n s m : Nat} {q : List Nat} {N : Mem} {K : Mej} (hn : n ≤ 10) (h8 : ∀ f, f < 10 → N 8 f = nI (h f)) (hb : ∀ f, f < 10 → h f < 1024) (hm : m ≤ n) (m0 : 0 < m)
    (hq : blR h n = some q) (eq : q = s :: gr h n s (m - 1) s) :
    ∀ (k i a : Nat) (N1 : Mem), i + k = m → (i < m → a = q.getD i 0) → a < 1024 → (∀ j, j ≠ 4 → j ≠ 9 → N1 j = N j) → (∀ j, j < m → N1 9 j = nI (bfm h n s j)) → (∀ j, j < i → N1 4 j = nI (q.getD j 0)) →
    EK d mX2_tellShortestRing (PTR h n N K) 68 [(0, .ref 7), (1, .ref 4), (2, .int (nI m)), (3, .int (nI s)), (4, .int (nI a)), (5, .int (nI i))] [] N1 K
  | 0, i, a, N1, e, ha, hl, hF, hB, hC => by
    obtain rfl : i = m := by omega
    have ql : q.length = i := by rw [eq, List.length_cons, gr_len]; omega
    refine K_iload dX2_tellShortestRing_68 rfl rfl ?_
    refine K_iload_n dX2_tellShortestRing_70 rfl rfl ?_
    refine K_icmp_geN (tgt := 110) dX2_tellShortestRing_71 (by decide) rfl (by first | omega | fail) (by first | omega | fail) (fun c71 => ?_) (fun c71 => ?_)
    · refine K_iload_n dX2_tellShortestRing_110 rfl rfl ?_
      refine K_iret dX2_tellShortestRing_111 rfl ?_
      exact ⟨rfl, hF, Or.inr ⟨q, hq, by rw [ql], fun j hj => hC j (by omega)⟩⟩
    · omega
  | k + 1, i, a, N1, e, ha, hl, hF, hB, hC => by
    have ql : q.length = m := by rw [eq, List.length_cons, gr_len]; omega
    obtain rfl := ha (by omega)
    have an : q.getD i 0 < n := getD_lt (bl_len hq).2.2 (by omega)
    have h8' : sM N1 4 i (nI (q.getD i 0)) 8 (q.getD i 0) = nI (h (q.getD i 0)) := by rw [sM_row (by decide), hF 8 (by decide) (by decide)]; exact h8 _ (by omega)
    have h9' : sM N1 4 i (nI (q.getD i 0)) 9 (m - 1 - i) = nI (bfm h n s (m - 1 - i)) := by rw [sM_row (by decide)]; exact hB _ (by omega)
    have l1 := hb (q.getD i 0) (by omega)
    have l2 : h (q.getD i 0) &&& bfm h n s (m - 1 - i) < 1024 := Nat.lt_of_le_of_lt Nat.and_le_left l1
    have l3 : lst (h (q.getD i 0) &&& bfm h n s (m - 1 - i)) < 1024 := by
      unfold lst
      cases e2 : fnd (h (q.getD i 0) &&& bfm h n s (m - 1 - i)).testBit 10 with
      | none => exact (by decide : 0 < 1024)
      | some j => have := (fnd_lt e2).1; show j < 1024; omega
    have ih := l2_X2_tellShortestRing (d := d) dd (K := K) hn h8 hb hm m0 hq eq k (i + 1) (lst (h (q.getD i 0) &&& bfm h n s (m - 1 - i))) (sM N1 4 i (nI (q.getD i 0))) (by omega) (fun hi => by
      rw [eq]
      exact (gr_nth h n s i (m - 1) s (by omega)).symm) l3 (fun j h1 h2 => (sM_row h1).trans (hF j h1 h2)) (fun j hj => by rw [sM_row (by decide)]; exact hB j hj) (fun j hj => by
      rw [sM_at]
      by_cases e3 : j = i
      · rw [if_pos ⟨rfl, e3⟩, e3]
      · rw [if_neg (by omega)]
        exact hC j (by omega))
    refine K_iload dX2_tellShortestRing_68 rfl rfl ?_
    refine K_iload_n dX2_tellShortestRing_70 rfl rfl ?_
    refine K_icmp_geN (tgt := 110) dX2_tellShortestRing_71 (by decide) rfl (by first | omega | fail) (by first | omega | fail) (fun c71 => ?_) (fun c71 => ?_)
    · omega
    · refine K_aload_n dX2_tellShortestRing_74 rfl rfl ?_
      refine K_iload dX2_tellShortestRing_75 rfl rfl ?_
      refine K_iload dX2_tellShortestRing_77 rfl rfl ?_
      refine K_iast dX2_tellShortestRing_79 (by first | rfl | exact sk_rk (by omega) | exact sk_hh (by omega)) (by first | omega | fail) (by decide) rfl ?_
      refine K_aload_n dX2_tellShortestRing_80 rfl rfl ?_
      refine K_getR (r := 8) dX2_tellShortestRing_81 fl_X2_9 rfl rfl rfl rfl ?_
      refine K_iload dX2_tellShortestRing_84 rfl rfl ?_
      refine K_iald dX2_tellShortestRing_86 (by first | rfl | exact sk_rk (by omega) | exact sk_hh (by omega)) (by first | omega | fail) (by decide) (by first | assumption | rfl) rfl ?_
      refine K_aload_n dX2_tellShortestRing_87 rfl rfl ?_
      refine K_getR (r := 9) dX2_tellShortestRing_88 fl_X2_15 rfl rfl rfl rfl ?_
      refine K_iload_n dX2_tellShortestRing_91 rfl rfl ?_
      refine K_iconst (v := nI 1) dX2_tellShortestRing_92 (by decide) rfl ?_
      refine K_subN dX2_tellShortestRing_93 (by first | omega | fail) rfl ?_
      refine K_iload dX2_tellShortestRing_94 rfl rfl ?_
      refine K_subN dX2_tellShortestRing_96 (by first | omega | fail) rfl ?_
      refine K_iald dX2_tellShortestRing_97 (by first | rfl | exact sk_rk (by omega) | exact sk_hh (by omega)) (by first | omega | fail) (by decide) (by first | assumption | rfl) rfl ?_
      first | refine K_bitN dX2_tellShortestRing_98 rfl ?_ | refine K_andN dX2_tellShortestRing_98 rfl ?_ | refine K_iand dX2_tellShortestRing_98 rfl ?_
      refine K_sv (d1 := d - 1) [_] dX2_tellShortestRing_99 ml_X2_29 rfl rfl (Nat.le_of_ble_eq_true rfl) (c_X2_leastOf (Nat.lt_trans l2 (by decide))) (by omega) rfl ?_
      refine K_istore (lv' := [(0, _), (1, _), (2, _), (3, _), (4, _), (5, _)]) dX2_tellShortestRing_102 (by decide) rfl rfl ?_
      first | refine K_incN (lv' := [(0, _), (1, _), (2, _), (3, _), (4, _), (5, _)]) dX2_tellShortestRing_104 rfl (by decide) rfl rfl ?_ | refine K_iinc (lv' := [(0, _), (1, _), (2, _), (3, _), (4, _), (5, _)]) dX2_tellShortestRing_104 rfl rfl (by decide) rfl rfl ?_
      refine K_goto (tgt := 68) dX2_tellShortestRing_107 (by decide) ?_
      exact ih
theorem l1_X2_tellShortestRing {d : Nat} (dd : 1 ≤ d) {h : Nat → Nat} {n : Nat} {N : Mem} {K : Mej} (hn : n ≤ 10) (h7 : N 7 3 = nI n) (h8 : ∀ f, f < 10 → N 8 f = nI (h f)) (hb : ∀ f, f < 10 → h f < 1024) (hd : ∀ f, f < n → (h f).testBit f = false) (hbn : ∀ f i, f < n → (h f).testBit i = true → i < n) :
    ∀ (k i sh st : Nat) (N1 : Mem), i + k = n → ShI h n i sh st → (∀ j, j ≠ 9 → N1 j = N j) →
    EK d mX2_tellShortestRing (PTR h n N K) 8 [(0, .ref 7), (1, .ref 4), (2, .int (nI sh)), (3, .int (nI st)), (4, .int (nI i))] [] N1 K
  | 0, i, sh, st, N1, e, I, hF => by
    obtain rfl : i = n := by omega
    have h7' : N1 7 3 = nI i := by rw [hF 7 (by decide)]; exact h7
    have ib := I.bnd hn
    by_cases hx : sh = 11
    · have z : ∀ j, j < i → lnF h i j = 0 := by
        rcases I with ⟨-, -, a⟩ | ⟨-, -, a, -⟩
        · exact a
        · omega
      have hq := bl_none hbn z
      refine K_iload dX2_tellShortestRing_8 rfl rfl ?_
      refine K_aload_n dX2_tellShortestRing_10 rfl rfl ?_
      refine K_getI dX2_tellShortestRing_11 fl_X2_21 (by first | rfl | exact sk_rk (by omega) | exact sk_hh (by omega)) rfl (by first | assumption | rfl) rfl ?_
      refine K_icmp_geN (tgt := 48) dX2_tellShortestRing_14 (by decide) rfl (by first | omega | fail) (by first | omega | fail) (fun c14 => ?_) (fun c14 => ?_)
      · refine K_iload_n dX2_tellShortestRing_48 rfl rfl ?_
        refine K_bipush (v := nI 10) dX2_tellShortestRing_49 (by decide) rfl ?_
        refine K_icmp_leN (tgt := 56) dX2_tellShortestRing_51 (by decide) rfl (by first | omega | fail) (by first | omega | fail) (fun c51 => ?_) (fun c51 => ?_)
        · omega
        · refine K_iconst (v := nI 0) dX2_tellShortestRing_54 (by decide) rfl ?_
          refine K_iret dX2_tellShortestRing_55 rfl ?_
          exact ⟨rfl, fun j _ h2 => hF j h2, Or.inl ⟨hq, rfl, hF 4 (by decide)⟩⟩
      · omega
    · obtain ⟨a, b, c, e1, e2⟩ : st < i ∧ lnF h i st = sh ∧ (0 < sh ∧ sh ≤ 10) ∧ (∀ j, j < i → lnF h i j = 0 ∨ sh ≤ lnF h i j) ∧ ∀ j, j < st → lnF h i j = 0 ∨ sh < lnF h i j := by
        rcases I with ⟨z, -, -⟩ | z
        · exact absurd z hx
        · exact z
      have hq := bl_some hn hd hbn a b c.1 e1 e2
      have hl := lnF_le h i st
      refine K_iload dX2_tellShortestRing_8 rfl rfl ?_
      refine K_aload_n dX2_tellShortestRing_10 rfl rfl ?_
      refine K_getI dX2_tellShortestRing_11 fl_X2_21 (by first | rfl | exact sk_rk (by omega) | exact sk_hh (by omega)) rfl (by first | assumption | rfl) rfl ?_
      refine K_icmp_geN (tgt := 48) dX2_tellShortestRing_14 (by decide) rfl (by first | omega | fail) (by first | omega | fail) (fun c14 => ?_) (fun c14 => ?_)
      · refine K_iload_n dX2_tellShortestRing_48 rfl rfl ?_
        refine K_bipush (v := nI 10) dX2_tellShortestRing_49 (by decide) rfl ?_
        refine K_icmp_leN (tgt := 56) dX2_tellShortestRing_51 (by decide) rfl (by first | omega | fail) (by first | omega | fail) (fun c51 => ?_) (fun c51 => ?_)
        · refine K_aload_n dX2_tellShortestRing_56 rfl rfl ?_
          refine K_iload_n dX2_tellShortestRing_57 rfl rfl ?_
          refine K_callV (ci := 2) (d1 := d - 1) [_] dX2_tellShortestRing_58 ml_X2_25 (by decide) rfl rfl rfl (Nat.le_of_ble_eq_true rfl) (c_X2_lengthFrom (h := h) hn a h7' (fun f hf => by rw [hF 8 (by decide)]; exact h8 f hf) hb) (by omega) rfl ?_
          rintro r N2 K2 ⟨z1, z2, z3, z4⟩
          subst z1
          subst z4
          refine K_pop dX2_tellShortestRing_61 rfl rfl ?_
          refine K_iload_n dX2_tellShortestRing_62 rfl rfl ?_
          refine K_istore (lv' := [(0, _), (1, _), (2, _), (3, _), (4, _)]) dX2_tellShortestRing_63 (by decide) rfl rfl ?_
          refine K_iconst (v := nI 0) dX2_tellShortestRing_65 (by decide) rfl ?_
          refine K_istore (lv' := [(0, _), (1, _), (2, _), (3, _), (4, _), (5, _)]) dX2_tellShortestRing_66 (by decide) rfl rfl ?_
          exact l2_X2_tellShortestRing dd hn h8 hb (by omega) c.1 hq rfl sh 0 st _ (by omega) (fun _ => rfl) (by omega) (fun j h1 h2 => (z2 j h2).trans (hF j h2)) (fun j hj => z3 j (by omega)) (fun j hj => absurd hj (Nat.not_lt_zero j))
        · omega
      · omega
  | k + 1, i, sh, st, N1, e, I, hF => by
    have h7' : N1 7 3 = nI n := by rw [hF 7 (by decide)]; exact h7
    have ib := I.bnd (by omega)
    have hl := lnF_le h n i
    refine K_iload dX2_tellShortestRing_8 rfl rfl ?_
    refine K_aload_n dX2_tellShortestRing_10 rfl rfl ?_
    refine K_getI dX2_tellShortestRing_11 fl_X2_21 (by first | rfl | exact sk_rk (by omega) | exact sk_hh (by omega)) rfl (by first | assumption | rfl) rfl ?_
    refine K_icmp_geN (tgt := 48) dX2_tellShortestRing_14 (by decide) rfl (by first | omega | fail) (by first | omega | fail) (fun c14 => ?_) (fun c14 => ?_)
    · omega
    · refine K_aload_n dX2_tellShortestRing_17 rfl rfl ?_
      refine K_iload dX2_tellShortestRing_18 rfl rfl ?_
      refine K_callV (ci := 2) (d1 := d - 1) [_] dX2_tellShortestRing_20 ml_X2_25 (by decide) rfl rfl rfl (Nat.le_of_ble_eq_true rfl) (c_X2_lengthFrom (h := h) hn (by omega) h7' (fun f hf => by rw [hF 8 (by decide)]; exact h8 f hf) hb) (by omega) rfl ?_
      rintro r N2 K2 ⟨z1, z2, z3, z4⟩
      subst z1
      subst z4
      refine K_istore (lv' := [(0, _), (1, _), (2, _), (3, _), (4, _), (5, _)]) dX2_tellShortestRing_23 (by decide) rfl rfl ?_
      refine K_iload dX2_tellShortestRing_25 rfl rfl ?_
      refine K_if_leN (tgt := 42) dX2_tellShortestRing_27 (by decide) rfl (by first | omega | fail) (fun c27 => ?_) (fun c27 => ?_)
      · first | refine K_incN (lv' := [(0, _), (1, _), (2, _), (3, _), (4, _), (5, _)]) dX2_tellShortestRing_42 rfl (by decide) rfl rfl ?_ | refine K_iinc (lv' := [(0, _), (1, _), (2, _), (3, _), (4, _), (5, _)]) dX2_tellShortestRing_42 rfl rfl (by decide) rfl rfl ?_
        refine K_goto (tgt := 8) dX2_tellShortestRing_45 (by decide) ?_
        refine K_pick [0, 1, 2, 3, 4] rfl ?_
        first | exact l1_X2_tellShortestRing dd hn h7 h8 hb hd hbn k (i + 1) _ _ N2 (by omega) (I.take (by omega) (by omega) (by omega)) (fun j hj => (z2 j hj).trans (hF j hj)) | exact l1_X2_tellShortestRing dd hn h7 h8 hb hd hbn k (i + 1) _ _ N2 (by omega) (I.skip (by omega) (by omega)) (fun j hj => (z2 j hj).trans (hF j hj))
      · refine K_iload dX2_tellShortestRing_30 rfl rfl ?_
        refine K_iload_n dX2_tellShortestRing_32 rfl rfl ?_
        refine K_icmp_geN (tgt := 42) dX2_tellShortestRing_33 (by decide) rfl (by first | omega | fail) (by first | omega | fail) (fun c33 => ?_) (fun c33 => ?_)
        · first | refine K_incN (lv' := [(0, _), (1, _), (2, _), (3, _), (4, _), (5, _)]) dX2_tellShortestRing_42 rfl (by decide) rfl rfl ?_ | refine K_iinc (lv' := [(0, _), (1, _), (2, _), (3, _), (4, _), (5, _)]) dX2_tellShortestRing_42 rfl rfl (by decide) rfl rfl ?_
          refine K_goto (tgt := 8) dX2_tellShortestRing_45 (by decide) ?_
          refine K_pick [0, 1, 2, 3, 4] rfl ?_
          first | exact l1_X2_tellShortestRing dd hn h7 h8 hb hd hbn k (i + 1) _ _ N2 (by omega) (I.take (by omega) (by omega) (by omega)) (fun j hj => (z2 j hj).trans (hF j hj)) | exact l1_X2_tellShortestRing dd hn h7 h8 hb hd hbn k (i + 1) _ _ N2 (by omega) (I.skip (by omega) (by omega)) (fun j hj => (z2 j hj).trans (hF j hj))
        · refine K_iload dX2_tellShortestRing_36 rfl rfl ?_
          refine K_istore_n (lv' := [(0, _), (1, _), (2, _), (3, _), (4, _), (5, _)]) dX2_tellShortestRing_38 (by decide) rfl rfl ?_
          refine K_iload dX2_tellShortestRing_39 rfl rfl ?_
          refine K_istore_n (lv' := [(0, _), (1, _), (2, _), (3, _), (4, _), (5, _)]) dX2_tellShortestRing_41 (by decide) rfl rfl ?_
          first | refine K_incN (lv' := [(0, _), (1, _), (2, _), (3, _), (4, _), (5, _)]) dX2_tellShortestRing_42 rfl (by decide) rfl rfl ?_ | refine K_iinc (lv' := [(0, _), (1, _), (2, _), (3, _), (4, _), (5, _)]) dX2_tellShortestRing_42 rfl rfl (by decide) rfl rfl ?_
          refine K_goto (tgt := 8) dX2_tellShortestRing_45 (by decide) ?_
          refine K_pick [0, 1, 2, 3, 4] rfl ?_
          first | exact l1_X2_tellShortestRing dd hn h7 h8 hb hd hbn k (i + 1) _ _ N2 (by omega) (I.take (by omega) (by omega) (by omega)) (fun j hj => (z2 j hj).trans (hF j hj)) | exact l1_X2_tellShortestRing dd hn h7 h8 hb hd hbn k (i + 1) _ _ N2 (by omega) (I.skip (by omega) (by omega)) (fun j hj => (z2 j hj).trans (hF j hj))
set_option maxRecDepth 100000 in
theorem c_X2_tellShortestRing {d : Nat} (dd : 1 ≤ d) {h : Nat → Nat} {n : Nat} {N : Mem} {K : Mej} (hn : n ≤ 10) (h7 : N 7 3 = nI n) (h8 : ∀ f, f < 10 → N 8 f = nI (h f)) (hb : ∀ f, f < 10 → h f < 1024) (hd : ∀ f, f < n → (h f).testBit f = false) (hbn : ∀ f i, f < n → (h f).testBit i = true → i < n) : CK d mX2_tellShortestRing [.ref 7, .ref 4] N K (PTR h n N K) := by
  refine CK.start [(0, _), (1, _)] (plainFor_of_name (by decide)) (Nat.le_of_ble_eq_true rfl) rfl ?_
  refine K_bipush (v := nI 11) dX2_tellShortestRing_0 (by decide) rfl ?_
  refine K_istore_n (lv' := [(0, _), (1, _), (2, _)]) dX2_tellShortestRing_2 (by decide) rfl rfl ?_
  refine K_iconst (v := nI 0) dX2_tellShortestRing_3 (by decide) rfl ?_
  refine K_istore_n (lv' := [(0, _), (1, _), (2, _), (3, _)]) dX2_tellShortestRing_4 (by decide) rfl rfl ?_
  refine K_iconst (v := nI 0) dX2_tellShortestRing_5 (by decide) rfl ?_
  refine K_istore (lv' := [(0, _), (1, _), (2, _), (3, _), (4, _)]) dX2_tellShortestRing_6 (by decide) rfl rfl ?_
  exact l1_X2_tellShortestRing dd hn h7 h8 hb hd hbn n 0 11 0 N (by omega) (Or.inl ⟨rfl, rfl, fun j hj => absurd hj (Nat.not_lt_zero j)⟩) (fun _ _ => rfl)
/-- who would rather go where -/
def hBp (S : GS) (f g : Nat) : Bool := decide (f < s_n S) && (s_tk S f g && s_lk S f g)
def hBl (S : GS) (f : Nat) : Nat := bs (hBp S f) (s_n S)
theorem hBl_bit (S : GS) (f g : Nat) : (hBl S f).testBit g = (decide (g < s_n S) && hBp S f g) := bs_bit _ _ _
theorem hBl_0 {S : GS} {f : Nat} (h : s_n S ≤ f) : hBl S f = 0 := Nat.eq_of_testBit_eq (fun i => by
  rw [hBl_bit, Nat.zero_testBit, hBp, decide_eq_false (show ¬ f < s_n S by omega)]
  simp)
theorem tk_self {S : GS} (w : WF S) {f : Nat} (hf : f < 10) : s_tk S f f = false := by
  unfold s_tk
  apply decide_eq_false
  rintro ⟨h, -⟩
  exact (w.rkn hf h).2.2 rfl
def o_blocks (S : GS) : Int32 × GS := match blR (hBl S) (s_n S) with
  | none => (nI 0, gC S)
  | some q => (nI q.length, tellG (gC S) q.length (fun i => q.getD i 0))
def MB (S : GS) (N0 N1 : Mem) (K : Mej) (f g : Nat) : Prop := RX S N1 K ∧ FX N0 N1 ∧ N1 7 3 = nI (s_n S) ∧ (∀ j, j < f → N1 8 j = nI (hBl S j)) ∧ N1 8 f = nI (bs (hBp S f) g) ∧ ∀ j, f < j → j < 10 → N1 8 j = nI 0
theorem li_X3_blocks {d : Nat} (hd : 4 ≤ d) {S : GS} {N0 : Mem} {K : Mej} {Post : PK} (w : WF S) {f : Nat} (hf : f < s_n S)
    (next : ∀ N1, MB S N0 N1 K f (s_n S) → EK d mX3_blocks Post 18 [(0, .ref 0), (1, .int (nI (f + 1)))] [] N1 K) :
    ∀ (k g : Nat) (N1 : Mem), g + k = s_n S → MB S N0 N1 K f g → EK d mX3_blocks Post 28 [(0, .ref 0), (1, .int (nI f)), (2, .int (nI g))] [] N1 K
  | 0, g, N1, e, I => by
    obtain rfl : g = s_n S := by omega
    have hn := w.1.1
    have h7 := I.1.1.1
    refine K_iload_n dX3_blocks_28 rfl rfl ?_
    refine K_aload_n dX3_blocks_29 rfl rfl ?_
    refine K_getI dX3_blocks_30 fl_X3_42 (by first | rfl | exact sk_rk (by omega) | exact sk_hh (by omega)) rfl (by first | assumption | rfl) rfl ?_
    refine K_icmp_geN (tgt := 69) dX3_blocks_33 (by decide) rfl (by first | omega | fail) (by first | omega | fail) (fun c33 => ?_) (fun c33 => ?_)
    · first | refine K_incN (lv' := [(0, _), (1, _), (2, _)]) dX3_blocks_69 rfl (by decide) rfl rfl ?_ | refine K_iinc (lv' := [(0, _), (1, _), (2, _)]) dX3_blocks_69 rfl rfl (by decide) rfl rfl ?_
      refine K_goto (tgt := 18) dX3_blocks_72 (by decide) ?_
      refine K_pick [0, 1] rfl ?_
      exact next N1 I
    · omega
  | k + 1, g, N1, e, I => by
    have hn := w.1.1
    have h7 := I.1.1.1
    obtain ⟨R, F, a3, a4, a5, a6⟩ := I
    have lt := bs_10 (p := hBp S f) (n := g) (by omega)
    refine K_iload_n dX3_blocks_28 rfl rfl ?_
    refine K_aload_n dX3_blocks_29 rfl rfl ?_
    refine K_getI dX3_blocks_30 fl_X3_42 (by first | rfl | exact sk_rk (by omega) | exact sk_hh (by omega)) rfl (by first | assumption | rfl) rfl ?_
    refine K_icmp_geN (tgt := 69) dX3_blocks_33 (by decide) rfl (by first | omega | fail) (by first | omega | fail) (fun c33 => ?_) (fun c33 => ?_)
    · omega
    · refine K_aload_n dX3_blocks_36 rfl rfl ?_
      refine K_iload_n dX3_blocks_37 rfl rfl ?_
      refine K_iload_n dX3_blocks_38 rfl rfl ?_
      refine K_cv (ci := 3) (d1 := d - 1) [_, _] dX3_blocks_39 ml_X3_188 (by decide) rfl rfl rfl (Nat.le_of_ble_eq_true rfl) (c_X3_takes (by omega) R w hf (by omega)) (by omega) rfl ?_
      refine K_if_eqB (tgt := 63) dX3_blocks_42 (by decide) rfl (fun c42 => ?_) (fun c42 => ?_)
      · first | refine K_incN (lv' := [(0, _), (1, _), (2, _)]) dX3_blocks_63 rfl (by decide) rfl rfl ?_ | refine K_iinc (lv' := [(0, _), (1, _), (2, _)]) dX3_blocks_63 rfl rfl (by decide) rfl rfl ?_
        refine K_goto (tgt := 28) dX3_blocks_66 (by decide) ?_
        first | (refine li_X3_blocks hd w hf next k (g + 1) N1 (by omega) ⟨R, F, a3, a4, ?_, a6⟩; rw [bs_f (by first | (simp [hBp, c51]; done) | (simp [hBp, c42]; done))]; exact a5) | (refine li_X3_blocks hd w hf next k (g + 1) _ (by omega) ⟨R.scr (by omega), F.set (by omega), (sM_ne (Or.inl (by decide))).trans a3, fun j hj => (sM_ne (Or.inr (by omega))).trans (a4 j hj), ?_, fun j h1 h2 => (sM_ne (Or.inr (by omega))).trans (a6 j h1 h2)⟩; rw [bs_t (by simp [hBp, c42, c51, hf])]; exact sM_eq _ _ _ _)
      · refine K_aload_n dX3_blocks_45 rfl rfl ?_
        refine K_iload_n dX3_blocks_46 rfl rfl ?_
        refine K_iload_n dX3_blocks_47 rfl rfl ?_
        refine K_cv (ci := 3) (d1 := d - 1) [_, _] dX3_blocks_48 ml_X3_191 (by decide) rfl rfl rfl (Nat.le_of_ble_eq_true rfl) (c_X3_isLiked (by omega) R w (by omega) (by omega)) (by omega) rfl ?_
        refine K_if_eqB (tgt := 63) dX3_blocks_51 (by decide) rfl (fun c51 => ?_) (fun c51 => ?_)
        · first | refine K_incN (lv' := [(0, _), (1, _), (2, _)]) dX3_blocks_63 rfl (by decide) rfl rfl ?_ | refine K_iinc (lv' := [(0, _), (1, _), (2, _)]) dX3_blocks_63 rfl rfl (by decide) rfl rfl ?_
          refine K_goto (tgt := 28) dX3_blocks_66 (by decide) ?_
          first | (refine li_X3_blocks hd w hf next k (g + 1) N1 (by omega) ⟨R, F, a3, a4, ?_, a6⟩; rw [bs_f (by first | (simp [hBp, c51]; done) | (simp [hBp, c42]; done))]; exact a5) | (refine li_X3_blocks hd w hf next k (g + 1) _ (by omega) ⟨R.scr (by omega), F.set (by omega), (sM_ne (Or.inl (by decide))).trans a3, fun j hj => (sM_ne (Or.inr (by omega))).trans (a4 j hj), ?_, fun j h1 h2 => (sM_ne (Or.inr (by omega))).trans (a6 j h1 h2)⟩; rw [bs_t (by simp [hBp, c42, c51, hf])]; exact sM_eq _ _ _ _)
        · refine K_aload_n dX3_blocks_54 rfl rfl ?_
          refine K_getR (r := 7) dX3_blocks_55 fl_X3_38 rfl rfl rfl rfl ?_
          refine K_iload_n dX3_blocks_58 rfl rfl ?_
          refine K_iload_n dX3_blocks_59 rfl rfl ?_
          refine K_c0 (ci := 2) (d1 := d - 1) [_, _] dX3_blocks_60 ml_X3_194 (by decide) rfl rfl rfl (Nat.le_of_ble_eq_true rfl) (c_X2_add (by omega) (by omega) a5) (by omega) rfl ?_
          first | refine K_incN (lv' := [(0, _), (1, _), (2, _)]) dX3_blocks_63 rfl (by decide) rfl rfl ?_ | refine K_iinc (lv' := [(0, _), (1, _), (2, _)]) dX3_blocks_63 rfl rfl (by decide) rfl rfl ?_
          refine K_goto (tgt := 28) dX3_blocks_66 (by decide) ?_
          first | (refine li_X3_blocks hd w hf next k (g + 1) N1 (by omega) ⟨R, F, a3, a4, ?_, a6⟩; rw [bs_f (by first | (simp [hBp, c51]; done) | (simp [hBp, c42]; done))]; exact a5) | (refine li_X3_blocks hd w hf next k (g + 1) _ (by omega) ⟨R.scr (by omega), F.set (by omega), (sM_ne (Or.inl (by decide))).trans a3, fun j hj => (sM_ne (Or.inr (by omega))).trans (a4 j hj), ?_, fun j h1 h2 => (sM_ne (Or.inr (by omega))).trans (a6 j h1 h2)⟩; rw [bs_t (by simp [hBp, c42, c51, hf])]; exact sM_eq _ _ _ _)
def MO (S : GS) (N0 N1 : Mem) (K : Mej) (f : Nat) : Prop := RX S N1 K ∧ FX N0 N1 ∧ N1 7 3 = nI (s_n S) ∧ (∀ j, j < f → N1 8 j = nI (hBl S j)) ∧ ∀ j, f ≤ j → j < 10 → N1 8 j = nI 0
theorem lo_X3_blocks {d : Nat} (hd : 4 ≤ d) {S : GS} {N0 : Mem} {K : Mej} {Post : PK} (w : WF S)
    (next : ∀ N1, RX S N1 K → FX N0 N1 → N1 7 3 = nI (s_n S) → (∀ j, j < 10 → N1 8 j = nI (hBl S j)) → EK d mX3_blocks Post 75 [(0, .ref 0), (1, .int (nI (s_n S)))] [] N1 K) :
    ∀ (k f : Nat) (N1 : Mem), f + k = s_n S → MO S N0 N1 K f → EK d mX3_blocks Post 18 [(0, .ref 0), (1, .int (nI f))] [] N1 K
  | 0, f, N1, e, I => by
    have hf : f = s_n S := by omega
    have hn := w.1.1
    have h7 := I.1.1.1
    subst hf
    refine K_iload_n dX3_blocks_18 rfl rfl ?_
    refine K_aload_n dX3_blocks_19 rfl rfl ?_
    refine K_getI dX3_blocks_20 fl_X3_42 (by first | rfl | exact sk_rk (by omega) | exact sk_hh (by omega)) rfl (by first | assumption | rfl) rfl ?_
    refine K_icmp_geN (tgt := 75) dX3_blocks_23 (by decide) rfl (by first | omega | fail) (by first | omega | fail) (fun c23 => ?_) (fun c23 => ?_)
    · refine next N1 I.1 I.2.1 I.2.2.1 (fun j hj => ?_)
      rcases Nat.lt_or_ge j (s_n S) with h | h
      · exact I.2.2.2.1 j h
      · rw [hBl_0 h]; exact I.2.2.2.2 j h hj
    · omega
  | k + 1, f, N1, e, I => by
    have hn := w.1.1
    have h7 := I.1.1.1
    refine K_iload_n dX3_blocks_18 rfl rfl ?_
    refine K_aload_n dX3_blocks_19 rfl rfl ?_
    refine K_getI dX3_blocks_20 fl_X3_42 (by first | rfl | exact sk_rk (by omega) | exact sk_hh (by omega)) rfl (by first | assumption | rfl) rfl ?_
    refine K_icmp_geN (tgt := 75) dX3_blocks_23 (by decide) rfl (by first | omega | fail) (by first | omega | fail) (fun c23 => ?_) (fun c23 => ?_)
    · omega
    · refine K_iconst (v := nI 0) dX3_blocks_26 (by decide) rfl ?_
      refine K_istore_n (lv' := [(0, _), (1, _), (2, _)]) dX3_blocks_27 (by decide) rfl rfl ?_
      exact li_X3_blocks hd w (by omega) (fun N2 J => lo_X3_blocks hd w next k (f + 1) N2 (by omega) ⟨J.1, J.2.1, J.2.2.1, fun j hj => by
        rcases Nat.lt_succ_iff_lt_or_eq.mp hj with hj | rfl
        · exact J.2.2.2.1 j hj
        · exact J.2.2.2.2.1, fun j h1 h2 => J.2.2.2.2.2 j h1 h2⟩) (s_n S) 0 N1 (by omega) ⟨I.1, I.2.1, I.2.2.1, I.2.2.2.1, I.2.2.2.2 f (Nat.le_refl f) (by omega), fun j h1 h2 => I.2.2.2.2 j (by omega) h2⟩
set_option maxRecDepth 100000 in
theorem c_X3_blocks {d : Nat} (hd : 4 ≤ d) {S : GS} {N : Mem} {K : Mej} (R : RX S N K) (w : WF S) : CK d mX3_blocks [.ref 0] N K (PRX (o_blocks S).1 (o_blocks S).2 N) := by
  have R0 := R.c0
  have w0 := w.c0
  have hn := w.1.1
  have hn0 : s_n (gC S) ≤ 10 := hn
  have h7 : sM N 0 13 (nI 0) 0 7 = nI (s_n S) := R0.1.1
  refine CK.start [(0, _)] (plainFor_of_name (by decide)) (Nat.le_of_ble_eq_true rfl) rfl ?_
  refine K_aload_n dX3_blocks_0 rfl rfl ?_
  refine K_iconst (v := nI 0) dX3_blocks_1 (by decide) rfl ?_
  refine K_putZ dX3_blocks_2 fl_X3_61 (by first | rfl | exact sk_rk (by omega) | exact sk_hh (by omega)) rfl rfl rfl (by first | exact bI_01 _ | exact Or.inl rfl | exact Or.inr rfl | assumption) rfl ?_
  refine K_aload_n dX3_blocks_5 rfl rfl ?_
  refine K_getR (r := 7) dX3_blocks_6 fl_X3_38 rfl rfl rfl rfl ?_
  refine K_aload_n dX3_blocks_9 rfl rfl ?_
  refine K_getI dX3_blocks_10 fl_X3_42 (by first | rfl | exact sk_rk (by omega) | exact sk_hh (by omega)) rfl (by first | assumption | rfl) rfl ?_
  refine K_c0 (ci := 2) (d1 := d - 1) [_] dX3_blocks_13 ml_X3_185 (by decide) rfl rfl rfl (Nat.le_of_ble_eq_true rfl) c_X2_clear (by omega) rfl ?_
  refine K_iconst (v := nI 0) dX3_blocks_16 (by decide) rfl ?_
  refine K_istore_n (lv' := [(0, _), (1, _)]) dX3_blocks_17 (by decide) rfl rfl ?_
  refine lo_X3_blocks (S := gC S) hd (N0 := N) w0 ?_ (s_n S) 0 _ (Nat.zero_add _) ⟨R0.frame (fun i hi => ?_) (fun _ _ => rfl), fun i hi => ?_, ?_, fun j hj => absurd hj (Nat.not_lt_zero j), fun j _ hj => ?_⟩
  · intro N1 R1 F1 g7 g8
    refine K_aload_n dX3_blocks_75 rfl rfl ?_
    refine K_getR (r := 7) dX3_blocks_76 fl_X3_38 rfl rfl rfl rfl ?_
    refine K_aload_n dX3_blocks_79 rfl rfl ?_
    refine K_getR (r := 4) dX3_blocks_80 fl_X3_22 rfl rfl rfl rfl ?_
    refine K_callV (ci := 2) (d1 := d - 1) [_] dX3_blocks_83 ml_X3_198 (by decide) rfl rfl rfl (Nat.le_of_ble_eq_true rfl) (c_X2_tellShortestRing (n := s_n (gC S)) (by omega) hn0 g7 g8 (fun f _ => bs_10 hn0) (fun f hf => by rw [hBl_bit, hBp, tk_self w0 (show f < 10 from Nat.lt_of_lt_of_le hf hn0)]; simp) (fun f i _ hi => by rw [hBl_bit, Bool.and_eq_true] at hi; simpa using hi.1)) (by omega) rfl ?_
    rintro r N2 K2 ⟨z1, z2, z3⟩
    subst z1
    have e5 : o_blocks S = match blR (hBl (gC S)) (s_n (gC S)) with | none => (nI 0, gC S) | some q => (nI q.length, tellG (gC S) q.length (fun i => q.getD i 0)) := rfl
    rcases z3 with ⟨y1, y2, y3⟩ | ⟨q, y1, y2, y3⟩
    skip
    · subst y2
      rw [y1] at e5
      rw [e5]
      refine K_istore_n (lv' := [(0, _), (1, _)]) dX3_blocks_86 (by decide) rfl rfl ?_
      refine K_aload_n dX3_blocks_87 rfl rfl ?_
      refine K_iload_n dX3_blocks_88 rfl rfl ?_
      refine K_c0 (ci := 3) (d1 := d - 1) [_] dX3_blocks_89 ml_X3_202 (by decide) rfl rfl rfl (Nat.le_of_ble_eq_true rfl) (c_X3_keepRow (by omega)) (by omega) rfl ?_
      refine K_iload_n dX3_blocks_92 rfl rfl ?_
      refine K_iret dX3_blocks_93 rfl ?_
      refine ⟨rfl, ?_, ?_⟩
      · show RX (gC S) (if 0 < 0 then _ else N2) _
        rw [if_neg (by omega)]
        exact R1.frame (fun i hi => by
          by_cases e4 : i = 4
          · rw [e4]; exact y3
          · exact z2 i e4 (by omega)) (fun _ _ => rfl)
      · show FX N (if 0 < 0 then _ else N2)
        rw [if_neg (by omega)]
        exact F1.trans (fun i hi => z2 i (by omega) (by omega))
    · subst y2
      have bq := bl_len y1
      rw [y1] at e5
      rw [e5]
      have ql : q.length ≤ 10 := Nat.le_trans bq.2.1 hn
      refine K_istore_n (lv' := [(0, _), (1, _)]) dX3_blocks_86 (by decide) rfl rfl ?_
      refine K_aload_n dX3_blocks_87 rfl rfl ?_
      refine K_iload_n dX3_blocks_88 rfl rfl ?_
      refine K_c0 (ci := 3) (d1 := d - 1) [_] dX3_blocks_89 ml_X3_202 (by decide) rfl rfl rfl (Nat.le_of_ble_eq_true rfl) (c_X3_keepRow ql) (by omega) rfl ?_
      refine K_iload_n dX3_blocks_92 rfl rfl ?_
      refine K_iret dX3_blocks_93 rfl ?_
      refine ⟨rfl, ?_, ?_⟩
      · show RX _ (if 0 < q.length then _ else N2) _
        rw [if_pos (by omega)]
        exact R1.tell (fun i hi h4 => z2 i h4 (by omega)) (fun _ _ => rfl) y3
      · show FX N (if 0 < q.length then _ else N2)
        rw [if_pos (by omega)]
        exact F1.trans (FX.set (fun i hi => z2 i (by omega) (by omega)) (by decide))
  · rw [show fillM (sM (sM N 0 13 (nI 0)) 7 3 (nI (s_n S))) 8 10 (nI 0) i = sM N 0 13 (nI 0) i from by
      funext j
      unfold fillM
      rw [if_neg (by omega), sM_ne (Or.inl (by omega))]]
  · funext j
    unfold fillM
    rw [if_neg (by omega), sM_ne (Or.inl (by omega)), sM_ne (Or.inl (by omega))]
  · unfold fillM
    rw [if_neg (by omega)]
    exact sM_eq _ _ _ _
  · unfold fillM
    rw [if_pos ⟨rfl, hj⟩]
