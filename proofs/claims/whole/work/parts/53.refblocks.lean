/-! the reference's wouldRather, closes, blocks -/
theorem pk_none {S : GS} {f : Nat} (h : s_pl S f = none) : s_pk S f = 0 := by unfold s_pk; rw [h]
theorem pk_some {S : GS} {f g : Nat} (h : s_pl S f = some g) : s_pk S f = s_rk S f g := by unfold s_pk; rw [h]
set_option maxRecDepth 100000 in
theorem c_X4_wouldRather {d : Nat} (hd : 3 ≤ d) {S : GS} {N : Mem} {K : Mej} (R : RY S N) (w : WF S) {f g : Nat} (hf : f < s_n S) (hg : g < s_n S) : CK d mX4_wouldRather [.ref 40, .int (nI f), .int (nI g)] N K (PX (some (.int (bI (s_tk S f g && s_lk S f g)))) N K) := by
  have hn := w.1.1
  have e : (s_tk S f g && s_lk S f g) = decide (s_tk S f g = true ∧ (s_pk S f = 0 ∨ s_rk S f g < s_pk S f)) := by simp [s_lk]
  rw [e]
  have h9 := w.rk9 (f := f) (by omega) g
  cases hp : s_pl S f with
  | none =>
    have hpk := pk_none hp
    have hgo := go_f hp
    refine CK.start [(0, _), (1, _), (2, _)] (plainFor_of_name (by decide)) (Nat.le_of_ble_eq_true rfl) rfl ?_
    refine K_aload_n dX4_wouldRather_0 rfl rfl ?_
    refine K_iload_n dX4_wouldRather_1 rfl rfl ?_
    refine K_cv (ci := 4) (d1 := d - 1) [_] dX4_wouldRather_2 ml_X4_145 (by decide) rfl rfl rfl (Nat.le_of_ble_eq_true rfl) (c_X4_goesAtAll R w hf) (by omega) rfl ?_
    refine K_if_eqB (tgt := 22) dX4_wouldRather_5 (by decide) rfl (fun c5 => ?_) (fun c5 => ?_)
    · refine K_iconst (v := nI 0) dX4_wouldRather_22 (by decide) rfl ?_
      refine K_istore_n (lv' := [(0, _), (1, _), (2, _), (3, _)]) dX4_wouldRather_23 (by decide) rfl rfl ?_
      refine K_aload_n dX4_wouldRather_24 rfl rfl ?_
      refine K_iload_n dX4_wouldRather_25 rfl rfl ?_
      refine K_iload_n dX4_wouldRather_26 rfl rfl ?_
      refine K_cv (ci := 4) (d1 := d - 1) [_, _] dX4_wouldRather_27 ml_X4_148 (by decide) rfl rfl rfl (Nat.le_of_ble_eq_true rfl) (c_X4_takes (by omega) R w hf hg) (by omega) rfl ?_
      refine K_if_eqB (tgt := 51) dX4_wouldRather_30 (by decide) rfl (fun c30 => ?_) (fun c30 => ?_)
      · refine K_iconst (v := nI 0) dX4_wouldRather_51 (by decide) rfl ?_
        refine K_zret dX4_wouldRather_52 rfl (by first | rfl | exact bI_nar _) ?_
        first | (rw [decide_eq_true (by refine ⟨by simpa using c30, ?_⟩; omega)]; exact ⟨rfl, rfl, rfl⟩) | (rw [decide_eq_false (by rintro ⟨h1, h2⟩; first | (rw [h1] at c30; cases c30; done) | omega)]; exact ⟨rfl, rfl, rfl⟩)
      · refine K_iload_n dX4_wouldRather_33 rfl rfl ?_
        refine K_if_eqN (tgt := 47) dX4_wouldRather_34 (by decide) rfl (by first | omega | fail) (fun c34 => ?_) (fun c34 => ?_)
        · refine K_iconst (v := nI 1) dX4_wouldRather_47 (by decide) rfl ?_
          refine K_goto (tgt := 52) dX4_wouldRather_48 (by decide) ?_
          refine K_zret dX4_wouldRather_52 rfl (by first | rfl | exact bI_nar _) ?_
          first | (rw [decide_eq_true (by refine ⟨by simpa using c30, ?_⟩; omega)]; exact ⟨rfl, rfl, rfl⟩) | (rw [decide_eq_false (by rintro ⟨h1, h2⟩; first | (rw [h1] at c30; cases c30; done) | omega)]; exact ⟨rfl, rfl, rfl⟩)
        · refine K_aload_n dX4_wouldRather_37 rfl rfl ?_
          refine K_iload_n dX4_wouldRather_38 rfl rfl ?_
          refine K_iload_n dX4_wouldRather_39 rfl rfl ?_
          refine K_cv (ci := 4) (d1 := d - 1) [_, _] dX4_wouldRather_40 ml_X4_111 (by decide) rfl rfl rfl (Nat.le_of_ble_eq_true rfl) (c_X4_rankOf R w (by omega) (by omega)) (by omega) rfl ?_
          refine K_iload_n dX4_wouldRather_43 rfl rfl ?_
          refine K_icmp_geN (tgt := 51) dX4_wouldRather_44 (by decide) rfl (by first | omega | fail) (by first | omega | fail) (fun c44 => ?_) (fun c44 => ?_)
          · refine K_iconst (v := nI 0) dX4_wouldRather_51 (by decide) rfl ?_
            refine K_zret dX4_wouldRather_52 rfl (by first | rfl | exact bI_nar _) ?_
            first | (rw [decide_eq_true (by refine ⟨by simpa using c30, ?_⟩; omega)]; exact ⟨rfl, rfl, rfl⟩) | (rw [decide_eq_false (by rintro ⟨h1, h2⟩; first | (rw [h1] at c30; cases c30; done) | omega)]; exact ⟨rfl, rfl, rfl⟩)
          · refine K_iconst (v := nI 1) dX4_wouldRather_47 (by decide) rfl ?_
            refine K_goto (tgt := 52) dX4_wouldRather_48 (by decide) ?_
            refine K_zret dX4_wouldRather_52 rfl (by first | rfl | exact bI_nar _) ?_
            first | (rw [decide_eq_true (by refine ⟨by simpa using c30, ?_⟩; omega)]; exact ⟨rfl, rfl, rfl⟩) | (rw [decide_eq_false (by rintro ⟨h1, h2⟩; first | (rw [h1] at c30; cases c30; done) | omega)]; exact ⟨rfl, rfl, rfl⟩)
    · rw [hgo] at c5; cases c5
  | some a =>
    have hpk := pk_some hp
    have hgo : s_go S f = true := go_t (by rw [hp]; exact fun h => by cases h)
    have hN : N 55 f = nI a := by have := (R.2.1 f hf).2.2.2.2.2.2.2.2.2; rw [hp] at this; exact this
    have ha := w.2.2.2.2.1 f a (by omega) hp
    have h8 := w.rk9 (f := f) (by omega) a
    refine CK.start [(0, _), (1, _), (2, _)] (plainFor_of_name (by decide)) (Nat.le_of_ble_eq_true rfl) rfl ?_
    refine K_aload_n dX4_wouldRather_0 rfl rfl ?_
    refine K_iload_n dX4_wouldRather_1 rfl rfl ?_
    refine K_cv (ci := 4) (d1 := d - 1) [_] dX4_wouldRather_2 ml_X4_145 (by decide) rfl rfl rfl (Nat.le_of_ble_eq_true rfl) (c_X4_goesAtAll R w hf) (by omega) rfl ?_
    refine K_if_eqB (tgt := 22) dX4_wouldRather_5 (by decide) rfl (fun c5 => ?_) (fun c5 => ?_)
    · rw [hgo] at c5; cases c5
    · refine K_aload_n dX4_wouldRather_8 rfl rfl ?_
      refine K_iload_n dX4_wouldRather_9 rfl rfl ?_
      refine K_aload_n dX4_wouldRather_10 rfl rfl ?_
      refine K_getR (r := 55) dX4_wouldRather_11 fl_X4_50 rfl rfl rfl rfl ?_
      refine K_iload_n dX4_wouldRather_14 rfl rfl ?_
      refine K_iald dX4_wouldRather_15 (by first | rfl | exact sk_rk (by omega) | exact sk_hh (by omega)) (by first | omega | fail) (by decide) (by first | assumption | rfl) rfl ?_
      refine K_cv (ci := 4) (d1 := d - 1) [_, _] dX4_wouldRather_16 ml_X4_111 (by decide) rfl rfl rfl (Nat.le_of_ble_eq_true rfl) (c_X4_rankOf R w (by omega) (by omega)) (by omega) rfl ?_
      refine K_goto (tgt := 23) dX4_wouldRather_19 (by decide) ?_
      refine K_istore_n (lv' := [(0, _), (1, _), (2, _), (3, _)]) dX4_wouldRather_23 (by decide) rfl rfl ?_
      refine K_aload_n dX4_wouldRather_24 rfl rfl ?_
      refine K_iload_n dX4_wouldRather_25 rfl rfl ?_
      refine K_iload_n dX4_wouldRather_26 rfl rfl ?_
      refine K_cv (ci := 4) (d1 := d - 1) [_, _] dX4_wouldRather_27 ml_X4_148 (by decide) rfl rfl rfl (Nat.le_of_ble_eq_true rfl) (c_X4_takes (by omega) R w hf hg) (by omega) rfl ?_
      refine K_if_eqB (tgt := 51) dX4_wouldRather_30 (by decide) rfl (fun c30 => ?_) (fun c30 => ?_)
      · refine K_iconst (v := nI 0) dX4_wouldRather_51 (by decide) rfl ?_
        refine K_zret dX4_wouldRather_52 rfl (by first | rfl | exact bI_nar _) ?_
        first | (rw [decide_eq_true (by refine ⟨by simpa using c30, ?_⟩; omega)]; exact ⟨rfl, rfl, rfl⟩) | (rw [decide_eq_false (by rintro ⟨h1, h2⟩; first | (rw [h1] at c30; cases c30; done) | omega)]; exact ⟨rfl, rfl, rfl⟩)
      · refine K_iload_n dX4_wouldRather_33 rfl rfl ?_
        refine K_if_eqN (tgt := 47) dX4_wouldRather_34 (by decide) rfl (by first | omega | fail) (fun c34 => ?_) (fun c34 => ?_)
        · refine K_iconst (v := nI 1) dX4_wouldRather_47 (by decide) rfl ?_
          refine K_goto (tgt := 52) dX4_wouldRather_48 (by decide) ?_
          refine K_zret dX4_wouldRather_52 rfl (by first | rfl | exact bI_nar _) ?_
          first | (rw [decide_eq_true (by refine ⟨by simpa using c30, ?_⟩; omega)]; exact ⟨rfl, rfl, rfl⟩) | (rw [decide_eq_false (by rintro ⟨h1, h2⟩; first | (rw [h1] at c30; cases c30; done) | omega)]; exact ⟨rfl, rfl, rfl⟩)
        · refine K_aload_n dX4_wouldRather_37 rfl rfl ?_
          refine K_iload_n dX4_wouldRather_38 rfl rfl ?_
          refine K_iload_n dX4_wouldRather_39 rfl rfl ?_
          refine K_cv (ci := 4) (d1 := d - 1) [_, _] dX4_wouldRather_40 ml_X4_111 (by decide) rfl rfl rfl (Nat.le_of_ble_eq_true rfl) (c_X4_rankOf R w (by omega) (by omega)) (by omega) rfl ?_
          refine K_iload_n dX4_wouldRather_43 rfl rfl ?_
          refine K_icmp_geN (tgt := 51) dX4_wouldRather_44 (by decide) rfl (by first | omega | fail) (by first | omega | fail) (fun c44 => ?_) (fun c44 => ?_)
          · refine K_iconst (v := nI 0) dX4_wouldRather_51 (by decide) rfl ?_
            refine K_zret dX4_wouldRather_52 rfl (by first | rfl | exact bI_nar _) ?_
            first | (rw [decide_eq_true (by refine ⟨by simpa using c30, ?_⟩; omega)]; exact ⟨rfl, rfl, rfl⟩) | (rw [decide_eq_false (by rintro ⟨h1, h2⟩; first | (rw [h1] at c30; cases c30; done) | omega)]; exact ⟨rfl, rfl, rfl⟩)
          · refine K_iconst (v := nI 1) dX4_wouldRather_47 (by decide) rfl ?_
            refine K_goto (tgt := 52) dX4_wouldRather_48 (by decide) ?_
            refine K_zret dX4_wouldRather_52 rfl (by first | rfl | exact bI_nar _) ?_
            first | (rw [decide_eq_true (by refine ⟨by simpa using c30, ?_⟩; omega)]; exact ⟨rfl, rfl, rfl⟩) | (rw [decide_eq_false (by rintro ⟨h1, h2⟩; first | (rw [h1] at c30; cases c30; done) | omega)]; exact ⟨rfl, rfl, rfl⟩)
theorem wB_hBl {S : GS} {f g : Nat} (hf : f < s_n S) (hg : g < s_n S) : wB (hBl S) f g = (s_tk S f g && s_lk S f g) := by
  show (hBl S f).testBit g = _
  rw [hBl_bit, hBp, decide_eq_true hf, decide_eq_true hg]
  simp
def PCl (S : GS) (s r a f met : Nat) (N : Mem) (K : Mej) : PK := fun res N1 K1 => K1 = K ∧ (∀ i, i ≠ 71 → N1 i = N i) ∧ (∀ j, j < a → N1 71 j = N 71 j) ∧ ((clo (wB (hBl S)) (s_n S) s r f met = none ∧ res = some (.int (bI false))) ∨ ∃ q, clo (wB (hBl S)) (s_n S) s r f met = some q ∧ res = some (.int (bI true)) ∧ ∀ j, j < r → N1 71 (a + j) = nI (q.getD j 0))
def ClC (S : GS) (s many r : Nat) : Prop := ∀ (d a met f : Nat) (N : Mem) (K : Mej), r + 4 ≤ d → RY S N → a + r = many → 1 ≤ a → met < 1024 → f < s_n S → N 71 0 = nI s → N 71 (a - 1) = nI f → CK d mX4_closes [.ref 40, .int (nI many), .int (nI a), .int (nI met)] N K (PCl S s r a f met N K)
def FCl (S : GS) (s r f met : Nat) (g : Nat) : Option (List Nat) := if met.testBit g = true ∨ wB (hBl S) f g = false then none else (clo (wB (hBl S)) (s_n S) s r g (met ||| 2 ^ g)).map (g :: ·)
theorem RY.way {S : GS} {N N1 : Mem} (R : RY S N) (h : ∀ i, i ≠ 71 → N1 i = N i) : RY S N1 := R.frame (fun k _ _ => by rw [h 40 (by decide)]) (fun i hi => h i (by omega))
set_option maxRecDepth 100000 in
theorem l_X4_closes {d : Nat} {S : GS} (w : WF S) {s many r a met f : Nat} {N : Mem} {K : Mej} (ih : ClC S s many r) (hd : r + 5 ≤ d) (hm : many ≤ 10) (R : RY S N) (ha : a + (r + 1) = many) (a1 : 1 ≤ a) (hmet : met < 1024) (hf : f < s_n S) (hs : s < s_n S) (h0 : N 71 0 = nI s) :
    ∀ (k g : Nat) (N1 : Mem), g + k = s_n S → s < g → (∀ j, s < j → j < g → FCl S s r f met j = none) → (∀ i, i ≠ 71 → N1 i = N i) → (∀ j, j < a → N1 71 j = N 71 j) →
    EK d mX4_closes (PCl S s (r + 1) a f met N K) 38 [(0, .ref 40), (1, .int (nI many)), (2, .int (nI a)), (3, .int (nI met)), (4, .int (nI f)), (5, .int (nI g))] [] N1 K
  | 0, g, N1, e, hg, hz, hF, hA => by
    have hn := w.1.1
    have hg2 : g = s_n S := by omega
    subst hg2
    have R1 := R.way hF
    have h7 := R1.1.1
    refine K_iload dX4_closes_38 rfl rfl ?_
    refine K_aload_n dX4_closes_40 rfl rfl ?_
    refine K_getI dX4_closes_41 fl_X4_87 (by first | rfl | exact sk_rk (by omega) | exact sk_hh (by omega)) rfl (by first | assumption | rfl) rfl ?_
    refine K_icmp_geN (tgt := 104) dX4_closes_44 (by decide) rfl (by first | omega | fail) (by first | omega | fail) (fun c44 => ?_) (fun c44 => ?_)
    · refine K_iconst (v := nI 0) dX4_closes_104 (by decide) rfl ?_
      refine K_zret dX4_closes_105 rfl (by first | rfl | exact bI_nar _) ?_
      exact ⟨rfl, hF, hA, Or.inl ⟨ff_no (fun j h1 h2 => hz j (by omega) (by omega)), rfl⟩⟩
    · omega
  | k + 1, g, N1, e, hg, hz, hF, hA => by
    have hn := w.1.1
    have R1 := R.way hF
    have h7 := R1.1.1
    have hw := wB_hBl hf (show g < s_n S by omega)
    have ml : met ||| 2 ^ g < 1024 := Nat.or_lt_two_pow (n := 10) hmet (Nat.pow_lt_pow_right (by omega) (by omega))
    have R2 : RY S (sM N1 71 a (nI g)) := R1.scr (by omega)
    have hF2 : ∀ i, i ≠ 71 → sM N1 71 a (nI g) i = N i := fun i hi => (sM_row hi).trans (hF i hi)
    have hA2 : ∀ j, j < a → sM N1 71 a (nI g) 71 j = N 71 j := fun j hj => (sM_ne (Or.inr (by omega))).trans (hA j hj)
    have hc := ih (d - 1) (a + 1) (met ||| 2 ^ g) g (sM N1 71 a (nI g)) K (by omega) R2 (by omega) (by omega) ml (by omega) ((hA2 0 (by omega)).trans h0) (sM_eq _ _ _ _)
    have skip : FCl S s r f met g = none → ∀ N2, (∀ i, i ≠ 71 → N2 i = N i) → (∀ j, j < a → N2 71 j = N 71 j) → EK d mX4_closes (PCl S s (r + 1) a f met N K) 38 [(0, .ref 40), (1, .int (nI many)), (2, .int (nI a)), (3, .int (nI met)), (4, .int (nI f)), (5, .int (nI (g + 1)))] [] N2 K := fun z N2 y1 y2 =>
      l_X4_closes w ih hd hm R ha a1 hmet hf hs h0 k (g + 1) N2 (by omega) (by omega) (fun j h1 h2 => by
        rcases Nat.lt_succ_iff_lt_or_eq.mp h2 with h2 | rfl
        · exact hz j h1 h2
        · exact z) y1 y2
    have fin : met.testBit g = false → wB (hBl S) f g = true → ∀ res N2 K2, PCl S s r (a + 1) g (met ||| 2 ^ g) (sM N1 71 a (nI g)) K res N2 K2 → EK d mX4_closes (PCl S s (r + 1) a f met N K) 93 [(0, .ref 40), (1, .int (nI many)), (2, .int (nI a)), (3, .int (nI met)), (4, .int (nI f)), (5, .int (nI g))] (res.toList ++ []) N2 K2 := by
      rintro q1 q2 res N2 K2 ⟨z1, z2, z3, z4⟩
      subst z1
      have y1 : ∀ i, i ≠ 71 → N2 i = N i := fun i hi => (z2 i hi).trans (hF2 i hi)
      have y2 : ∀ j, j < a → N2 71 j = N 71 j := fun j hj => (z3 j (by omega)).trans (hA2 j hj)
      have fc : FCl S s r f met g = (clo (wB (hBl S)) (s_n S) s r g (met ||| 2 ^ g)).map (g :: ·) := if_neg (by rw [q1, q2]; rintro (z | z) <;> cases z)
      rcases z4 with ⟨x1, x2⟩ | ⟨q, x1, x2, x3⟩
      · subst x2
        refine K_if_eqB (tgt := 98) dX4_closes_93 (by decide) rfl (fun c93 => ?_) (fun c93 => by cases c93)
        first | refine K_incN (lv' := [(0, _), (1, _), (2, _), (3, _), (4, _), (5, _)]) dX4_closes_98 rfl (by decide) rfl rfl ?_ | refine K_iinc (lv' := [(0, _), (1, _), (2, _), (3, _), (4, _), (5, _)]) dX4_closes_98 rfl rfl (by decide) rfl rfl ?_
        refine K_goto (tgt := 38) dX4_closes_101 (by decide) ?_
        exact skip (by rw [fc, x1]; rfl) N2 y1 y2
      · subst x2
        refine K_if_eqB (tgt := 98) dX4_closes_93 (by decide) rfl (fun c93 => by cases c93) (fun c93 => ?_)
        refine K_iconst (v := nI 1) dX4_closes_96 (by decide) rfl ?_
        refine K_zret dX4_closes_97 rfl (by first | rfl | exact bI_nar _) ?_
        refine ⟨rfl, y1, y2, Or.inr ⟨g :: q, ff_is (j := g) (by omega) (by omega) (by show FCl S s r f met g = _; rw [fc, x1]; rfl) (fun j2 h1 h2 => hz j2 (by omega) h2), rfl, fun j hj => ?_⟩⟩
        rcases Nat.eq_zero_or_pos j with rfl | hp
        · exact (z3 a (by omega)).trans (sM_eq _ _ _ _)
        · obtain ⟨j, rfl⟩ : ∃ j2, j = j2 + 1 := ⟨j - 1, by omega⟩
          have := x3 j (by omega)
          rw [show a + 1 + j = a + (j + 1) by omega] at this
          exact this
    refine K_iload dX4_closes_38 rfl rfl ?_
    refine K_aload_n dX4_closes_40 rfl rfl ?_
    refine K_getI dX4_closes_41 fl_X4_87 (by first | rfl | exact sk_rk (by omega) | exact sk_hh (by omega)) rfl (by first | assumption | rfl) rfl ?_
    refine K_icmp_geN (tgt := 104) dX4_closes_44 (by decide) rfl (by first | omega | fail) (by first | omega | fail) (fun c44 => ?_) (fun c44 => ?_)
    · omega
    · refine K_iload_n dX4_closes_47 rfl rfl ?_
      refine K_iload dX4_closes_48 rfl rfl ?_
      first | refine K_shrN dX4_closes_50 (by first | omega | fail) (by first | omega | fail) rfl ?_ | refine K_ishr dX4_closes_50 rfl ?_
      refine K_iconst (v := nI 1) dX4_closes_51 (by decide) rfl ?_
      first | refine K_bitN dX4_closes_52 rfl ?_ | refine K_andN dX4_closes_52 rfl ?_ | refine K_iand dX4_closes_52 rfl ?_
      refine K_iconst (v := nI 1) dX4_closes_53 (by decide) rfl ?_
      refine K_icmp_eqB1 (tgt := 98) dX4_closes_54 (by decide) rfl (fun c54 => ?_) (fun c54 => ?_)
      · first | refine K_incN (lv' := [(0, _), (1, _), (2, _), (3, _), (4, _), (5, _)]) dX4_closes_98 rfl (by decide) rfl rfl ?_ | refine K_iinc (lv' := [(0, _), (1, _), (2, _), (3, _), (4, _), (5, _)]) dX4_closes_98 rfl rfl (by decide) rfl rfl ?_
        refine K_goto (tgt := 38) dX4_closes_101 (by decide) ?_
        first | exact skip (if_pos (Or.inl c54)) N1 hF hA | exact skip (if_pos (Or.inr (by rw [hw]; exact c65))) N1 hF hA
      · refine K_aload_n dX4_closes_57 rfl rfl ?_
        refine K_iload dX4_closes_58 rfl rfl ?_
        refine K_iload dX4_closes_60 rfl rfl ?_
        refine K_cv (ci := 4) (d1 := d - 1) [_, _] dX4_closes_62 ml_X4_225 (by decide) rfl rfl rfl (Nat.le_of_ble_eq_true rfl) (c_X4_wouldRather (by omega) R1 w hf (by omega)) (by omega) rfl ?_
        refine K_if_neB (tgt := 71) dX4_closes_65 (by decide) rfl (fun c65 => ?_) (fun c65 => ?_)
        · refine K_aload_n dX4_closes_71 rfl rfl ?_
          refine K_getR (r := 71) dX4_closes_72 fl_X4_75 rfl rfl rfl rfl ?_
          refine K_iload_n dX4_closes_75 rfl rfl ?_
          refine K_iload dX4_closes_76 rfl rfl ?_
          refine K_iast dX4_closes_78 (by first | rfl | exact sk_rk (by omega) | exact sk_hh (by omega)) (by first | omega | fail) (by decide) rfl ?_
          refine K_aload_n dX4_closes_79 rfl rfl ?_
          refine K_iload_n dX4_closes_80 rfl rfl ?_
          refine K_iload_n dX4_closes_81 rfl rfl ?_
          refine K_iconst (v := nI 1) dX4_closes_82 (by decide) rfl ?_
          refine K_addN dX4_closes_83 rfl ?_
          refine K_iload_n dX4_closes_84 rfl rfl ?_
          refine K_iconst (v := nI 1) dX4_closes_85 (by decide) rfl ?_
          refine K_iload dX4_closes_86 rfl rfl ?_
          first | refine K_shl1 dX4_closes_88 (by first | omega | fail) rfl ?_ | refine K_shlN dX4_closes_88 (by first | omega | fail) (by first | omega | fail) rfl ?_ | refine K_ishl dX4_closes_88 rfl ?_
          refine K_orN dX4_closes_89 rfl ?_
          refine K_callV (ci := 4) (d1 := d - 1) [_, _, _] dX4_closes_90 ml_X4_228 (by decide) rfl rfl rfl (Nat.le_of_ble_eq_true rfl) hc (by omega) rfl ?_
          exact fin (by simpa using c54) (by rw [hw]; exact c65)
        · refine K_goto (tgt := 98) dX4_closes_68 (by decide) ?_
          first | refine K_incN (lv' := [(0, _), (1, _), (2, _), (3, _), (4, _), (5, _)]) dX4_closes_98 rfl (by decide) rfl rfl ?_ | refine K_iinc (lv' := [(0, _), (1, _), (2, _), (3, _), (4, _), (5, _)]) dX4_closes_98 rfl rfl (by decide) rfl rfl ?_
          refine K_goto (tgt := 38) dX4_closes_101 (by decide) ?_
          first | exact skip (if_pos (Or.inl c54)) N1 hF hA | exact skip (if_pos (Or.inr (by rw [hw]; exact c65))) N1 hF hA
set_option maxRecDepth 100000 in
theorem c_X4_closes {S : GS} (w : WF S) {s many : Nat} (hs : s < s_n S) (hm : many ≤ 10) : ∀ r, ClC S s many r
  | 0, d, a, met, f, N, K, hd, R, ha, a1, hmet, hf, h0, h1 => by
    have hn := w.1.1
    have hw := wB_hBl hf hs
    refine CK.start [(0, _), (1, _), (2, _), (3, _)] (plainFor_of_name (by decide)) (Nat.le_of_ble_eq_true rfl) rfl ?_
    refine K_aload_n dX4_closes_0 rfl rfl ?_
    refine K_getR (r := 71) dX4_closes_1 fl_X4_75 rfl rfl rfl rfl ?_
    refine K_iload_n dX4_closes_4 rfl rfl ?_
    refine K_iconst (v := nI 1) dX4_closes_5 (by decide) rfl ?_
    first | refine K_subN dX4_closes_6 (by first | omega | fail) rfl ?_ | refine K_isub dX4_closes_6 rfl ?_
    refine K_iald dX4_closes_7 (by first | rfl | exact sk_rk (by omega) | exact sk_hh (by omega)) (by first | omega | fail) (by decide) (by first | assumption | rfl) rfl ?_
    refine K_istore (lv' := [(0, _), (1, _), (2, _), (3, _), (4, _)]) dX4_closes_8 (by decide) rfl rfl ?_
    refine K_iload_n dX4_closes_10 rfl rfl ?_
    refine K_iload_n dX4_closes_11 rfl rfl ?_
    refine K_icmp_neN (tgt := 28) dX4_closes_12 (by decide) rfl (by first | omega | fail) (by first | omega | fail) (fun c12 => ?_) (fun c12 => ?_)
    · omega
    · refine K_aload_n dX4_closes_15 rfl rfl ?_
      refine K_iload dX4_closes_16 rfl rfl ?_
      refine K_aload_n dX4_closes_18 rfl rfl ?_
      refine K_getR (r := 71) dX4_closes_19 fl_X4_75 rfl rfl rfl rfl ?_
      refine K_iconst (v := nI 0) dX4_closes_22 (by decide) rfl ?_
      refine K_iald dX4_closes_23 (by first | rfl | exact sk_rk (by omega) | exact sk_hh (by omega)) (by first | omega | fail) (by decide) (by first | assumption | rfl) rfl ?_
      refine K_cv (ci := 4) (d1 := d - 1) [_, _] dX4_closes_24 ml_X4_225 (by decide) rfl rfl rfl (Nat.le_of_ble_eq_true rfl) (c_X4_wouldRather (by omega) R w hf hs) (by omega) rfl ?_
      refine K_zret dX4_closes_27 rfl (by first | rfl | exact bI_nar _) ?_
      refine ⟨rfl, fun _ _ => rfl, fun _ _ => rfl, ?_⟩
      rw [← hw]
      show ((if wB (hBl S) f s = true then some [] else none) = none ∧ _) ∨ _
      cases hh : wB (hBl S) f s with
      | false => exact Or.inl ⟨rfl, rfl⟩
      | true => exact Or.inr ⟨[], by show (if wB (hBl S) f s = true then some [] else none) = _; rw [hh]; rfl, rfl, fun j hj => absurd hj (Nat.not_lt_zero j)⟩
  | r + 1, d, a, met, f, N, K, hd, R, ha, a1, hmet, hf, h0, h1 => by
    have hn := w.1.1
    refine CK.start [(0, _), (1, _), (2, _), (3, _)] (plainFor_of_name (by decide)) (Nat.le_of_ble_eq_true rfl) rfl ?_
    refine K_aload_n dX4_closes_0 rfl rfl ?_
    refine K_getR (r := 71) dX4_closes_1 fl_X4_75 rfl rfl rfl rfl ?_
    refine K_iload_n dX4_closes_4 rfl rfl ?_
    refine K_iconst (v := nI 1) dX4_closes_5 (by decide) rfl ?_
    first | refine K_subN dX4_closes_6 (by first | omega | fail) rfl ?_ | refine K_isub dX4_closes_6 rfl ?_
    refine K_iald dX4_closes_7 (by first | rfl | exact sk_rk (by omega) | exact sk_hh (by omega)) (by first | omega | fail) (by decide) (by first | assumption | rfl) rfl ?_
    refine K_istore (lv' := [(0, _), (1, _), (2, _), (3, _), (4, _)]) dX4_closes_8 (by decide) rfl rfl ?_
    refine K_iload_n dX4_closes_10 rfl rfl ?_
    refine K_iload_n dX4_closes_11 rfl rfl ?_
    refine K_icmp_neN (tgt := 28) dX4_closes_12 (by decide) rfl (by first | omega | fail) (by first | omega | fail) (fun c12 => ?_) (fun c12 => ?_)
    · refine K_aload_n dX4_closes_28 rfl rfl ?_
      refine K_getR (r := 71) dX4_closes_29 fl_X4_75 rfl rfl rfl rfl ?_
      refine K_iconst (v := nI 0) dX4_closes_32 (by decide) rfl ?_
      refine K_iald dX4_closes_33 (by first | rfl | exact sk_rk (by omega) | exact sk_hh (by omega)) (by first | omega | fail) (by decide) (by first | assumption | rfl) rfl ?_
      refine K_iconst (v := nI 1) dX4_closes_34 (by decide) rfl ?_
      refine K_addN dX4_closes_35 rfl ?_
      refine K_istore (lv' := [(0, _), (1, _), (2, _), (3, _), (4, _), (5, _)]) dX4_closes_36 (by decide) rfl rfl ?_
      exact l_X4_closes w (c_X4_closes w hs hm r) (by omega) hm R ha a1 hmet hf hs h0 (s_n S - (s + 1)) (s + 1) N (by omega) (by omega) (fun j h1 h2 => by omega) (fun _ _ => rfl) (fun _ _ => rfl)
    · omega
def o_blk (S : GS) : Int32 × GS := match blR (hBl S) (s_n S) with
  | none => (nI 0, S)
  | some q => (nI q.length, tellG S q.length (fun i => q.getD i 0))
theorem o_blocks_eq (S : GS) : o_blocks S = o_blk (gC S) := rfl
def FBm (S : GS) (m s : Nat) : Option (List Nat) := (clo (wB (hBl S)) (s_n S) s (m - 1) s (2 ^ s)).map (s :: ·)
theorem li_X4_blocks {d : Nat} (hd : 20 ≤ d) {S : GS} (w : WF S) (hch : s_ch S = false) {N0 N : Mem} {K : Mej} (R : RY S N) (F : FY N0 N) {m : Nat} (hm : 2 ≤ m) (hmn : m ≤ s_n S) (hz : ∀ j, 2 ≤ j → j < m → ff (FBm S j) (s_n S) 0 = none)
    (next : ff (FBm S m) (s_n S) 0 = none → ∀ N1, (∀ i, i ≠ 71 → N1 i = N i) → EK d mX4_blocks (PRY (o_blk S).1 (o_blk S).2 N0 K) 12 [(0, .ref 40), (1, .int (nI (m + 1)))] [] N1 K) :
    ∀ (k s : Nat) (N1 : Mem), s + k = s_n S → (∀ j, j < s → FBm S m j = none) → (∀ i, i ≠ 71 → N1 i = N i) → EK d mX4_blocks (PRY (o_blk S).1 (o_blk S).2 N0 K) 22 [(0, .ref 40), (1, .int (nI m)), (2, .int (nI s))] [] N1 K
  | 0, s, N1, e, hs, hF => by
    have hn := w.1.1
    have h2 : s = s_n S := by omega
    subst h2
    have h7 := (R.way hF).1.1
    refine K_iload_n dX4_blocks_22 rfl rfl ?_
    refine K_aload_n dX4_blocks_23 rfl rfl ?_
    refine K_getI dX4_blocks_24 fl_X4_87 (by first | rfl | exact sk_rk (by omega) | exact sk_hh (by omega)) rfl (by first | assumption | rfl) rfl ?_
    refine K_icmp_geN (tgt := 61) dX4_blocks_27 (by decide) rfl (by first | omega | fail) (by first | omega | fail) (fun c27 => ?_) (fun c27 => ?_)
    · first | refine K_incN (lv' := [(0, _), (1, _), (2, _)]) dX4_blocks_61 rfl (by decide) rfl rfl ?_ | refine K_iinc (lv' := [(0, _), (1, _), (2, _)]) dX4_blocks_61 rfl rfl (by decide) rfl rfl ?_
      refine K_goto (tgt := 12) dX4_blocks_64 (by decide) ?_
      refine K_pick [0, 1] rfl ?_
      exact next (ff_no (fun j _ h2 => hs j (by omega))) N1 hF
    · omega
  | k + 1, s, N1, e, hs, hF => by
    have hn := w.1.1
    have h7 := (R.way hF).1.1
    have R1 : RY S (sM N1 71 0 (nI s)) := (R.way hF).scr (by omega)
    have ml : 2 ^ s < 1024 := show 2 ^ s < 2 ^ 10 from Nat.pow_lt_pow_right (by omega) (by omega)
    have hc := c_X4_closes w (show s < s_n S by omega) (show m ≤ 10 by omega) (m - 1) (d - 1) 1 (2 ^ s) s (sM N1 71 0 (nI s)) K (by omega) R1 (by omega) (by omega) ml (by omega) (sM_eq _ _ _ _) (sM_eq _ _ _ _)
    refine K_iload_n dX4_blocks_22 rfl rfl ?_
    refine K_aload_n dX4_blocks_23 rfl rfl ?_
    refine K_getI dX4_blocks_24 fl_X4_87 (by first | rfl | exact sk_rk (by omega) | exact sk_hh (by omega)) rfl (by first | assumption | rfl) rfl ?_
    refine K_icmp_geN (tgt := 61) dX4_blocks_27 (by decide) rfl (by first | omega | fail) (by first | omega | fail) (fun c27 => ?_) (fun c27 => ?_)
    · omega
    · refine K_aload_n dX4_blocks_30 rfl rfl ?_
      refine K_getR (r := 71) dX4_blocks_31 fl_X4_75 rfl rfl rfl rfl ?_
      refine K_iconst (v := nI 0) dX4_blocks_34 (by decide) rfl ?_
      refine K_iload_n dX4_blocks_35 rfl rfl ?_
      refine K_iast dX4_blocks_36 (by first | rfl | exact sk_rk (by omega) | exact sk_hh (by omega)) (by first | omega | fail) (by decide) rfl ?_
      refine K_aload_n dX4_blocks_37 rfl rfl ?_
      refine K_iload_n dX4_blocks_38 rfl rfl ?_
      refine K_iconst (v := nI 1) dX4_blocks_39 (by decide) rfl ?_
      refine K_iconst (v := nI 1) dX4_blocks_40 (by decide) rfl ?_
      refine K_iload_n dX4_blocks_41 rfl rfl ?_
      first | refine K_shl1 dX4_blocks_42 (by first | omega | fail) rfl ?_ | refine K_shlN dX4_blocks_42 (by first | omega | fail) (by first | omega | fail) rfl ?_ | refine K_ishl dX4_blocks_42 rfl ?_
      refine K_callV (ci := 4) (d1 := d - 1) [_, _, _] dX4_blocks_43 ml_X4_228 (by decide) rfl rfl rfl (Nat.le_of_ble_eq_true rfl) hc (by omega) rfl ?_
      rintro res N2 K2 ⟨z1, z2, z3, z4⟩
      subst z1
      have y1 : ∀ i, i ≠ 71 → N2 i = N i := fun i hi => (z2 i hi).trans ((sM_row hi).trans (hF i hi))
      rcases z4 with ⟨x1, x2⟩ | ⟨q, x1, x2, x3⟩
      · subst x2
        refine K_if_eqB (tgt := 55) dX4_blocks_46 (by decide) rfl (fun c46 => ?_) (fun c46 => by cases c46)
        first | refine K_incN (lv' := [(0, _), (1, _), (2, _)]) dX4_blocks_55 rfl (by decide) rfl rfl ?_ | refine K_iinc (lv' := [(0, _), (1, _), (2, _)]) dX4_blocks_55 rfl rfl (by decide) rfl rfl ?_
        refine K_goto (tgt := 22) dX4_blocks_58 (by decide) ?_
        exact li_X4_blocks hd w hch R F hm hmn hz next k (s + 1) N2 (by omega) (fun j hj => by
          rcases Nat.lt_succ_iff_lt_or_eq.mp hj with hj | rfl
          · exact hs j hj
          · show Option.map _ _ = none
            rw [x1]; rfl) y1
      · subst x2
        have bq : blR (hBl S) (s_n S) = some (s :: q) := ff_is (j := m) (by omega) (by omega) (show ff (FBm S m) (s_n S) 0 = _ from ff_is (j := s) (by omega) (by omega) (by show Option.map _ _ = _; rw [x1]; rfl) (fun j _ hj => hs j hj)) (fun j h1 h2 => hz j h1 h2)
        have ql : (s :: q).length = m := by have := (clo_some x1).1; rw [List.length_cons]; omega
        have e5 : o_blk S = (nI m, tellG S m (fun i => (s :: q).getD i 0)) := by unfold o_blk; rw [bq]; show (nI (s :: q).length, tellG S (s :: q).length _) = _; rw [ql]
        have hw : ∀ j, j < m → N2 71 j = nI ((s :: q).getD j 0) := fun j hj => by
          rcases Nat.eq_zero_or_pos j with rfl | hp
          · exact (z3 0 (by omega)).trans (sM_eq _ _ _ _)
          · obtain ⟨j, rfl⟩ : ∃ j2, j = j2 + 1 := ⟨j - 1, by omega⟩
            have := x3 j (by omega)
            rw [show 1 + j = j + 1 by omega] at this
            exact this
        rw [e5]
        refine K_if_eqB (tgt := 55) dX4_blocks_46 (by decide) rfl (fun c46 => by cases c46) (fun c46 => ?_)
        refine K_aload_n dX4_blocks_49 rfl rfl ?_
        refine K_iload_n dX4_blocks_50 rfl rfl ?_
        refine K_callV (ci := 4) (d1 := d - 1) [_] dX4_blocks_51 ml_X4_232 (by decide) rfl rfl rfl (Nat.le_of_ble_eq_true rfl) (c_X4_tells (td := fun i => (s :: q).getD i 0) (show m ≤ 10 by omega) hw) (by omega) rfl ?_
        rintro r N3 K3 ⟨t1, t2, t3, t4⟩
        subst t1
        subst t4
        refine K_iret dX4_blocks_54 rfl ?_
        refine ⟨rfl, ?_, F.trans (FY.trans (N1 := N2) (fun i hi => y1 i (by omega)) (fun i hi => (t2 i (by omega)).trans (sM_row (by omega)))), rfl⟩
        exact RY.tell (R.way y1) hch (fun j hj => (congrFun (t2 40 (by decide)) j).trans (sM_ne (Or.inr hj))) ((congrFun (t2 40 (by decide)) 29).trans (sM_eq _ _ _ _)) (fun r hr => (t2 r (by omega)).trans (sM_row (by omega))) t3
theorem lo_X4_blocks {d : Nat} (hd : 20 ≤ d) {S : GS} (w : WF S) (hch : s_ch S = false) {N0 N : Mem} {K : Mej} (R : RY S N) (F : FY N0 N) :
    ∀ (k m : Nat) (N1 : Mem), m + k = s_n S + 1 ∨ (k = 0 ∧ s_n S < m ∧ m = 2) → 2 ≤ m → (∀ j, 2 ≤ j → j < m → ff (FBm S j) (s_n S) 0 = none) → (∀ i, i ≠ 71 → N1 i = N i) → EK d mX4_blocks (PRY (o_blk S).1 (o_blk S).2 N0 K) 12 [(0, .ref 40), (1, .int (nI m))] [] N1 K
  | 0, m, N1, e, h2, hz, hF => by
    have hn := w.1.1
    have h7 := (R.way hF).1.1
    have bq : blR (hBl S) (s_n S) = none := ff_no (fun j h1 h3 => hz j h1 (by omega))
    have e5 : o_blk S = (nI 0, S) := by unfold o_blk; rw [bq]
    rw [e5]
    refine K_iload_n dX4_blocks_12 rfl rfl ?_
    refine K_aload_n dX4_blocks_13 rfl rfl ?_
    refine K_getI dX4_blocks_14 fl_X4_87 (by first | rfl | exact sk_rk (by omega) | exact sk_hh (by omega)) rfl (by first | assumption | rfl) rfl ?_
    refine K_icmp_gtN (tgt := 67) dX4_blocks_17 (by decide) rfl (by first | omega | fail) (by first | omega | fail) (fun c17 => ?_) (fun c17 => ?_)
    · refine K_iconst (v := nI 0) dX4_blocks_67 (by decide) rfl ?_
      refine K_iret dX4_blocks_68 rfl ?_
      exact ⟨rfl, R.way hF, F.trans (fun i hi => hF i (by omega)), rfl⟩
    · omega
  | k + 1, m, N1, e, h2, hz, hF => by
    have hn := w.1.1
    have h7 := (R.way hF).1.1
    refine K_iload_n dX4_blocks_12 rfl rfl ?_
    refine K_aload_n dX4_blocks_13 rfl rfl ?_
    refine K_getI dX4_blocks_14 fl_X4_87 (by first | rfl | exact sk_rk (by omega) | exact sk_hh (by omega)) rfl (by first | assumption | rfl) rfl ?_
    refine K_icmp_gtN (tgt := 67) dX4_blocks_17 (by decide) rfl (by first | omega | fail) (by first | omega | fail) (fun c17 => ?_) (fun c17 => ?_)
    · omega
    · refine K_iconst (v := nI 0) dX4_blocks_20 (by decide) rfl ?_
      refine K_istore_n (lv' := [(0, _), (1, _), (2, _)]) dX4_blocks_21 (by decide) rfl rfl ?_
      exact li_X4_blocks hd w hch R F h2 (by omega) hz (fun z N2 y => lo_X4_blocks hd w hch R F k (m + 1) N2 (by omega) (by omega) (fun j h1 h3 => by
        rcases Nat.lt_succ_iff_lt_or_eq.mp h3 with h3 | rfl
        · exact hz j h1 h3
        · exact z) y) (s_n S) 0 N1 (by omega) (fun j hj => absurd hj (Nat.not_lt_zero j)) hF
set_option maxRecDepth 100000 in
theorem c_X4_blocks {d : Nat} (hd : 20 ≤ d) {S : GS} {N : Mem} {K : Mej} (R : RY S N) (w : WF S) : CK d mX4_blocks [.ref 40] N K (PRY (o_blocks S).1 (o_blocks S).2 N K) := by
  rw [o_blocks_eq]
  refine CK.start [(0, _)] (plainFor_of_name (by decide)) (Nat.le_of_ble_eq_true rfl) rfl ?_
  refine K_aload_n dX4_blocks_0 rfl rfl ?_
  refine K_iconst (v := nI 0) dX4_blocks_1 (by decide) rfl ?_
  refine K_putI dX4_blocks_2 fl_X4_84 (by first | rfl | exact sk_rk (by omega) | exact sk_hh (by omega)) rfl rfl rfl rfl ?_
  refine K_aload_n dX4_blocks_5 rfl rfl ?_
  refine K_iconst (v := nI 0) dX4_blocks_6 (by decide) rfl ?_
  refine K_putI dX4_blocks_7 fl_X4_98 (by first | rfl | exact sk_rk (by omega) | exact sk_hh (by omega)) rfl rfl rfl rfl ?_
  refine K_iconst (v := nI 2) dX4_blocks_10 (by decide) rfl ?_
  refine K_istore_n (lv' := [(0, _), (1, _)]) dX4_blocks_11 (by decide) rfl rfl ?_
  exact lo_X4_blocks hd w.c0 rfl R.c0 (FY.c0 N) (s_n (gC S) - 1) 2 _ (by omega) (by omega) (fun j h1 h2 => by omega) (fun _ _ => rfl)
