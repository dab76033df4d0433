/-! the reference's goesOn and chain -/
def GF (N N1 : Mem) : Prop := (∀ i, i ≠ 40 → i ≠ 71 → i ≠ 73 → N1 i = N i) ∧ ∀ k, k ≠ 32 → N1 40 k = N 40 k
def GB (b : List Nat) (N : Mem) : Prop := N 40 32 = nI b.length ∧ ∀ j, j < b.length → N 73 j = nI (b.getD j 0)
def GP (p : List Nat) (N : Mem) : Prop := ∀ j, j < p.length → N 71 j = nI (p.getD j 0)
theorem GF.rf (N : Mem) : GF N N := ⟨fun _ _ _ _ => rfl, fun _ _ => rfl⟩
theorem GF.trans {N N1 N2 : Mem} (h : GF N N1) (h2 : GF N1 N2) : GF N N2 := ⟨fun i a b c => (h2.1 i a b c).trans (h.1 i a b c), fun k a => (h2.2 k a).trans (h.2 k a)⟩
theorem GF.set {N N1 : Mem} (h : GF N N1) {a k : Nat} {v : Int32} (ha : a = 71 ∨ a = 73 ∨ (a = 40 ∧ k = 32)) : GF N (sM N1 a k v) := ⟨fun i h1 h2 h3 => (sM_row (by omega)).trans (h.1 i h1 h2 h3), fun j hj => (sM_ne (by omega)).trans (h.2 j hj)⟩
theorem RY.gf {S : GS} {N N1 : Mem} (R : RY S N) (h : GF N N1) : RY S N1 := R.frame (fun k _ hk => h.2 k (by omega)) (fun i hi => h.1 i (by omega) (by omega) (by omega))
theorem GF.fy {N N1 : Mem} (h : GF N N1) : FY N N1 := fun i hi => h.1 i (by omega) (by omega) (by omega)
theorem gOn_le {W : Nat → Nat → Bool} {n r f met : Nat} {p b : List Nat} (hr : cnt met.testBit n + r = n) (hp : p.length + r = n) (hb : b.length ≤ n) : (gOn W n (r + 1) f met p b).length ≤ n := by
  rcases gOn_is W n r f met p b hr with ⟨e, -⟩ | ⟨q, h1, e, -⟩
  · rw [e]; exact hb
  · have := ch_len h1
    rw [e, List.length_append]
    omega
theorem gL_le {W : Nat → Nat → Bool} {n r f met : Nat} {p b : List Nat} (hr : cnt met.testBit n + r = n) (hp : p.length + r = n) (hb : b.length ≤ n) : ∀ i, i ≤ n → (gL (fun g b => if met.testBit g = true ∨ W f g = false then b else gOn W n r g (met ||| 2 ^ g) (p ++ [g]) b) i b).length ≤ n
  | 0, _ => hb
  | i + 1, hi => by
    show (if met.testBit i = true ∨ W f i = false then _ else _ : List Nat).length ≤ n
    split
    · exact gL_le hr hp hb i (by omega)
    · next e =>
      have e1 : met.testBit i = false := by cases hh : met.testBit i with | false => rfl | true => exact absurd (Or.inl hh) e
      have hc := cnt_lt (p := met.testBit) (show i < n by omega) e1
      obtain ⟨r, rfl⟩ : ∃ r2, r = r2 + 1 := ⟨r - 1, by omega⟩
      exact gOn_le (by rw [cnt_or e1 (by omega)]; omega) (by rw [List.length_append]; show p.length + 1 + r = n; omega) (gL_le hr hp hb i (by omega))
def has (S : GS) (a f : Nat) : Int32 := s_po S f + (if f = a then nI 0 else nI (s_wo S f))
def GoC (S : GS) (a r : Nat) : Prop := ∀ (d f met : Nat) (p b : List Nat) (N : Mem) (K : Mej), r + 6 ≤ d → RY S N → cnt met.testBit (s_n S) + r = s_n S → p.length + r = s_n S → 0 < p.length → b.length ≤ s_n S → met < 1024 → met.testBit a = true → f < s_n S → p.getD (p.length - 1) 0 = f → GP p N → GB b N →
  CK d mX4_goesOn [.ref 40, .int (nI p.length), .int (nI met), .int (has S a f)] N K (fun res N1 K1 => res = none ∧ GF N N1 ∧ GP p N1 ∧ GB (gOn (wB (cCh S a)) (s_n S) (r + 1) f met p b) N1 ∧ K1 = K)
theorem wB_cCh {S : GS} {a f g : Nat} (hf : f < s_n S) (hg : g < s_n S) : wB (cCh S a) f g = (cCq S a g && (s_tk S f g && cOk S a f g)) := by
  show (cCh S a f).testBit g = _
  rw [cCh_bit, cCp, decide_eq_true hf, decide_eq_true hg]
  simp
theorem cOk_has (S : GS) (a f g : Nat) : cOk S a f g = !decide (has S a f - nI (s_wo S g) < -(nI (s_li S))) := rfl
theorem getD_app {p : List Nat} {g j : Nat} (hj : j < p.length) : (p ++ [g]).getD j 0 = p.getD j 0 := by
  rw [List.getD_eq_getElem?_getD, List.getD_eq_getElem?_getD, List.getElem?_append_left hj]
theorem getD_last (p : List Nat) (g : Nat) : (p ++ [g]).getD p.length 0 = g := by
  rw [List.getD_eq_getElem?_getD, List.getElem?_append_right (Nat.le_refl _), Nat.sub_self]
  rfl
set_option maxRecDepth 100000 in
theorem lg_X4_goesOn {d : Nat} {S : GS} (w : WF S) {a r f met : Nat} {p b1 : List Nat} {N : Mem} {K : Mej} {Post : PK} (ih : 0 < r → GoC S a (r - 1)) (hd : r + 6 ≤ d) (R : RY S N) (hr : cnt met.testBit (s_n S) + r = s_n S) (hp : p.length + r = s_n S) (p0 : 0 < p.length) (hb : b1.length ≤ s_n S) (hmet : met < 1024) (hma : met.testBit a = true) (hf : f < s_n S)
    (hP : ∀ N1, GF N N1 → GP p N1 → GB (gL (fun g b => if met.testBit g = true ∨ wB (cCh S a) f g = false then b else gOn (wB (cCh S a)) (s_n S) r g (met ||| 2 ^ g) (p ++ [g]) b) (s_n S) b1) N1 → Post none N1 K) :
    ∀ (k g : Nat) (N1 : Mem), g + k = s_n S → GF N N1 → GP p N1 → GB (gL (fun g b => if met.testBit g = true ∨ wB (cCh S a) f g = false then b else gOn (wB (cCh S a)) (s_n S) r g (met ||| 2 ^ g) (p ++ [g]) b) g b1) N1 →
    EK d mX4_goesOn Post 55 [(0, .ref 40), (1, .int (nI p.length)), (2, .int (nI met)), (3, .int (has S a f)), (4, .int (nI f)), (5, .int (nI g))] [] N1 K
  | 0, g, N1, e, hF, hG, hB => by
    have hn := w.1.1
    have hg2 : g = s_n S := by omega
    subst hg2
    have R1 := R.gf hF
    have h7 := R1.1.1
    refine K_iload dX4_goesOn_55 rfl rfl ?_
    refine K_aload_n dX4_goesOn_57 rfl rfl ?_
    refine K_getI dX4_goesOn_58 fl_X4_87 (by first | rfl | exact sk_rk (by omega) | exact sk_hh (by omega)) rfl (by first | assumption | rfl) rfl ?_
    refine K_icmp_geN (tgt := 163) dX4_goesOn_61 (by decide) rfl (by first | omega | fail) (by first | omega | fail) (fun c61 => ?_) (fun c61 => ?_)
    · refine K_ret dX4_goesOn_163 rfl ?_
      exact hP N1 hF hG hB
    · omega
  | k + 1, g, N1, e, hF, hG, hB => by
    have hn := w.1.1
    have R1 := R.gf hF
    have h7 := R1.1.1
    have h18 := R1.1.2.2.2.1
    have hgn : g < s_n S := by omega
    have hw := wB_cCh (a := a) hf hgn
    have hgu : oB (s_gu S g) := oB_fnd hn
    have h50 := (R1.2.2.1 g (by omega)).1
    have ml : met ||| 2 ^ g < 1024 := Nat.or_lt_two_pow (n := 10) hmet (Nat.pow_lt_pow_right (by omega) (by omega))
    have skip : met.testBit g = true ∨ wB (cCh S a) f g = false → EK d mX4_goesOn Post 55 [(0, .ref 40), (1, .int (nI p.length)), (2, .int (nI met)), (3, .int (has S a f)), (4, .int (nI f)), (5, .int (nI (g + 1)))] [] N1 K := fun z =>
      lg_X4_goesOn w ih hd R hr hp p0 hb hmet hma hf hP k (g + 1) N1 (by omega) hF hG (by
        show GB (if met.testBit g = true ∨ wB (cCh S a) f g = false then _ else _) N1
        rw [if_pos z]
        exact hB)
    have take : met.testBit g = false → wB (cCh S a) f g = true → EK d mX4_goesOn Post 122 [(0, .ref 40), (1, .int (nI p.length)), (2, .int (nI met)), (3, .int (has S a f)), (4, .int (nI f)), (5, .int (nI g))] [] N1 K := fun q1 q2 => by
      have hc0 := cnt_lt (p := met.testBit) hgn q1
      have hne : g ≠ a := fun e => by rw [e, hma] at q1; cases q1
      have R2 : RY S (sM N1 71 p.length (nI g)) := R1.scr (by omega)
      have hF2 : GF N (sM N1 71 p.length (nI g)) := hF.set (Or.inl rfl)
      have lp1 : (p ++ [g]).length = p.length + 1 := by rw [List.length_append]; rfl
      have hG2 : GP (p ++ [g]) (sM N1 71 p.length (nI g)) := fun j hj => by
        rw [sM_at]
        by_cases e3 : j = p.length
        · rw [if_pos ⟨rfl, e3⟩, e3, getD_last]
        · rw [if_neg (by omega), getD_app (by omega)]
          exact hG j (by omega)
      have hc := ih (by omega) (d - 1) g (met ||| 2 ^ g) (p ++ [g]) (gL (fun g b => if met.testBit g = true ∨ wB (cCh S a) f g = false then b else gOn (wB (cCh S a)) (s_n S) r g (met ||| 2 ^ g) (p ++ [g]) b) g b1) (sM N1 71 p.length (nI g)) K (by omega) R2 (by rw [cnt_or q1 hgn]; omega) (by omega) (by omega) (gL_le hr hp hb g (by omega)) ml (by rw [or_bit, hma]; simp) hgn (by rw [lp1]; exact getD_last p g) hG2 ⟨(sM_ne (Or.inl (by decide))).trans hB.1, fun j hj => (sM_ne (Or.inl (by decide))).trans (hB.2 j hj)⟩
      rw [lp1, show has S a g = s_po S g + nI (s_wo S g) from by unfold has; rw [if_neg hne], show r - 1 + 1 = r by omega] at hc
      have h50' : sM N1 71 p.length (nI g) 50 g = s_po S g := (sM_ne (Or.inl (by decide))).trans h50
      refine K_aload_n dX4_goesOn_122 rfl rfl ?_
      refine K_getR (r := 71) dX4_goesOn_123 fl_X4_75 rfl rfl rfl rfl ?_
      refine K_iload_n dX4_goesOn_126 rfl rfl ?_
      refine K_iload dX4_goesOn_127 rfl rfl ?_
      refine K_iast dX4_goesOn_129 (by first | rfl | exact sk_rk (by omega) | exact sk_hh (by omega)) (by first | omega | fail) (by decide) rfl ?_
      refine K_aload_n dX4_goesOn_130 rfl rfl ?_
      refine K_iload_n dX4_goesOn_131 rfl rfl ?_
      refine K_iconst (v := nI 1) dX4_goesOn_132 (by decide) rfl ?_
      refine K_addN dX4_goesOn_133 rfl ?_
      refine K_iload_n dX4_goesOn_134 rfl rfl ?_
      refine K_iconst (v := nI 1) dX4_goesOn_135 (by decide) rfl ?_
      refine K_iload dX4_goesOn_136 rfl rfl ?_
      first | refine K_shl1 dX4_goesOn_138 (by first | omega | fail) rfl ?_ | refine K_shlN dX4_goesOn_138 (by first | omega | fail) (by first | omega | fail) rfl ?_ | refine K_ishl dX4_goesOn_138 rfl ?_
      refine K_orN dX4_goesOn_139 rfl ?_
      refine K_aload_n dX4_goesOn_140 rfl rfl ?_
      refine K_getR (r := 50) dX4_goesOn_141 fl_X4_35 rfl rfl rfl rfl ?_
      refine K_iload dX4_goesOn_144 rfl rfl ?_
      refine K_iald dX4_goesOn_146 (by first | rfl | exact sk_rk (by omega) | exact sk_hh (by omega)) (by first | omega | fail) (by decide) (by first | assumption | rfl) rfl ?_
      refine K_aload_n dX4_goesOn_147 rfl rfl ?_
      refine K_iload dX4_goesOn_148 rfl rfl ?_
      refine K_cv (ci := 4) (d1 := d - 1) [_] dX4_goesOn_150 ml_X4_178 (by decide) rfl rfl rfl (Nat.le_of_ble_eq_true rfl) (c_X4_worth (by omega) R2 w hgn) (by omega) rfl ?_
      refine K_iadd dX4_goesOn_153 rfl ?_
      refine K_callV (ci := 4) (d1 := d - 1) [_, _, _] dX4_goesOn_154 ml_X4_238 (by decide) rfl rfl rfl (Nat.le_of_ble_eq_true rfl) hc (by omega) rfl ?_
      rintro res N3 K3 ⟨z1, z2, z3, z4, z5⟩
      subst z1
      subst z5
      first | refine K_incN (lv' := [(0, _), (1, _), (2, _), (3, _), (4, _), (5, _)]) dX4_goesOn_157 rfl (by decide) rfl rfl ?_ | refine K_iinc (lv' := [(0, _), (1, _), (2, _), (3, _), (4, _), (5, _)]) dX4_goesOn_157 rfl rfl (by decide) rfl rfl ?_
      refine K_goto (tgt := 55) dX4_goesOn_160 (by decide) ?_
      exact lg_X4_goesOn w ih hd R hr hp p0 hb hmet hma hf hP k (g + 1) N3 (by omega) (hF2.trans z2) (fun j hj => by rw [z3 j (by omega), getD_app hj]) (by
        show GB (if met.testBit g = true ∨ wB (cCh S a) f g = false then _ else _) N3
        rw [if_neg (by rw [q1, q2]; rintro (z | z) <;> cases z)]
        exact z4)
    refine K_iload dX4_goesOn_55 rfl rfl ?_
    refine K_aload_n dX4_goesOn_57 rfl rfl ?_
    refine K_getI dX4_goesOn_58 fl_X4_87 (by first | rfl | exact sk_rk (by omega) | exact sk_hh (by omega)) rfl (by first | assumption | rfl) rfl ?_
    refine K_icmp_geN (tgt := 163) dX4_goesOn_61 (by decide) rfl (by first | omega | fail) (by first | omega | fail) (fun c61 => ?_) (fun c61 => ?_)
    · omega
    · refine K_iload_n dX4_goesOn_64 rfl rfl ?_
      refine K_iload dX4_goesOn_65 rfl rfl ?_
      first | refine K_shrN dX4_goesOn_67 (by first | omega | fail) (by first | omega | fail) rfl ?_ | refine K_ishr dX4_goesOn_67 rfl ?_
      refine K_iconst (v := nI 1) dX4_goesOn_68 (by decide) rfl ?_
      first | refine K_bitN dX4_goesOn_69 rfl ?_ | refine K_andN dX4_goesOn_69 rfl ?_ | refine K_iand dX4_goesOn_69 rfl ?_
      refine K_iconst (v := nI 1) dX4_goesOn_70 (by decide) rfl ?_
      refine K_icmp_eqB1 (tgt := 157) dX4_goesOn_71 (by decide) rfl (fun c71 => ?_) (fun c71 => ?_)
      · first | refine K_incN (lv' := [(0, _), (1, _), (2, _), (3, _), (4, _), (5, _)]) dX4_goesOn_157 rfl (by decide) rfl rfl ?_ | refine K_iinc (lv' := [(0, _), (1, _), (2, _), (3, _), (4, _), (5, _)]) dX4_goesOn_157 rfl rfl (by decide) rfl rfl ?_
        refine K_goto (tgt := 55) dX4_goesOn_160 (by decide) ?_
        first | (refine skip (Or.inl c71); done) | (refine skip (Or.inr ?_); rw [hw, cCq, show (s_pl S g).isNone = false from by rw [Option.isNone_eq_false_iff]; exact c80]; simp; done) | (refine skip (Or.inr ?_); rw [hw, cCq, show (s_gu S g).isNone = false from Option.isNone_eq_false_iff.mpr (Option.isSome_iff_ne_none.mpr c89)]; simp; done) | (refine skip (Or.inr ?_); rw [hw, c100]; simp; done) | (refine skip (Or.inr ?_); rw [hw, cOk_has, decide_eq_true c116]; simp; done) | (refine skip (Or.inr ?_); rw [hw, cOk_has, decide_eq_true (Int32.not_le.mp c116)]; simp; done)
      · refine K_aload_n dX4_goesOn_74 rfl rfl ?_
        refine K_iload dX4_goesOn_75 rfl rfl ?_
        refine K_cv (ci := 4) (d1 := d - 1) [_] dX4_goesOn_77 ml_X4_145 (by decide) rfl rfl rfl (Nat.le_of_ble_eq_true rfl) (c_X4_goesAtAll R1 w hgn) (by omega) rfl ?_
        refine K_if_neB (tgt := 157) dX4_goesOn_80 (by decide) rfl (fun c80 => ?_) (fun c80 => ?_)
        · first | refine K_incN (lv' := [(0, _), (1, _), (2, _), (3, _), (4, _), (5, _)]) dX4_goesOn_157 rfl (by decide) rfl rfl ?_ | refine K_iinc (lv' := [(0, _), (1, _), (2, _), (3, _), (4, _), (5, _)]) dX4_goesOn_157 rfl rfl (by decide) rfl rfl ?_
          refine K_goto (tgt := 55) dX4_goesOn_160 (by decide) ?_
          first | (refine skip (Or.inl c71); done) | (refine skip (Or.inr ?_); rw [hw, cCq, show (s_pl S g).isNone = false from by rw [Option.isNone_eq_false_iff]; exact c80]; simp; done) | (refine skip (Or.inr ?_); rw [hw, cCq, show (s_gu S g).isNone = false from Option.isNone_eq_false_iff.mpr (Option.isSome_iff_ne_none.mpr c89)]; simp; done) | (refine skip (Or.inr ?_); rw [hw, c100]; simp; done) | (refine skip (Or.inr ?_); rw [hw, cOk_has, decide_eq_true c116]; simp; done) | (refine skip (Or.inr ?_); rw [hw, cOk_has, decide_eq_true (Int32.not_le.mp c116)]; simp; done)
        · refine K_aload_n dX4_goesOn_83 rfl rfl ?_
          refine K_iload dX4_goesOn_84 rfl rfl ?_
          refine K_cv (ci := 4) (d1 := d - 1) [_] dX4_goesOn_86 ml_X4_151 (by decide) rfl rfl rfl (Nat.le_of_ble_eq_true rfl) (c_X4_guest R1 w (by omega)) (by omega) rfl ?_
          refine K_if_geO (tgt := 157) dX4_goesOn_89 (by decide) rfl (by first | assumption | fail) (fun c89 => ?_) (fun c89 => ?_)
          · first | refine K_incN (lv' := [(0, _), (1, _), (2, _), (3, _), (4, _), (5, _)]) dX4_goesOn_157 rfl (by decide) rfl rfl ?_ | refine K_iinc (lv' := [(0, _), (1, _), (2, _), (3, _), (4, _), (5, _)]) dX4_goesOn_157 rfl rfl (by decide) rfl rfl ?_
            refine K_goto (tgt := 55) dX4_goesOn_160 (by decide) ?_
            first | (refine skip (Or.inl c71); done) | (refine skip (Or.inr ?_); rw [hw, cCq, show (s_pl S g).isNone = false from by rw [Option.isNone_eq_false_iff]; exact c80]; simp; done) | (refine skip (Or.inr ?_); rw [hw, cCq, show (s_gu S g).isNone = false from Option.isNone_eq_false_iff.mpr (Option.isSome_iff_ne_none.mpr c89)]; simp; done) | (refine skip (Or.inr ?_); rw [hw, c100]; simp; done) | (refine skip (Or.inr ?_); rw [hw, cOk_has, decide_eq_true c116]; simp; done) | (refine skip (Or.inr ?_); rw [hw, cOk_has, decide_eq_true (Int32.not_le.mp c116)]; simp; done)
          · refine K_aload_n dX4_goesOn_92 rfl rfl ?_
            refine K_iload dX4_goesOn_93 rfl rfl ?_
            refine K_iload dX4_goesOn_95 rfl rfl ?_
            refine K_cv (ci := 4) (d1 := d - 1) [_, _] dX4_goesOn_97 ml_X4_148 (by decide) rfl rfl rfl (Nat.le_of_ble_eq_true rfl) (c_X4_takes (by omega) R1 w hf hgn) (by omega) rfl ?_
            refine K_if_eqB (tgt := 157) dX4_goesOn_100 (by decide) rfl (fun c100 => ?_) (fun c100 => ?_)
            · first | refine K_incN (lv' := [(0, _), (1, _), (2, _), (3, _), (4, _), (5, _)]) dX4_goesOn_157 rfl (by decide) rfl rfl ?_ | refine K_iinc (lv' := [(0, _), (1, _), (2, _), (3, _), (4, _), (5, _)]) dX4_goesOn_157 rfl rfl (by decide) rfl rfl ?_
              refine K_goto (tgt := 55) dX4_goesOn_160 (by decide) ?_
              first | (refine skip (Or.inl c71); done) | (refine skip (Or.inr ?_); rw [hw, cCq, show (s_pl S g).isNone = false from by rw [Option.isNone_eq_false_iff]; exact c80]; simp; done) | (refine skip (Or.inr ?_); rw [hw, cCq, show (s_gu S g).isNone = false from Option.isNone_eq_false_iff.mpr (Option.isSome_iff_ne_none.mpr c89)]; simp; done) | (refine skip (Or.inr ?_); rw [hw, c100]; simp; done) | (refine skip (Or.inr ?_); rw [hw, cOk_has, decide_eq_true c116]; simp; done) | (refine skip (Or.inr ?_); rw [hw, cOk_has, decide_eq_true (Int32.not_le.mp c116)]; simp; done)
            · refine K_iload_n dX4_goesOn_103 rfl rfl ?_
              refine K_aload_n dX4_goesOn_104 rfl rfl ?_
              refine K_iload dX4_goesOn_105 rfl rfl ?_
              refine K_cv (ci := 4) (d1 := d - 1) [_] dX4_goesOn_107 ml_X4_178 (by decide) rfl rfl rfl (Nat.le_of_ble_eq_true rfl) (c_X4_worth (by omega) R1 w hgn) (by omega) rfl ?_
              refine K_isub dX4_goesOn_110 rfl ?_
              refine K_aload_n dX4_goesOn_111 rfl rfl ?_
              refine K_getI dX4_goesOn_112 fl_X4_121 (by first | rfl | exact sk_rk (by omega) | exact sk_hh (by omega)) rfl (by first | assumption | rfl) rfl ?_
              refine K_ineg dX4_goesOn_115 rfl ?_
              refine K_icmp_ge (tgt := 122) dX4_goesOn_116 (by decide) rfl (fun c116 => ?_) (fun c116 => ?_)
              · refine take (by simpa using c71) ?_
                rw [hw, c100, cOk_has, decide_eq_false (Int32.not_lt.mpr c116), cCq, decide_eq_true (show g ≠ a from fun e => by rw [e, hma] at c71; cases c71), c89, show (s_pl S g).isNone = true from by rw [Option.isNone_iff_eq_none]; cases hh : s_pl S g with | none => rfl | some y => rw [go_t (by rw [hh]; exact fun h => by cases h)] at c80; cases c80]
                rfl
              · refine K_goto (tgt := 157) dX4_goesOn_119 (by decide) ?_
                first | refine K_incN (lv' := [(0, _), (1, _), (2, _), (3, _), (4, _), (5, _)]) dX4_goesOn_157 rfl (by decide) rfl rfl ?_ | refine K_iinc (lv' := [(0, _), (1, _), (2, _), (3, _), (4, _), (5, _)]) dX4_goesOn_157 rfl rfl (by decide) rfl rfl ?_
                refine K_goto (tgt := 55) dX4_goesOn_160 (by decide) ?_
                first | (refine skip (Or.inl c71); done) | (refine skip (Or.inr ?_); rw [hw, cCq, show (s_pl S g).isNone = false from by rw [Option.isNone_eq_false_iff]; exact c80]; simp; done) | (refine skip (Or.inr ?_); rw [hw, cCq, show (s_gu S g).isNone = false from Option.isNone_eq_false_iff.mpr (Option.isSome_iff_ne_none.mpr c89)]; simp; done) | (refine skip (Or.inr ?_); rw [hw, c100]; simp; done) | (refine skip (Or.inr ?_); rw [hw, cOk_has, decide_eq_true c116]; simp; done) | (refine skip (Or.inr ?_); rw [hw, cOk_has, decide_eq_true (Int32.not_le.mp c116)]; simp; done)
theorem lc_X4_goesOn {d : Nat} {S : GS} {p : List Nat} {N : Mem} {K : Mej} {Post : PK} {x y : Int32} (hp : p.length ≤ 10) (hN : N 40 32 = nI p.length) (hG : GP p N)
    (next : ∀ N1, (∀ r, r ≠ 73 → N1 r = N r) → GB p N1 → EK d mX4_goesOn Post 42 [(0, .ref 40), (1, .int (nI p.length)), (2, .int x), (3, .int y)] [] N1 K) :
    ∀ (k i : Nat) (N1 : Mem), i + k = p.length → (∀ r, r ≠ 73 → N1 r = N r) → (∀ j, j < i → N1 73 j = nI (p.getD j 0)) → EK d mX4_goesOn Post 16 [(0, .ref 40), (1, .int (nI p.length)), (2, .int x), (3, .int y), (4, .int (nI i))] [] N1 K
  | 0, i, N1, e, hF, hC => by
    have hi : i = p.length := by omega
    subst hi
    refine K_iload dX4_goesOn_16 rfl rfl ?_
    refine K_iload_n dX4_goesOn_18 rfl rfl ?_
    refine K_icmp_geN (tgt := 42) dX4_goesOn_19 (by decide) rfl (by first | omega | fail) (by first | omega | fail) (fun c19 => ?_) (fun c19 => ?_)
    · refine K_pick [0, 1, 2, 3] rfl ?_
      exact next N1 hF ⟨by rw [hF 40 (by decide)]; exact hN, hC⟩
    · omega
  | k + 1, i, N1, e, hF, hC => by
    have h71 : N1 71 i = nI (p.getD i 0) := by rw [hF 71 (by decide)]; exact hG i (by omega)
    have ih := lc_X4_goesOn (S := S) hp hN hG next k (i + 1) (sM N1 73 i (nI (p.getD i 0))) (by omega) (fun r hr => (sM_row hr).trans (hF r hr)) (fun j hj => by
      rw [sM_at]
      by_cases e3 : j = i
      · rw [if_pos ⟨rfl, e3⟩, e3]
      · rw [if_neg (by omega)]
        exact hC j (by omega))
    refine K_iload dX4_goesOn_16 rfl rfl ?_
    refine K_iload_n dX4_goesOn_18 rfl rfl ?_
    refine K_icmp_geN (tgt := 42) dX4_goesOn_19 (by decide) rfl (by first | omega | fail) (by first | omega | fail) (fun c19 => ?_) (fun c19 => ?_)
    · omega
    · refine K_aload_n dX4_goesOn_22 rfl rfl ?_
      refine K_getR (r := 73) dX4_goesOn_23 fl_X4_78 rfl rfl rfl rfl ?_
      refine K_iload dX4_goesOn_26 rfl rfl ?_
      refine K_aload_n dX4_goesOn_28 rfl rfl ?_
      refine K_getR (r := 71) dX4_goesOn_29 fl_X4_75 rfl rfl rfl rfl ?_
      refine K_iload dX4_goesOn_32 rfl rfl ?_
      refine K_iald dX4_goesOn_34 (by first | rfl | exact sk_rk (by omega) | exact sk_hh (by omega)) (by first | omega | fail) (by decide) (by first | assumption | rfl) rfl ?_
      refine K_iast dX4_goesOn_35 (by first | rfl | exact sk_rk (by omega) | exact sk_hh (by omega)) (by first | omega | fail) (by decide) rfl ?_
      first | refine K_incN (lv' := [(0, _), (1, _), (2, _), (3, _), (4, _)]) dX4_goesOn_36 rfl (by decide) rfl rfl ?_ | refine K_iinc (lv' := [(0, _), (1, _), (2, _), (3, _), (4, _)]) dX4_goesOn_36 rfl rfl (by decide) rfl rfl ?_
      refine K_goto (tgt := 16) dX4_goesOn_39 (by decide) ?_
      exact ih
set_option maxRecDepth 100000 in
theorem c_X4_goesOn {S : GS} (w : WF S) {a : Nat} : ∀ r, GoC S a r
  | r, d, f, met, p, b, N, K, hd, R, hr, hp, p0, hb, hmet, hma, hf, hl, hG, hB => by
    have hn := w.1.1
    have h32 := hB.1
    have hb1 : (if b.length < p.length then p else b).length ≤ s_n S := by split <;> omega
    have ih : 0 < r → GoC S a (r - 1) := fun h => c_X4_goesOn w (r - 1)
    have h42 : ∀ N1, GF N N1 → GP p N1 → GB (if b.length < p.length then p else b) N1 → EK d mX4_goesOn (fun res N1 K1 => res = none ∧ GF N N1 ∧ GP p N1 ∧ GB (gOn (wB (cCh S a)) (s_n S) (r + 1) f met p b) N1 ∧ K1 = K) 42 [(0, .ref 40), (1, .int (nI p.length)), (2, .int (nI met)), (3, .int (has S a f))] [] N1 K := fun N1 y1 y2 y3 => by
      have h71 : N1 71 (p.length - 1) = nI f := by rw [y2 _ (by omega), hl]
      refine K_aload_n dX4_goesOn_42 rfl rfl ?_
      refine K_getR (r := 71) dX4_goesOn_43 fl_X4_75 rfl rfl rfl rfl ?_
      refine K_iload_n dX4_goesOn_46 rfl rfl ?_
      refine K_iconst (v := nI 1) dX4_goesOn_47 (by decide) rfl ?_
      refine K_subN dX4_goesOn_48 (by first | omega | fail) rfl ?_
      refine K_iald dX4_goesOn_49 (by first | rfl | exact sk_rk (by omega) | exact sk_hh (by omega)) (by first | omega | fail) (by decide) (by first | assumption | rfl) rfl ?_
      refine K_istore (lv' := [(0, _), (1, _), (2, _), (3, _), (4, _)]) dX4_goesOn_50 (by decide) rfl rfl ?_
      refine K_iconst (v := nI 0) dX4_goesOn_52 (by decide) rfl ?_
      refine K_istore (lv' := [(0, _), (1, _), (2, _), (3, _), (4, _), (5, _)]) dX4_goesOn_53 (by decide) rfl rfl ?_
      exact lg_X4_goesOn w ih hd R hr hp p0 hb1 hmet hma hf (fun N2 x1 x2 x3 => ⟨rfl, x1, x2, x3, rfl⟩) (s_n S) 0 N1 (by omega) y1 y2 y3
    refine CK.start [(0, _), (1, _), (2, _), (3, _)] (plainFor_of_name (by decide)) (Nat.le_of_ble_eq_true rfl) rfl ?_
    refine K_iload_n dX4_goesOn_0 rfl rfl ?_
    refine K_aload_n dX4_goesOn_1 rfl rfl ?_
    refine K_getI dX4_goesOn_2 fl_X4_235 (by first | rfl | exact sk_rk (by omega) | exact sk_hh (by omega)) rfl (by first | assumption | rfl) rfl ?_
    refine K_icmp_leN (tgt := 42) dX4_goesOn_5 (by decide) rfl (by first | omega | fail) (by first | omega | fail) (fun c5 => ?_) (fun c5 => ?_)
    · refine h42 N (GF.rf N) hG ?_
      rw [if_neg (by omega)]
      exact hB
    · refine K_aload_n dX4_goesOn_8 rfl rfl ?_
      refine K_iload_n dX4_goesOn_9 rfl rfl ?_
      refine K_putI dX4_goesOn_10 fl_X4_235 (by first | rfl | exact sk_rk (by omega) | exact sk_hh (by omega)) rfl rfl rfl rfl ?_
      refine K_iconst (v := nI 0) dX4_goesOn_13 (by decide) rfl ?_
      refine K_istore (lv' := [(0, _), (1, _), (2, _), (3, _), (4, _)]) dX4_goesOn_14 (by decide) rfl rfl ?_
      refine lc_X4_goesOn (S := S) (N := sM N 40 32 (nI p.length)) (p := p) (by omega) (sM_eq _ _ _ _) (fun j hj => (sM_ne (Or.inl (by decide))).trans (hG j hj)) (fun N1 y1 y2 => h42 N1 ?_ ?_ ?_) p.length 0 _ (by omega) (fun _ _ => rfl) (fun j hj => absurd hj (Nat.not_lt_zero j))
      · exact ⟨fun i h1 h2 h3 => (y1 i h3).trans (sM_row h1), fun j hj => (congrFun (y1 40 (by decide)) j).trans (sM_ne (Or.inr hj))⟩
      · exact fun j hj => by rw [y1 71 (by decide)]; exact (sM_ne (Or.inl (by decide))).trans (hG j hj)
      · rw [if_pos (by omega)]; exact y2
  termination_by r => r
