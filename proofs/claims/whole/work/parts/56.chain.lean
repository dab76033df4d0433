/-! the class's addChainWaysTo and chain -/
def cOk (S : GS) (a f g : Nat) : Bool := !decide (s_po S f + (if f = a then nI 0 else nI (s_wo S f)) - nI (s_wo S g) < -(nI (s_li S)))
def cCq (S : GS) (a g : Nat) : Bool := decide (g ≠ a) && ((s_pl S g).isNone && (s_gu S g).isNone)
def cCp (S : GS) (a f g : Nat) : Bool := decide (f < s_n S) && (cCq S a g && (s_tk S f g && cOk S a f g))
def cCh (S : GS) (a f : Nat) : Nat := bs (cCp S a f) (s_n S)
theorem cCh_bit (S : GS) (a f g : Nat) : (cCh S a f).testBit g = (decide (g < s_n S) && cCp S a f g) := bs_bit _ _ _
def MC (S : GS) (N0 N1 : Mem) (K : Mej) (a g : Nat) : Prop := RX S N1 K ∧ FX N0 N1 ∧ N1 7 3 = nI (s_n S) ∧ ∀ f, f < 10 → N1 8 f = nI (bs (cCp S a f) g)
theorem l_X3_addChainWaysTo {d : Nat} (hd : 4 ≤ d) {S : GS} {N0 : Mem} {K : Mej} {Post : PK} (w : WF S) {g a : Nat} (hg : g < s_n S) (ha : a < s_n S) (hq : cCq S a g = true) (hP : ∀ N1, MC S N0 N1 K a (g + 1) → Post none N1 K) :
    ∀ (k f : Nat) (N1 : Mem), f + k = s_n S → RX S N1 K → FX N0 N1 → N1 7 3 = nI (s_n S) → (∀ j, j < f → N1 8 j = nI (bs (cCp S a j) (g + 1))) → (∀ j, f ≤ j → j < 10 → N1 8 j = nI (bs (cCp S a j) g)) →
    EK d mX3_addChainWaysTo Post 13 [(0, .ref 0), (1, .int (nI g)), (2, .int (nI a)), (3, .int (nI (s_wo S g))), (4, .int (nI f))] [] N1 K
  | 0, f, N1, e, R, F, a3, a4, a5 => by
    have hn := w.1.1
    have h7 := R.1.1
    have hf : f = s_n S := by omega
    subst hf
    refine K_iload dX3_addChainWaysTo_13 rfl rfl ?_
    refine K_aload_n dX3_addChainWaysTo_15 rfl rfl ?_
    refine K_getI dX3_addChainWaysTo_16 fl_X3_42 (by first | rfl | exact sk_rk (by omega) | exact sk_hh (by omega)) rfl (by first | assumption | rfl) rfl ?_
    refine K_icmp_geN (tgt := 93) dX3_addChainWaysTo_19 (by decide) rfl (by first | omega | fail) (by first | omega | fail) (fun c19 => ?_) (fun c19 => ?_)
    · refine K_ret dX3_addChainWaysTo_93 rfl ?_
      refine hP N1 ⟨R, F, a3, fun j hj => ?_⟩
      rcases Nat.lt_or_ge j (s_n S) with h | h
      · exact a4 j h
      · rw [bs_f (by rw [cCp, decide_eq_false (show ¬ j < s_n S by omega)]; rfl)]
        exact a5 j h hj
    · omega
  | k + 1, f, N1, e, R, F, a3, a4, a5 => by
    have hn := w.1.1
    have h7 := R.1.1
    have h12 := R.1.2.2.2.2.2.1
    obtain ⟨b1, b2, b3, b4, b5, b6, b7, b8, b9, b10, b11, b12⟩ := R.2.1 f (by omega)
    have wf2 := w.2.1 f (by omega)
    have lt := bs_10 (p := cCp S a f) (n := g) (by omega)
    have hwo : CK (d - 1) mX0_worth [.ref (20 + f)] N1 K (PX (some (.int (nI (s_wo S f)))) N1 K) := c_X0_worth (by omega) (by omega) b2 b3 wf2.1 wf2.2.1.1
    have htk := c_X3_takes (d := d - 1) (by omega) R w (show f < s_n S by omega) hg
    have a5f := a5 f (Nat.le_refl f) (by omega)
    have skip : cCp S a f g = false → EK d mX3_addChainWaysTo Post 13 [(0, .ref 0), (1, .int (nI g)), (2, .int (nI a)), (3, .int (nI (s_wo S g))), (4, .int (nI (f + 1)))] [] N1 K := fun z =>
      l_X3_addChainWaysTo hd w hg ha hq hP k (f + 1) N1 (by omega) R F a3 (fun j hj => by
        rcases Nat.lt_succ_iff_lt_or_eq.mp hj with hj | rfl
        · exact a4 j hj
        · rw [bs_f z]; exact a5f) (fun j h1 h2 => a5 j (by omega) h2)
    have take : cCp S a f g = true → EK d mX3_addChainWaysTo Post 13 [(0, .ref 0), (1, .int (nI g)), (2, .int (nI a)), (3, .int (nI (s_wo S g))), (4, .int (nI (f + 1)))] [] (sM N1 8 f (nI (bs (cCp S a f) g ||| 2 ^ g))) K := fun z =>
      l_X3_addChainWaysTo hd w hg ha hq hP k (f + 1) _ (by omega) (R.scr (by omega)) (F.set (by omega)) ((sM_ne (Or.inl (by decide))).trans a3) (fun j hj => by
        rcases Nat.lt_succ_iff_lt_or_eq.mp hj with hj | rfl
        · exact (sM_ne (Or.inr (by omega))).trans (a4 j hj)
        · rw [bs_t z]; exact sM_eq _ _ _ _) (fun j h1 h2 => (sM_ne (Or.inr (by omega))).trans (a5 j (by omega) h2))
    by_cases hfa : f = a
    · have hok : cOk S a f g = !decide (s_po S f + nI 0 - nI (s_wo S g) < -(nI (s_li S))) := by unfold cOk; rw [if_pos hfa]
      have hp : cCp S a f g = (s_tk S f g && !decide (s_po S f + nI 0 - nI (s_wo S g) < -(nI (s_li S)))) := by unfold cCp; rw [hq, hok, decide_eq_true (show f < s_n S by omega)]; rfl
      refine K_iload dX3_addChainWaysTo_13 rfl rfl ?_
      refine K_aload_n dX3_addChainWaysTo_15 rfl rfl ?_
      refine K_getI dX3_addChainWaysTo_16 fl_X3_42 (by first | rfl | exact sk_rk (by omega) | exact sk_hh (by omega)) rfl (by first | assumption | rfl) rfl ?_
      refine K_icmp_geN (tgt := 93) dX3_addChainWaysTo_19 (by decide) rfl (by first | omega | fail) (by first | omega | fail) (fun c19 => ?_) (fun c19 => ?_)
      · omega
      · refine K_iload dX3_addChainWaysTo_22 rfl rfl ?_
        refine K_iload_n dX3_addChainWaysTo_24 rfl rfl ?_
        refine K_icmp_neN (tgt := 32) dX3_addChainWaysTo_25 (by decide) rfl (by first | omega | fail) (by first | omega | fail) (fun c25 => ?_) (fun c25 => ?_)
        · exact absurd hfa c25
        · refine K_iconst (v := nI 0) dX3_addChainWaysTo_28 (by decide) rfl ?_
          refine K_goto (tgt := 42) dX3_addChainWaysTo_29 (by decide) ?_
          refine K_istore (lv' := [(0, _), (1, _), (2, _), (3, _), (4, _), (5, _)]) dX3_addChainWaysTo_42 (by decide) rfl rfl ?_
          refine K_aload_n dX3_addChainWaysTo_44 rfl rfl ?_
          refine K_iload dX3_addChainWaysTo_45 rfl rfl ?_
          refine K_iload_n dX3_addChainWaysTo_47 rfl rfl ?_
          refine K_cv (ci := 3) (d1 := d - 1) [_, _] dX3_addChainWaysTo_48 ml_X3_188 (by decide) rfl rfl rfl (Nat.le_of_ble_eq_true rfl) htk (by omega) rfl ?_
          refine K_if_eqB (tgt := 87) dX3_addChainWaysTo_51 (by decide) rfl (fun c51 => ?_) (fun c51 => ?_)
          · first | refine K_incN (lv' := [(0, _), (1, _), (2, _), (3, _), (4, _), (5, _)]) dX3_addChainWaysTo_87 rfl (by decide) rfl rfl ?_ | refine K_iinc (lv' := [(0, _), (1, _), (2, _), (3, _), (4, _), (5, _)]) dX3_addChainWaysTo_87 rfl rfl (by decide) rfl rfl ?_
            refine K_goto (tgt := 13) dX3_addChainWaysTo_90 (by decide) ?_
            refine K_pick [0, 1, 2, 3, 4] rfl ?_
            first | (refine skip ?_; rw [hp, c51]; rfl) | (refine skip ?_; rw [hp, decide_eq_true c74]; simp; done) | (refine take ?_; rw [hp, c51, decide_eq_false c74]; rfl)
          · refine K_aload_n dX3_addChainWaysTo_54 rfl rfl ?_
            refine K_getR (r := 1) dX3_addChainWaysTo_55 fl_X3_11 rfl rfl rfl rfl ?_
            refine K_iload dX3_addChainWaysTo_58 rfl rfl ?_
            refine K_hh dX3_addChainWaysTo_60 (by first | omega | fail) rfl ?_
            refine K_getI dX3_addChainWaysTo_61 fl_X3_143 (by first | rfl | exact sk_rk (by omega) | exact sk_hh (by omega)) rfl (by first | assumption | rfl) rfl ?_
            refine K_iload dX3_addChainWaysTo_64 rfl rfl ?_
            refine K_iadd dX3_addChainWaysTo_66 rfl ?_
            refine K_iload_n dX3_addChainWaysTo_67 rfl rfl ?_
            refine K_isub dX3_addChainWaysTo_68 rfl ?_
            refine K_aload_n dX3_addChainWaysTo_69 rfl rfl ?_
            refine K_getI dX3_addChainWaysTo_70 fl_X3_58 (by first | rfl | exact sk_rk (by omega) | exact sk_hh (by omega)) rfl (by first | assumption | rfl) rfl ?_
            refine K_ineg dX3_addChainWaysTo_73 rfl ?_
            refine K_icmp_lt (tgt := 87) dX3_addChainWaysTo_74 (by decide) rfl (fun c74 => ?_) (fun c74 => ?_)
            · first | refine K_incN (lv' := [(0, _), (1, _), (2, _), (3, _), (4, _), (5, _)]) dX3_addChainWaysTo_87 rfl (by decide) rfl rfl ?_ | refine K_iinc (lv' := [(0, _), (1, _), (2, _), (3, _), (4, _), (5, _)]) dX3_addChainWaysTo_87 rfl rfl (by decide) rfl rfl ?_
              refine K_goto (tgt := 13) dX3_addChainWaysTo_90 (by decide) ?_
              refine K_pick [0, 1, 2, 3, 4] rfl ?_
              first | (refine skip ?_; rw [hp, c51]; rfl) | (refine skip ?_; rw [hp, decide_eq_true c74]; simp; done) | (refine take ?_; rw [hp, c51, decide_eq_false c74]; rfl)
            · refine K_aload_n dX3_addChainWaysTo_77 rfl rfl ?_
              refine K_getR (r := 7) dX3_addChainWaysTo_78 fl_X3_38 rfl rfl rfl rfl ?_
              refine K_iload dX3_addChainWaysTo_81 rfl rfl ?_
              refine K_iload_n dX3_addChainWaysTo_83 rfl rfl ?_
              refine K_c0 (ci := 2) (d1 := d - 1) [_, _] dX3_addChainWaysTo_84 ml_X3_194 (by decide) rfl rfl rfl (Nat.le_of_ble_eq_true rfl) (c_X2_add (by omega) (by omega) a5f) (by omega) rfl ?_
              first | refine K_incN (lv' := [(0, _), (1, _), (2, _), (3, _), (4, _), (5, _)]) dX3_addChainWaysTo_87 rfl (by decide) rfl rfl ?_ | refine K_iinc (lv' := [(0, _), (1, _), (2, _), (3, _), (4, _), (5, _)]) dX3_addChainWaysTo_87 rfl rfl (by decide) rfl rfl ?_
              refine K_goto (tgt := 13) dX3_addChainWaysTo_90 (by decide) ?_
              refine K_pick [0, 1, 2, 3, 4] rfl ?_
              first | (refine skip ?_; rw [hp, c51]; rfl) | (refine skip ?_; rw [hp, decide_eq_true c74]; simp; done) | (refine take ?_; rw [hp, c51, decide_eq_false c74]; rfl)
    · have hok : cOk S a f g = !decide (s_po S f + nI (s_wo S f) - nI (s_wo S g) < -(nI (s_li S))) := by unfold cOk; rw [if_neg hfa]
      have hp : cCp S a f g = (s_tk S f g && !decide (s_po S f + nI (s_wo S f) - nI (s_wo S g) < -(nI (s_li S)))) := by unfold cCp; rw [hq, hok, decide_eq_true (show f < s_n S by omega)]; rfl
      refine K_iload dX3_addChainWaysTo_13 rfl rfl ?_
      refine K_aload_n dX3_addChainWaysTo_15 rfl rfl ?_
      refine K_getI dX3_addChainWaysTo_16 fl_X3_42 (by first | rfl | exact sk_rk (by omega) | exact sk_hh (by omega)) rfl (by first | assumption | rfl) rfl ?_
      refine K_icmp_geN (tgt := 93) dX3_addChainWaysTo_19 (by decide) rfl (by first | omega | fail) (by first | omega | fail) (fun c19 => ?_) (fun c19 => ?_)
      · omega
      · refine K_iload dX3_addChainWaysTo_22 rfl rfl ?_
        refine K_iload_n dX3_addChainWaysTo_24 rfl rfl ?_
        refine K_icmp_neN (tgt := 32) dX3_addChainWaysTo_25 (by decide) rfl (by first | omega | fail) (by first | omega | fail) (fun c25 => ?_) (fun c25 => ?_)
        · refine K_aload_n dX3_addChainWaysTo_32 rfl rfl ?_
          refine K_getR (r := 1) dX3_addChainWaysTo_33 fl_X3_11 rfl rfl rfl rfl ?_
          refine K_iload dX3_addChainWaysTo_36 rfl rfl ?_
          refine K_hh dX3_addChainWaysTo_38 (by first | omega | fail) rfl ?_
          refine K_cv (ci := 0) (d1 := d - 1) [] dX3_addChainWaysTo_39 ml_X3_140 (by decide) (sk_hh (by omega)) rfl rfl (Nat.le_of_ble_eq_true rfl) hwo (by omega) rfl ?_
          refine K_istore (lv' := [(0, _), (1, _), (2, _), (3, _), (4, _), (5, _)]) dX3_addChainWaysTo_42 (by decide) rfl rfl ?_
          refine K_aload_n dX3_addChainWaysTo_44 rfl rfl ?_
          refine K_iload dX3_addChainWaysTo_45 rfl rfl ?_
          refine K_iload_n dX3_addChainWaysTo_47 rfl rfl ?_
          refine K_cv (ci := 3) (d1 := d - 1) [_, _] dX3_addChainWaysTo_48 ml_X3_188 (by decide) rfl rfl rfl (Nat.le_of_ble_eq_true rfl) htk (by omega) rfl ?_
          refine K_if_eqB (tgt := 87) dX3_addChainWaysTo_51 (by decide) rfl (fun c51 => ?_) (fun c51 => ?_)
          · first | refine K_incN (lv' := [(0, _), (1, _), (2, _), (3, _), (4, _), (5, _)]) dX3_addChainWaysTo_87 rfl (by decide) rfl rfl ?_ | refine K_iinc (lv' := [(0, _), (1, _), (2, _), (3, _), (4, _), (5, _)]) dX3_addChainWaysTo_87 rfl rfl (by decide) rfl rfl ?_
            refine K_goto (tgt := 13) dX3_addChainWaysTo_90 (by decide) ?_
            refine K_pick [0, 1, 2, 3, 4] rfl ?_
            first | (refine skip ?_; rw [hp, c51]; rfl) | (refine skip ?_; rw [hp, decide_eq_true c74]; simp; done) | (refine take ?_; rw [hp, c51, decide_eq_false c74]; rfl)
          · refine K_aload_n dX3_addChainWaysTo_54 rfl rfl ?_
            refine K_getR (r := 1) dX3_addChainWaysTo_55 fl_X3_11 rfl rfl rfl rfl ?_
            refine K_iload dX3_addChainWaysTo_58 rfl rfl ?_
            refine K_hh dX3_addChainWaysTo_60 (by first | omega | fail) rfl ?_
            refine K_getI dX3_addChainWaysTo_61 fl_X3_143 (by first | rfl | exact sk_rk (by omega) | exact sk_hh (by omega)) rfl (by first | assumption | rfl) rfl ?_
            refine K_iload dX3_addChainWaysTo_64 rfl rfl ?_
            refine K_iadd dX3_addChainWaysTo_66 rfl ?_
            refine K_iload_n dX3_addChainWaysTo_67 rfl rfl ?_
            refine K_isub dX3_addChainWaysTo_68 rfl ?_
            refine K_aload_n dX3_addChainWaysTo_69 rfl rfl ?_
            refine K_getI dX3_addChainWaysTo_70 fl_X3_58 (by first | rfl | exact sk_rk (by omega) | exact sk_hh (by omega)) rfl (by first | assumption | rfl) rfl ?_
            refine K_ineg dX3_addChainWaysTo_73 rfl ?_
            refine K_icmp_lt (tgt := 87) dX3_addChainWaysTo_74 (by decide) rfl (fun c74 => ?_) (fun c74 => ?_)
            · first | refine K_incN (lv' := [(0, _), (1, _), (2, _), (3, _), (4, _), (5, _)]) dX3_addChainWaysTo_87 rfl (by decide) rfl rfl ?_ | refine K_iinc (lv' := [(0, _), (1, _), (2, _), (3, _), (4, _), (5, _)]) dX3_addChainWaysTo_87 rfl rfl (by decide) rfl rfl ?_
              refine K_goto (tgt := 13) dX3_addChainWaysTo_90 (by decide) ?_
              refine K_pick [0, 1, 2, 3, 4] rfl ?_
              first | (refine skip ?_; rw [hp, c51]; rfl) | (refine skip ?_; rw [hp, decide_eq_true c74]; simp; done) | (refine take ?_; rw [hp, c51, decide_eq_false c74]; rfl)
            · refine K_aload_n dX3_addChainWaysTo_77 rfl rfl ?_
              refine K_getR (r := 7) dX3_addChainWaysTo_78 fl_X3_38 rfl rfl rfl rfl ?_
              refine K_iload dX3_addChainWaysTo_81 rfl rfl ?_
              refine K_iload_n dX3_addChainWaysTo_83 rfl rfl ?_
              refine K_c0 (ci := 2) (d1 := d - 1) [_, _] dX3_addChainWaysTo_84 ml_X3_194 (by decide) rfl rfl rfl (Nat.le_of_ble_eq_true rfl) (c_X2_add (by omega) (by omega) a5f) (by omega) rfl ?_
              first | refine K_incN (lv' := [(0, _), (1, _), (2, _), (3, _), (4, _), (5, _)]) dX3_addChainWaysTo_87 rfl (by decide) rfl rfl ?_ | refine K_iinc (lv' := [(0, _), (1, _), (2, _), (3, _), (4, _), (5, _)]) dX3_addChainWaysTo_87 rfl rfl (by decide) rfl rfl ?_
              refine K_goto (tgt := 13) dX3_addChainWaysTo_90 (by decide) ?_
              refine K_pick [0, 1, 2, 3, 4] rfl ?_
              first | (refine skip ?_; rw [hp, c51]; rfl) | (refine skip ?_; rw [hp, decide_eq_true c74]; simp; done) | (refine take ?_; rw [hp, c51, decide_eq_false c74]; rfl)
        · exact absurd c25 hfa
set_option maxRecDepth 100000 in
theorem c_X3_addChainWaysTo {d : Nat} (hd : 4 ≤ d) {S : GS} {N0 N : Mem} {K : Mej} (w : WF S) {g a : Nat} (hg : g < s_n S) (ha : a < s_n S) (hq : cCq S a g = true) (I : MC S N0 N K a g) : CK d mX3_addChainWaysTo [.ref 0, .int (nI g), .int (nI a)] N K (fun r N1 K1 => r = none ∧ MC S N0 N1 K a (g + 1) ∧ K1 = K) := by
  have hn := w.1.1
  obtain ⟨R, F, a3, a4⟩ := I
  obtain ⟨b1, b2, b3, -⟩ := R.2.1 g (by omega)
  have wf2 := w.2.1 g (by omega)
  have hwo : CK (d - 1) mX0_worth [.ref (20 + g)] N K (PX (some (.int (nI (s_wo S g)))) N K) := c_X0_worth (by omega) (by omega) b2 b3 wf2.1 wf2.2.1.1
  refine CK.start [(0, _), (1, _), (2, _)] (plainFor_of_name (by decide)) (Nat.le_of_ble_eq_true rfl) rfl ?_
  refine K_aload_n dX3_addChainWaysTo_0 rfl rfl ?_
  refine K_getR (r := 1) dX3_addChainWaysTo_1 fl_X3_11 rfl rfl rfl rfl ?_
  refine K_iload_n dX3_addChainWaysTo_4 rfl rfl ?_
  refine K_hh dX3_addChainWaysTo_5 (by first | omega | fail) rfl ?_
  refine K_cv (ci := 0) (d1 := d - 1) [] dX3_addChainWaysTo_6 ml_X3_140 (by decide) (sk_hh (by omega)) rfl rfl (Nat.le_of_ble_eq_true rfl) hwo (by omega) rfl ?_
  refine K_istore_n (lv' := [(0, _), (1, _), (2, _), (3, _)]) dX3_addChainWaysTo_9 (by decide) rfl rfl ?_
  refine K_iconst (v := nI 0) dX3_addChainWaysTo_10 (by decide) rfl ?_
  refine K_istore (lv' := [(0, _), (1, _), (2, _), (3, _), (4, _)]) dX3_addChainWaysTo_11 (by decide) rfl rfl ?_
  exact l_X3_addChainWaysTo hd w hg ha hq (fun N1 J => ⟨rfl, J, rfl⟩) (s_n S) 0 N (by omega) R F a3 (fun j hj => absurd hj (Nat.not_lt_zero j)) (fun j _ hj => a4 j hj)
theorem l_X3_chain {d : Nat} (hd : 5 ≤ d) {S : GS} {N0 : Mem} {K : Mej} {Post : PK} (w : WF S) {a : Nat} (ha : a < s_n S)
    (next : ∀ N1, MC S N0 N1 K a (s_n S) → EK d mX3_chain Post 82 [(0, .ref 0), (1, .int (nI a)), (2, .int (nI (s_n S)))] [] N1 K) :
    ∀ (k g : Nat) (N1 : Mem), g + k = s_n S → MC S N0 N1 K a g → EK d mX3_chain Post 38 [(0, .ref 0), (1, .int (nI a)), (2, .int (nI g))] [] N1 K
  | 0, g, N1, e, I => by
    have hn := w.1.1
    have h7 := I.1.1.1
    have hg : g = s_n S := by omega
    subst hg
    refine K_iload_n dX3_chain_38 rfl rfl ?_
    refine K_aload_n dX3_chain_39 rfl rfl ?_
    refine K_getI dX3_chain_40 fl_X3_42 (by first | rfl | exact sk_rk (by omega) | exact sk_hh (by omega)) rfl (by first | assumption | rfl) rfl ?_
    refine K_icmp_geN (tgt := 82) dX3_chain_43 (by decide) rfl (by first | omega | fail) (by first | omega | fail) (fun c43 => ?_) (fun c43 => ?_)
    · exact next N1 I
    · omega
  | k + 1, g, N1, e, I => by
    have hn := w.1.1
    have h7 := I.1.1.1
    have hp := I.1.2.2.2.1 g (by omega)
    have hob := w.plb (f := g) (by omega)
    have hgb : oB (s_gu S g) := oB_fnd hn
    have skip : cCq S a g = false → EK d mX3_chain Post 38 [(0, .ref 0), (1, .int (nI a)), (2, .int (nI (g + 1)))] [] N1 K := fun z =>
      l_X3_chain hd w ha next k (g + 1) N1 (by omega) ⟨I.1, I.2.1, I.2.2.1, fun f hf => by
        rw [bs_f (by rw [cCp, z]; simp)]
        exact I.2.2.2 f hf⟩
    refine K_iload_n dX3_chain_38 rfl rfl ?_
    refine K_aload_n dX3_chain_39 rfl rfl ?_
    refine K_getI dX3_chain_40 fl_X3_42 (by first | rfl | exact sk_rk (by omega) | exact sk_hh (by omega)) rfl (by first | assumption | rfl) rfl ?_
    refine K_icmp_geN (tgt := 82) dX3_chain_43 (by decide) rfl (by first | omega | fail) (by first | omega | fail) (fun c43 => ?_) (fun c43 => ?_)
    · omega
    · refine K_iload_n dX3_chain_46 rfl rfl ?_
      refine K_iload_n dX3_chain_47 rfl rfl ?_
      refine K_icmp_eqN (tgt := 76) dX3_chain_48 (by decide) rfl (by first | omega | fail) (by first | omega | fail) (fun c48 => ?_) (fun c48 => ?_)
      · first | refine K_incN (lv' := [(0, _), (1, _), (2, _)]) dX3_chain_76 rfl (by decide) rfl rfl ?_ | refine K_iinc (lv' := [(0, _), (1, _), (2, _)]) dX3_chain_76 rfl rfl (by decide) rfl rfl ?_
        refine K_goto (tgt := 38) dX3_chain_79 (by decide) ?_
        first | exact l_X3_chain hd w ha next k (g + 1) N2 (by omega) I2 | (refine skip ?_; rw [cCq, c48]; simp; done) | (refine skip ?_; rw [cCq, show (s_gu S g).isNone = false from Option.isNone_eq_false_iff.mpr (Option.isSome_iff_ne_none.mpr c67)]; simp; done) | (refine skip ?_; rw [cCq, show (s_pl S g).isNone = false from Option.isNone_eq_false_iff.mpr (Option.isSome_iff_ne_none.mpr c58)]; simp; done)
      · refine K_aload_n dX3_chain_51 rfl rfl ?_
        refine K_getR (r := 2) dX3_chain_52 fl_X3_15 rfl rfl rfl rfl ?_
        refine K_iload_n dX3_chain_55 rfl rfl ?_
        refine K_iald dX3_chain_56 (by first | rfl | exact sk_rk (by omega) | exact sk_hh (by omega)) (by first | omega | fail) (by decide) (by first | assumption | rfl) rfl ?_
        refine K_iconst (v := (-1)) dX3_chain_57 (by decide) rfl ?_
        refine K_icmp_neO (tgt := 76) dX3_chain_58 (by decide) rfl (by first | assumption | fail) (fun c58 => ?_) (fun c58 => ?_)
        · first | refine K_incN (lv' := [(0, _), (1, _), (2, _)]) dX3_chain_76 rfl (by decide) rfl rfl ?_ | refine K_iinc (lv' := [(0, _), (1, _), (2, _)]) dX3_chain_76 rfl rfl (by decide) rfl rfl ?_
          refine K_goto (tgt := 38) dX3_chain_79 (by decide) ?_
          first | exact l_X3_chain hd w ha next k (g + 1) N2 (by omega) I2 | (refine skip ?_; rw [cCq, c48]; simp; done) | (refine skip ?_; rw [cCq, show (s_gu S g).isNone = false from Option.isNone_eq_false_iff.mpr (Option.isSome_iff_ne_none.mpr c67)]; simp; done) | (refine skip ?_; rw [cCq, show (s_pl S g).isNone = false from Option.isNone_eq_false_iff.mpr (Option.isSome_iff_ne_none.mpr c58)]; simp; done)
        · refine K_aload_n dX3_chain_61 rfl rfl ?_
          refine K_iload_n dX3_chain_62 rfl rfl ?_
          refine K_cv (ci := 3) (d1 := d - 1) [_] dX3_chain_63 ml_X3_146 (by decide) rfl rfl rfl (Nat.le_of_ble_eq_true rfl) (c_X3_firstGuest I.1 w (by omega)) (by omega) rfl ?_
          refine K_iconst (v := (-1)) dX3_chain_66 (by decide) rfl ?_
          refine K_icmp_neO (tgt := 76) dX3_chain_67 (by decide) rfl (by first | assumption | fail) (fun c67 => ?_) (fun c67 => ?_)
          · first | refine K_incN (lv' := [(0, _), (1, _), (2, _)]) dX3_chain_76 rfl (by decide) rfl rfl ?_ | refine K_iinc (lv' := [(0, _), (1, _), (2, _)]) dX3_chain_76 rfl rfl (by decide) rfl rfl ?_
            refine K_goto (tgt := 38) dX3_chain_79 (by decide) ?_
            first | exact l_X3_chain hd w ha next k (g + 1) N2 (by omega) I2 | (refine skip ?_; rw [cCq, c48]; simp; done) | (refine skip ?_; rw [cCq, show (s_gu S g).isNone = false from Option.isNone_eq_false_iff.mpr (Option.isSome_iff_ne_none.mpr c67)]; simp; done) | (refine skip ?_; rw [cCq, show (s_pl S g).isNone = false from Option.isNone_eq_false_iff.mpr (Option.isSome_iff_ne_none.mpr c58)]; simp; done)
          · refine K_aload_n dX3_chain_70 rfl rfl ?_
            refine K_iload_n dX3_chain_71 rfl rfl ?_
            refine K_iload_n dX3_chain_72 rfl rfl ?_
            refine K_callV (ci := 3) (d1 := d - 1) [_, _] dX3_chain_73 ml_X3_208 (by decide) rfl rfl rfl (Nat.le_of_ble_eq_true rfl) (c_X3_addChainWaysTo (by omega) w (show g < s_n S by omega) ha (by rw [cCq, decide_eq_true c48, c58, c67]; rfl) I) (by omega) rfl ?_
            rintro r N2 K2 ⟨z1, I2, z3⟩
            subst z1
            subst z3
            first | refine K_incN (lv' := [(0, _), (1, _), (2, _)]) dX3_chain_76 rfl (by decide) rfl rfl ?_ | refine K_iinc (lv' := [(0, _), (1, _), (2, _)]) dX3_chain_76 rfl rfl (by decide) rfl rfl ?_
            refine K_goto (tgt := 38) dX3_chain_79 (by decide) ?_
            first | exact l_X3_chain hd w ha next k (g + 1) N2 (by omega) I2 | (refine skip ?_; rw [cCq, c48]; simp; done) | (refine skip ?_; rw [cCq, show (s_gu S g).isNone = false from Option.isNone_eq_false_iff.mpr (Option.isSome_iff_ne_none.mpr c67)]; simp; done) | (refine skip ?_; rw [cCq, show (s_pl S g).isNone = false from Option.isNone_eq_false_iff.mpr (Option.isSome_iff_ne_none.mpr c58)]; simp; done)
theorem gc_lwR {h : Nat → Nat} {n a : Nat} (hn : n ≤ 10) (ha : a < n) : ∃ q, ch (wB h) n (2 ^ a) a q ∧ lwR h n a = a :: q := by
  have hc := cnt_or (m := 0) (g := a) (Nat.zero_testBit a) ha
  rw [Nat.zero_or, cnt_0] at hc
  have g0 := gOn_is (wB h) n (n - 1) a (2 ^ a) [a] [] (by omega)
  rw [show n - 1 + 1 = n by omega] at g0
  rcases g0 with ⟨-, h2⟩ | ⟨q, h1, h2, -⟩
  · have := h2 [] trivial
    simp at this
  · exact ⟨q, h1, h2⟩
theorem lw_le {h : Nat → Nat} {n a : Nat} (hn : n ≤ 10) (ha : a < n) : (lwR h n a).length ≤ 10 := by
  obtain ⟨q, h1, h2⟩ := gc_lwR (h := h) hn ha
  have hc := cnt_or (m := 0) (g := a) (Nat.zero_testBit a) ha
  rw [Nat.zero_or, cnt_0] at hc
  have := ch_len h1
  rw [h2, List.length_cons]
  omega
theorem lw_lt {h : Nat → Nat} {n a : Nat} (hn : n ≤ 10) (ha : a < n) : ∀ x, x ∈ lwR h n a → x < n := by
  obtain ⟨q, h1, h2⟩ := gc_lwR (h := h) hn ha
  intro x hx
  rw [h2] at hx
  rcases List.mem_cons.mp hx with rfl | hx
  · exact ha
  · exact ch_mem h1 x hx
def o_chain (S : GS) (x : Int32) : Int32 × GS :=
  if isF (s_n S) x = true then
    (if s_pl S x.toNatClampNeg = none then
      (if (lwR (cCh S x.toNatClampNeg) (s_n S) x.toNatClampNeg).length ≤ 1 then (nI 0, gC S)
       else (nI ((lwR (cCh S x.toNatClampNeg) (s_n S) x.toNatClampNeg).length - 1), gB (tellG (gC S) (lwR (cCh S x.toNatClampNeg) (s_n S) x.toNatClampNeg).length (fun i => (lwR (cCh S x.toNatClampNeg) (s_n S) x.toNatClampNeg).getD i 0)) 3 0 0 true))
     else (-1, gC S))
  else (-1, gC S)
set_option maxRecDepth 100000 in
theorem c_X3_chain {d : Nat} (hd : 5 ≤ d) {S : GS} {N : Mem} {K : Mej} (R : RX S N K) (w : WF S) {x : Int32} : CK d mX3_chain [.ref 0, .int x] N K (PRX (o_chain S x).1 (o_chain S x).2 N) := by
  have R0 := R.c0
  have w0 := w.c0
  have hn := w.1.1
  have hn0 : s_n (gC S) ≤ 10 := hn
  have h7 : sM N 0 13 (nI 0) 0 7 = nI (s_n S) := R0.1.1
  cases hx : isF (s_n S) x with
  | false =>
    rw [o_chain, hx]
    refine CK.start [(0, _), (1, _)] (plainFor_of_name (by decide)) (Nat.le_of_ble_eq_true rfl) rfl ?_
    refine K_aload_n dX3_chain_0 rfl rfl ?_
    refine K_iconst (v := nI 0) dX3_chain_1 (by decide) rfl ?_
    refine K_putZ dX3_chain_2 fl_X3_61 (by first | rfl | exact sk_rk (by omega) | exact sk_hh (by omega)) rfl rfl rfl (by first | exact bI_01 _ | exact Or.inl rfl | exact Or.inr rfl | assumption) rfl ?_
    refine K_aload_n dX3_chain_5 rfl rfl ?_
    refine K_iload_n dX3_chain_6 rfl rfl ?_
    refine K_cv (ci := 3) (d1 := d - 1) [_] dX3_chain_7 ml_X3_74 (by decide) rfl rfl rfl (Nat.le_of_ble_eq_true rfl) (c_X3_isFamily h7) (by omega) rfl ?_
    refine K_if_eqB (tgt := 23) dX3_chain_10 (by decide) rfl (fun c10 => ?_) (fun c10 => ?_)
    · refine K_iconst (v := (-1)) dX3_chain_23 (by decide) rfl ?_
      refine K_iret dX3_chain_24 rfl ?_
      exact ⟨rfl, R0, FX.c0 N⟩
    · rw [hx] at c10; cases c10
  | true =>
    obtain ⟨a, ha, rfl⟩ := (isF_iff hn).mp hx
    rw [o_chain, hx, if_pos rfl, nI_clamp (show a < 2 ^ 31 by omega)]
    have hp0 : sM N 0 13 (nI 0) 2 a = oI (s_pl S a) := R0.2.2.2.1 a (by omega)
    have hob := w.plb (f := a) (by omega)
    by_cases hz : s_pl S a = none
    · rw [if_pos hz]
      have I0 : MC (gC S) N (fillM (sM (sM N 0 13 (nI 0)) 7 3 (nI (s_n S))) 8 10 (nI 0)) K a 0 := by
        refine ⟨R0.frame (fun i hi => ?_) (fun _ _ => rfl), fun i hi => ?_, ?_, fun j hj => ?_⟩
        · funext j
          unfold fillM
          rw [if_neg (by omega), sM_ne (Or.inl (by omega))]
        · funext j
          unfold fillM
          rw [if_neg (by omega), sM_ne (Or.inl (by omega)), sM_ne (Or.inl (by omega))]
        · unfold fillM
          rw [if_neg (by omega)]
          exact sM_eq _ _ _ _
        · unfold fillM
          rw [if_pos ⟨rfl, hj⟩]
          rfl
      have fin : ∀ N1, MC (gC S) N N1 K a (s_n (gC S)) → EK d mX3_chain (PRX (if (lwR (cCh S a) (s_n S) a).length ≤ 1 then (nI 0, gC S) else (nI ((lwR (cCh S a) (s_n S) a).length - 1), gB (tellG (gC S) (lwR (cCh S a) (s_n S) a).length (fun i => (lwR (cCh S a) (s_n S) a).getD i 0)) 3 0 0 true)).1 (if (lwR (cCh S a) (s_n S) a).length ≤ 1 then (nI 0, gC S) else (nI ((lwR (cCh S a) (s_n S) a).length - 1), gB (tellG (gC S) (lwR (cCh S a) (s_n S) a).length (fun i => (lwR (cCh S a) (s_n S) a).getD i 0)) 3 0 0 true)).2 N) 82 [(0, .ref 0), (1, .int (nI a)), (2, .int (nI (s_n (gC S))))] [] N1 K := by
        rintro N1 ⟨R1, F1, g7, g8⟩
        have eh : cCh (gC S) a = cCh S a := rfl
        have htl : CK (d - 1) mX2_tellLongestWay [.ref 7, .int (nI a), .ref 4] N1 K (PTL (cCh S a) (s_n S) a N1 K) := c_X2_tellLongestWay (by omega) hn ha (fun f _ => bs_10 hn) (fun f i _ hi => by rw [cCh_bit, Bool.and_eq_true] at hi; simpa using hi.1) g7 g8
        refine K_aload_n dX3_chain_82 rfl rfl ?_
        refine K_getR (r := 7) dX3_chain_83 fl_X3_38 rfl rfl rfl rfl ?_
        refine K_iload_n dX3_chain_86 rfl rfl ?_
        refine K_aload_n dX3_chain_87 rfl rfl ?_
        refine K_getR (r := 4) dX3_chain_88 fl_X3_22 rfl rfl rfl rfl ?_
        refine K_callV (ci := 2) (d1 := d - 1) [_, _] dX3_chain_91 ml_X3_211 (by decide) rfl rfl rfl (Nat.le_of_ble_eq_true rfl) htl (by omega) rfl ?_
        rintro r N2 K2 ⟨z1, z2, z3⟩
        subst z1
        rcases z3 with ⟨y1, y2, y3⟩ | ⟨y0, y1, y2, y3⟩
        skip
        · subst y2
          rw [y1, if_pos (by simp)]
          have R2 : RX (gC S) N2 K2 := R1.frame (fun i hi => by
            by_cases e4 : i = 4
            · rw [e4]; exact y3
            · exact z2 i e4 (by omega)) (fun _ _ => rfl)
          have F2 : FX N N2 := F1.trans (fun i hi => z2 i (by omega) (by omega))
          refine K_istore_n (lv' := [(0, _), (1, _), (2, _)]) dX3_chain_94 (by decide) rfl rfl ?_
          refine K_aload_n dX3_chain_95 rfl rfl ?_
          refine K_iload_n dX3_chain_96 rfl rfl ?_
          refine K_c0 (ci := 3) (d1 := d - 1) [_] dX3_chain_97 ml_X3_202 (by decide) rfl rfl rfl (Nat.le_of_ble_eq_true rfl) (c_X3_keepRow (by omega)) (by omega) rfl ?_
          refine K_aload_n dX3_chain_100 rfl rfl ?_
          refine K_iload_n dX3_chain_101 rfl rfl ?_
          first | refine K_if_leN (tgt := 109) dX3_chain_102 (by decide) rfl (by first | omega | fail) (fun c102 => ?_) (fun c102 => ?_) | refine K_if_le (tgt := 109) dX3_chain_102 (by decide) rfl (fun c102 => ?_) (fun c102 => ?_)
          · refine K_iconst (v := nI 0) dX3_chain_109 (by decide) rfl ?_
            refine K_putZ dX3_chain_110 fl_X3_61 (by first | rfl | exact sk_rk (by omega) | exact sk_hh (by omega)) rfl rfl rfl (by first | exact bI_01 _ | exact Or.inl rfl | exact Or.inr rfl | assumption) rfl ?_
            refine K_aload_n dX3_chain_113 rfl rfl ?_
            refine K_getI dX3_chain_114 fl_X3_61 (by first | rfl | exact sk_rk (by omega) | exact sk_hh (by omega)) rfl (by first | assumption | exact sM_eq _ _ _ _ | rfl) rfl ?_
            refine K_if_eqN (tgt := 126) dX3_chain_117 (by decide) rfl (by first | omega | fail) (fun c117 => ?_) (fun c117 => ?_)
            · refine K_iconst (v := nI 0) dX3_chain_126 (by decide) rfl ?_
              refine K_iret dX3_chain_127 rfl ?_
              refine ⟨rfl, ?_, ?_⟩
              · show RX (gC S) (sM (if 0 < 0 then _ else N2) 0 13 (nI 0)) _
                rw [if_neg (by omega)]
                exact R2.ch false
              · show FX N (sM (if 0 < 0 then _ else N2) 0 13 (nI 0))
                rw [if_neg (by omega)]
                exact F2.set (by decide)
            · omega
          · omega
        · subst y2
          rw [if_neg (by omega)]
          have F2 : FX N N2 := F1.trans (fun i hi => z2 i (by omega) (by omega))
          have cl : (lwR (cCh S a) (s_n S) a).length ≤ 10 := lw_le hn ha
          have hkr := c_X3_keepRow (d := d - 1) (N := N2) (K := K2) cl
          rw [if_pos (by omega)] at hkr
          have R3 := R1.tell (len := (lwR (cCh S a) (s_n S) a).length) (fun i hi h4 => z2 i h4 (by omega)) (fun _ _ => rfl) y3
          refine K_istore_n (lv' := [(0, _), (1, _), (2, _)]) dX3_chain_94 (by decide) rfl rfl ?_
          refine K_aload_n dX3_chain_95 rfl rfl ?_
          refine K_iload_n dX3_chain_96 rfl rfl ?_
          refine K_c0 (ci := 3) (d1 := d - 1) [_] dX3_chain_97 ml_X3_202 (by decide) rfl rfl rfl (Nat.le_of_ble_eq_true rfl) hkr (by omega) rfl ?_
          refine K_aload_n dX3_chain_100 rfl rfl ?_
          refine K_iload_n dX3_chain_101 rfl rfl ?_
          first | refine K_if_leN (tgt := 109) dX3_chain_102 (by decide) rfl (by first | omega | fail) (fun c102 => ?_) (fun c102 => ?_) | refine K_if_le (tgt := 109) dX3_chain_102 (by decide) rfl (fun c102 => ?_) (fun c102 => ?_)
          · omega
          · refine K_iconst (v := nI 1) dX3_chain_105 (by decide) rfl ?_
            refine K_goto (tgt := 110) dX3_chain_106 (by decide) ?_
            refine K_putZ dX3_chain_110 fl_X3_61 (by first | rfl | exact sk_rk (by omega) | exact sk_hh (by omega)) rfl rfl rfl (by first | exact bI_01 _ | exact Or.inl rfl | exact Or.inr rfl | assumption) rfl ?_
            refine K_aload_n dX3_chain_113 rfl rfl ?_
            refine K_getI dX3_chain_114 fl_X3_61 (by first | rfl | exact sk_rk (by omega) | exact sk_hh (by omega)) rfl (by first | assumption | exact sM_eq _ _ _ _ | rfl) rfl ?_
            refine K_if_eqN (tgt := 126) dX3_chain_117 (by decide) rfl (by first | omega | fail) (fun c117 => ?_) (fun c117 => ?_)
            · omega
            · refine K_iload_n dX3_chain_120 rfl rfl ?_
              refine K_iconst (v := nI 1) dX3_chain_121 (by decide) rfl ?_
              refine K_subN dX3_chain_122 (by first | omega | fail) rfl ?_
              refine K_goto (tgt := 127) dX3_chain_123 (by decide) ?_
              refine K_iret dX3_chain_127 rfl ?_
              exact ⟨rfl, R3.ch true, (F2.set (by decide)).set (by decide)⟩
      refine CK.start [(0, _), (1, _)] (plainFor_of_name (by decide)) (Nat.le_of_ble_eq_true rfl) rfl ?_
      refine K_aload_n dX3_chain_0 rfl rfl ?_
      refine K_iconst (v := nI 0) dX3_chain_1 (by decide) rfl ?_
      refine K_putZ dX3_chain_2 fl_X3_61 (by first | rfl | exact sk_rk (by omega) | exact sk_hh (by omega)) rfl rfl rfl (by first | exact bI_01 _ | exact Or.inl rfl | exact Or.inr rfl | assumption) rfl ?_
      refine K_aload_n dX3_chain_5 rfl rfl ?_
      refine K_iload_n dX3_chain_6 rfl rfl ?_
      refine K_cv (ci := 3) (d1 := d - 1) [_] dX3_chain_7 ml_X3_74 (by decide) rfl rfl rfl (Nat.le_of_ble_eq_true rfl) (c_X3_isFamily h7) (by omega) rfl ?_
      refine K_if_eqB (tgt := 23) dX3_chain_10 (by decide) rfl (fun c10 => ?_) (fun c10 => ?_)
      · rw [hx] at c10; cases c10
      · refine K_aload_n dX3_chain_13 rfl rfl ?_
        refine K_getR (r := 2) dX3_chain_14 fl_X3_15 rfl rfl rfl rfl ?_
        refine K_iload_n dX3_chain_17 rfl rfl ?_
        refine K_iald dX3_chain_18 (by first | rfl | exact sk_rk (by omega) | exact sk_hh (by omega)) (by first | omega | fail) (by decide) (by first | assumption | rfl) rfl ?_
        refine K_iconst (v := (-1)) dX3_chain_19 (by decide) rfl ?_
        refine K_icmp_eqO (tgt := 25) dX3_chain_20 (by decide) rfl (by first | assumption | fail) (fun c20 => ?_) (fun c20 => ?_)
        · refine K_aload_n dX3_chain_25 rfl rfl ?_
          refine K_getR (r := 7) dX3_chain_26 fl_X3_38 rfl rfl rfl rfl ?_
          refine K_aload_n dX3_chain_29 rfl rfl ?_
          refine K_getI dX3_chain_30 fl_X3_42 (by first | rfl | exact sk_rk (by omega) | exact sk_hh (by omega)) rfl (by first | assumption | rfl) rfl ?_
          refine K_c0 (ci := 2) (d1 := d - 1) [_] dX3_chain_33 ml_X3_185 (by decide) rfl rfl rfl (Nat.le_of_ble_eq_true rfl) c_X2_clear (by omega) rfl ?_
          refine K_iconst (v := nI 0) dX3_chain_36 (by decide) rfl ?_
          refine K_istore_n (lv' := [(0, _), (1, _), (2, _)]) dX3_chain_37 (by decide) rfl rfl ?_
          exact l_X3_chain (S := gC S) hd (N0 := N) w0 ha fin (s_n S) 0 _ (Nat.zero_add _) I0
        · exact absurd hz c20
    · rw [if_neg hz]
      refine CK.start [(0, _), (1, _)] (plainFor_of_name (by decide)) (Nat.le_of_ble_eq_true rfl) rfl ?_
      refine K_aload_n dX3_chain_0 rfl rfl ?_
      refine K_iconst (v := nI 0) dX3_chain_1 (by decide) rfl ?_
      refine K_putZ dX3_chain_2 fl_X3_61 (by first | rfl | exact sk_rk (by omega) | exact sk_hh (by omega)) rfl rfl rfl (by first | exact bI_01 _ | exact Or.inl rfl | exact Or.inr rfl | assumption) rfl ?_
      refine K_aload_n dX3_chain_5 rfl rfl ?_
      refine K_iload_n dX3_chain_6 rfl rfl ?_
      refine K_cv (ci := 3) (d1 := d - 1) [_] dX3_chain_7 ml_X3_74 (by decide) rfl rfl rfl (Nat.le_of_ble_eq_true rfl) (c_X3_isFamily h7) (by omega) rfl ?_
      refine K_if_eqB (tgt := 23) dX3_chain_10 (by decide) rfl (fun c10 => ?_) (fun c10 => ?_)
      · rw [hx] at c10; cases c10
      · refine K_aload_n dX3_chain_13 rfl rfl ?_
        refine K_getR (r := 2) dX3_chain_14 fl_X3_15 rfl rfl rfl rfl ?_
        refine K_iload_n dX3_chain_17 rfl rfl ?_
        refine K_iald dX3_chain_18 (by first | rfl | exact sk_rk (by omega) | exact sk_hh (by omega)) (by first | omega | fail) (by decide) (by first | assumption | rfl) rfl ?_
        refine K_iconst (v := (-1)) dX3_chain_19 (by decide) rfl ?_
        refine K_icmp_eqO (tgt := 25) dX3_chain_20 (by decide) rfl (by first | assumption | fail) (fun c20 => ?_) (fun c20 => ?_)
        · exact absurd c20 hz
        · refine K_iconst (v := (-1)) dX3_chain_23 (by decide) rfl ?_
          refine K_iret dX3_chain_24 rfl ?_
          exact ⟨rfl, R0, FX.c0 N⟩
