/-! the class's trade -/
def anB (L g : Nat) : Nat := bs (fun i => L.testBit i && !g.testBit i) 10
theorem an_eq {L g : Nat} (hL : L < 1024) : nI L &&& (nI g ^^^ (-1)) = nI (anB L g) := by
  rw [show ((-1) : Int32) = nI 4294967295 from by decide, nx_xor, nx_and]
  congr 1
  refine Nat.eq_of_testBit_eq (fun i => ?_)
  have h32 : (4294967295 : Nat) = 2 ^ 32 - 1 := by decide
  unfold anB
  rw [Nat.testBit_and, Nat.testBit_xor, bs_bit, h32, Nat.testBit_two_pow_sub_one]
  cases e : L.testBit i with
  | false => simp
  | true =>
    have hi := bit_lt (n := 10) hL e
    simp [hi, show i < 32 by omega]
theorem an_rm {L f : Nat} : anB L (2 ^ f) = rmB L f := by
  unfold anB rmB
  congr 1
  funext i
  rw [Nat.testBit_two_pow]
  by_cases e : i = f
  · simp [e]
  · have : ¬ f = i := fun z => e z.symm
    simp [e, this]
theorem rm_eq {L f : Nat} (hL : L < 1024) : nI L &&& (nI (2 ^ f) ^^^ (-1)) = nI (rmB L f) := by rw [an_eq hL, an_rm]
def LMI (S : GS) (L f i : Nat) : Option Nat → Prop
  | none => ∀ g, g < i → L.testBit g = true → s_tk S f g = false
  | some x => x < i ∧ L.testBit x = true ∧ s_tk S f x = true ∧ ∀ g, g < i → L.testBit g = true → s_tk S f g = true → s_rk S f x ≤ s_rk S f g
theorem LMI.skip {S : GS} {L f i : Nat} {o : Option Nat} (I : LMI S L f i o) (h : L.testBit i = true → s_tk S f i = false) : LMI S L f (i + 1) o := by
  cases o with
  | none =>
    intro g hg h1
    rcases Nat.lt_succ_iff_lt_or_eq.mp hg with hg | rfl
    · exact I g hg h1
    · exact h h1
  | some x =>
    refine ⟨by have := I.1; omega, I.2.1, I.2.2.1, fun g hg h1 h2 => ?_⟩
    rcases Nat.lt_succ_iff_lt_or_eq.mp hg with hg | rfl
    · exact I.2.2.2 g hg h1 h2
    · rw [h h1] at h2; cases h2
theorem LMI.stay {S : GS} {L f i x : Nat} (I : LMI S L f i (some x)) (h : s_rk S f x ≤ s_rk S f i) : LMI S L f (i + 1) (some x) := by
  refine ⟨by have := I.1; omega, I.2.1, I.2.2.1, fun g hg h1 h2 => ?_⟩
  rcases Nat.lt_succ_iff_lt_or_eq.mp hg with hg | rfl
  · exact I.2.2.2 g hg h1 h2
  · exact h
theorem LMI.take {S : GS} {L f i : Nat} {o : Option Nat} (I : LMI S L f i o) (h1 : L.testBit i = true) (h2 : s_tk S f i = true) (h : ∀ x, o = some x → s_rk S f i < s_rk S f x) : LMI S L f (i + 1) (some i) := by
  refine ⟨by omega, h1, h2, fun g hg h3 h4 => ?_⟩
  rcases Nat.lt_succ_iff_lt_or_eq.mp hg with hg | rfl
  · cases o with
    | none => rw [I g hg h3] at h4; cases h4
    | some x => have := I.2.2.2 g hg h3 h4; have := h x rfl; omega
  · exact Nat.le_refl _
theorem LMI.fo {S : GS} (w : WF S) {L f : Nat} {o : Option Nat} (hf : f < s_n S) (hL : L < 2 ^ s_n S) (I : LMI S L f (s_n S) o) : fo S L f = o := by
  have hn := w.1.1
  cases o with
  | none => exact fo_no (fun g hg => I g (bit_lt hL hg) hg)
  | some x => exact fo_is w (by omega) I.2.1 I.2.2.1 (fun g h1 h2 => I.2.2.2 g (bit_lt hL h1) h1 h2)
theorem l_X3_likedMost {d : Nat} (hd : 4 ≤ d) {S : GS} {N : Mem} {K : Mej} (R : RX S N K) (w : WF S) {L f : Nat} (hf : f < s_n S) (hL : L < 2 ^ s_n S) :
    ∀ (k g : Nat) (o : Option Nat), g + k = s_n S → LMI S L f g o → EK d mX3_likedMost (PX (some (.int (oI (fo S L f)))) N K) 5 [(0, .ref 0), (1, .int (nI f)), (2, .int (nI L)), (3, .int (oI o)), (4, .int (nI g))] [] N K
  | 0, g, o, e, I => by
    have hn := w.1.1
    have h7 := R.1.1
    have hg : g = s_n S := by omega
    subst hg
    have ef := I.fo w hf hL
    refine K_iload dX3_likedMost_5 rfl rfl ?_
    refine K_aload_n dX3_likedMost_7 rfl rfl ?_
    refine K_getI dX3_likedMost_8 fl_X3_42 (by first | rfl | exact sk_rk (by omega) | exact sk_hh (by omega)) rfl (by first | assumption | rfl) rfl ?_
    refine K_icmp_geN (tgt := 86) dX3_likedMost_11 (by decide) rfl (by first | omega | fail) (by first | omega | fail) (fun c11 => ?_) (fun c11 => ?_)
    · refine K_iload_n dX3_likedMost_86 rfl rfl ?_
      refine K_iret dX3_likedMost_87 rfl ?_
      rw [ef]
      exact ⟨rfl, rfl, rfl⟩
    · omega
  | k + 1, g, o, e, I => by
    have hn := w.1.1
    have h7 := R.1.1
    have p := p10 hn
    have hgn : g < s_n S := by omega
    have hrg := R.2.2.1 f g (by omega) (by omega)
    have r9 := w.rk9 (f := f) (by omega) g
    have nx := fun o2 I2 => l_X3_likedMost (d := d) hd R w hf hL k (g + 1) o2 (by omega) I2
    cases h1 : L.testBit g with
    | false =>
      refine K_iload dX3_likedMost_5 rfl rfl ?_
      refine K_aload_n dX3_likedMost_7 rfl rfl ?_
      refine K_getI dX3_likedMost_8 fl_X3_42 (by first | rfl | exact sk_rk (by omega) | exact sk_hh (by omega)) rfl (by first | assumption | rfl) rfl ?_
      refine K_icmp_geN (tgt := 86) dX3_likedMost_11 (by decide) rfl (by first | omega | fail) (by first | omega | fail) (fun c11 => ?_) (fun c11 => ?_)
      · omega
      · refine K_iload_n dX3_likedMost_14 rfl rfl ?_
        refine K_iload dX3_likedMost_15 rfl rfl ?_
        first | refine K_shrN dX3_likedMost_17 (by first | omega | fail) (by first | omega | fail) rfl ?_ | refine K_ishr dX3_likedMost_17 rfl ?_
        refine K_iconst (v := nI 1) dX3_likedMost_18 (by decide) rfl ?_
        first | refine K_bitN dX3_likedMost_19 rfl ?_ | refine K_andN dX3_likedMost_19 rfl ?_ | refine K_iand dX3_likedMost_19 rfl ?_
        refine K_iconst (v := nI 1) dX3_likedMost_20 (by decide) rfl ?_
        refine K_icmp_neB1 (tgt := 38) dX3_likedMost_21 (by decide) rfl (fun c21 => ?_) (fun c21 => ?_)
        · refine K_iconst (v := nI 0) dX3_likedMost_38 (by decide) rfl ?_
          refine K_istore (lv' := [(0, _), (1, _), (2, _), (3, _), (4, _), (5, _)]) dX3_likedMost_39 (by decide) rfl rfl ?_
          refine K_iload dX3_likedMost_41 rfl rfl ?_
          refine K_if_eqN (tgt := 80) dX3_likedMost_43 (by decide) rfl (by first | omega | fail) (fun c43 => ?_) (fun c43 => ?_)
          · first | refine K_incN (lv' := [(0, _), (1, _), (2, _), (3, _), (4, _), (5, _)]) dX3_likedMost_80 rfl (by decide) rfl rfl ?_ | refine K_iinc (lv' := [(0, _), (1, _), (2, _), (3, _), (4, _), (5, _)]) dX3_likedMost_80 rfl rfl (by decide) rfl rfl ?_
            refine K_goto (tgt := 5) dX3_likedMost_83 (by decide) ?_
            refine K_pick [0, 1, 2, 3, 4] rfl ?_
            exact nx o (I.skip (fun z => by rw [h1] at z; cases z))
          · omega
        · rw [h1] at c21; cases c21
    | true =>
      cases h2 : s_tk S f g with
      | false =>
        refine K_iload dX3_likedMost_5 rfl rfl ?_
        refine K_aload_n dX3_likedMost_7 rfl rfl ?_
        refine K_getI dX3_likedMost_8 fl_X3_42 (by first | rfl | exact sk_rk (by omega) | exact sk_hh (by omega)) rfl (by first | assumption | rfl) rfl ?_
        refine K_icmp_geN (tgt := 86) dX3_likedMost_11 (by decide) rfl (by first | omega | fail) (by first | omega | fail) (fun c11 => ?_) (fun c11 => ?_)
        · omega
        · refine K_iload_n dX3_likedMost_14 rfl rfl ?_
          refine K_iload dX3_likedMost_15 rfl rfl ?_
          first | refine K_shrN dX3_likedMost_17 (by first | omega | fail) (by first | omega | fail) rfl ?_ | refine K_ishr dX3_likedMost_17 rfl ?_
          refine K_iconst (v := nI 1) dX3_likedMost_18 (by decide) rfl ?_
          first | refine K_bitN dX3_likedMost_19 rfl ?_ | refine K_andN dX3_likedMost_19 rfl ?_ | refine K_iand dX3_likedMost_19 rfl ?_
          refine K_iconst (v := nI 1) dX3_likedMost_20 (by decide) rfl ?_
          refine K_icmp_neB1 (tgt := 38) dX3_likedMost_21 (by decide) rfl (fun c21 => ?_) (fun c21 => ?_)
          · rw [h1] at c21; cases c21
          · refine K_aload_n dX3_likedMost_24 rfl rfl ?_
            refine K_iload_n dX3_likedMost_25 rfl rfl ?_
            refine K_iload dX3_likedMost_26 rfl rfl ?_
            refine K_cv (ci := 3) (d1 := d - 1) [_, _] dX3_likedMost_28 ml_X3_188 (by decide) rfl rfl rfl (Nat.le_of_ble_eq_true rfl) (c_X3_takes (by omega) R w hf hgn) (by omega) rfl ?_
            refine K_if_eqB (tgt := 38) dX3_likedMost_31 (by decide) rfl (fun c31 => ?_) (fun c31 => ?_)
            · refine K_iconst (v := nI 0) dX3_likedMost_38 (by decide) rfl ?_
              refine K_istore (lv' := [(0, _), (1, _), (2, _), (3, _), (4, _), (5, _)]) dX3_likedMost_39 (by decide) rfl rfl ?_
              refine K_iload dX3_likedMost_41 rfl rfl ?_
              refine K_if_eqN (tgt := 80) dX3_likedMost_43 (by decide) rfl (by first | omega | fail) (fun c43 => ?_) (fun c43 => ?_)
              · first | refine K_incN (lv' := [(0, _), (1, _), (2, _), (3, _), (4, _), (5, _)]) dX3_likedMost_80 rfl (by decide) rfl rfl ?_ | refine K_iinc (lv' := [(0, _), (1, _), (2, _), (3, _), (4, _), (5, _)]) dX3_likedMost_80 rfl rfl (by decide) rfl rfl ?_
                refine K_goto (tgt := 5) dX3_likedMost_83 (by decide) ?_
                refine K_pick [0, 1, 2, 3, 4] rfl ?_
                exact nx o (I.skip (fun _ => h2))
              · omega
            · rw [h2] at c31; cases c31
      | true =>
        cases o with
        | none =>
          have ob : oB none := fun x hx => by cases hx
          refine K_iload dX3_likedMost_5 rfl rfl ?_
          refine K_aload_n dX3_likedMost_7 rfl rfl ?_
          refine K_getI dX3_likedMost_8 fl_X3_42 (by first | rfl | exact sk_rk (by omega) | exact sk_hh (by omega)) rfl (by first | assumption | rfl) rfl ?_
          refine K_icmp_geN (tgt := 86) dX3_likedMost_11 (by decide) rfl (by first | omega | fail) (by first | omega | fail) (fun c11 => ?_) (fun c11 => ?_)
          · omega
          · refine K_iload_n dX3_likedMost_14 rfl rfl ?_
            refine K_iload dX3_likedMost_15 rfl rfl ?_
            first | refine K_shrN dX3_likedMost_17 (by first | omega | fail) (by first | omega | fail) rfl ?_ | refine K_ishr dX3_likedMost_17 rfl ?_
            refine K_iconst (v := nI 1) dX3_likedMost_18 (by decide) rfl ?_
            first | refine K_bitN dX3_likedMost_19 rfl ?_ | refine K_andN dX3_likedMost_19 rfl ?_ | refine K_iand dX3_likedMost_19 rfl ?_
            refine K_iconst (v := nI 1) dX3_likedMost_20 (by decide) rfl ?_
            refine K_icmp_neB1 (tgt := 38) dX3_likedMost_21 (by decide) rfl (fun c21 => ?_) (fun c21 => ?_)
            · rw [h1] at c21; cases c21
            · refine K_aload_n dX3_likedMost_24 rfl rfl ?_
              refine K_iload_n dX3_likedMost_25 rfl rfl ?_
              refine K_iload dX3_likedMost_26 rfl rfl ?_
              refine K_cv (ci := 3) (d1 := d - 1) [_, _] dX3_likedMost_28 ml_X3_188 (by decide) rfl rfl rfl (Nat.le_of_ble_eq_true rfl) (c_X3_takes (by omega) R w hf hgn) (by omega) rfl ?_
              refine K_if_eqB (tgt := 38) dX3_likedMost_31 (by decide) rfl (fun c31 => ?_) (fun c31 => ?_)
              · rw [h2] at c31; cases c31
              · refine K_iconst (v := nI 1) dX3_likedMost_34 (by decide) rfl ?_
                refine K_goto (tgt := 39) dX3_likedMost_35 (by decide) ?_
                refine K_istore (lv' := [(0, _), (1, _), (2, _), (3, _), (4, _), (5, _)]) dX3_likedMost_39 (by decide) rfl rfl ?_
                refine K_iload dX3_likedMost_41 rfl rfl ?_
                refine K_if_eqN (tgt := 80) dX3_likedMost_43 (by decide) rfl (by first | omega | fail) (fun c43 => ?_) (fun c43 => ?_)
                · omega
                · refine K_iload_n dX3_likedMost_46 rfl rfl ?_
                  refine K_iconst (v := (-1)) dX3_likedMost_47 (by decide) rfl ?_
                  refine K_icmp_eqO (tgt := 77) dX3_likedMost_48 (by decide) rfl (by first | assumption | fail) (fun c48 => ?_) (fun c48 => ?_)
                  · refine K_iload dX3_likedMost_77 rfl rfl ?_
                    refine K_istore_n (lv' := [(0, _), (1, _), (2, _), (3, _), (4, _), (5, _)]) dX3_likedMost_79 (by decide) rfl rfl ?_
                    first | refine K_incN (lv' := [(0, _), (1, _), (2, _), (3, _), (4, _), (5, _)]) dX3_likedMost_80 rfl (by decide) rfl rfl ?_ | refine K_iinc (lv' := [(0, _), (1, _), (2, _), (3, _), (4, _), (5, _)]) dX3_likedMost_80 rfl rfl (by decide) rfl rfl ?_
                    refine K_goto (tgt := 5) dX3_likedMost_83 (by decide) ?_
                    refine K_pick [0, 1, 2, 3, 4] rfl ?_
                    exact nx (some g) (I.take h1 h2 (fun x hx => by cases hx))
                  · exact absurd rfl c48
        | some x =>
          have hx := I.1
          have ob : oB (some x) := fun y hy => by cases hy; omega
          have hrx := R.2.2.1 f x (by omega) (by omega)
          have r8 := w.rk9 (f := f) (by omega) x
          refine K_iload dX3_likedMost_5 rfl rfl ?_
          refine K_aload_n dX3_likedMost_7 rfl rfl ?_
          refine K_getI dX3_likedMost_8 fl_X3_42 (by first | rfl | exact sk_rk (by omega) | exact sk_hh (by omega)) rfl (by first | assumption | rfl) rfl ?_
          refine K_icmp_geN (tgt := 86) dX3_likedMost_11 (by decide) rfl (by first | omega | fail) (by first | omega | fail) (fun c11 => ?_) (fun c11 => ?_)
          · omega
          · refine K_iload_n dX3_likedMost_14 rfl rfl ?_
            refine K_iload dX3_likedMost_15 rfl rfl ?_
            first | refine K_shrN dX3_likedMost_17 (by first | omega | fail) (by first | omega | fail) rfl ?_ | refine K_ishr dX3_likedMost_17 rfl ?_
            refine K_iconst (v := nI 1) dX3_likedMost_18 (by decide) rfl ?_
            first | refine K_bitN dX3_likedMost_19 rfl ?_ | refine K_andN dX3_likedMost_19 rfl ?_ | refine K_iand dX3_likedMost_19 rfl ?_
            refine K_iconst (v := nI 1) dX3_likedMost_20 (by decide) rfl ?_
            refine K_icmp_neB1 (tgt := 38) dX3_likedMost_21 (by decide) rfl (fun c21 => ?_) (fun c21 => ?_)
            · rw [h1] at c21; cases c21
            · refine K_aload_n dX3_likedMost_24 rfl rfl ?_
              refine K_iload_n dX3_likedMost_25 rfl rfl ?_
              refine K_iload dX3_likedMost_26 rfl rfl ?_
              refine K_cv (ci := 3) (d1 := d - 1) [_, _] dX3_likedMost_28 ml_X3_188 (by decide) rfl rfl rfl (Nat.le_of_ble_eq_true rfl) (c_X3_takes (by omega) R w hf hgn) (by omega) rfl ?_
              refine K_if_eqB (tgt := 38) dX3_likedMost_31 (by decide) rfl (fun c31 => ?_) (fun c31 => ?_)
              · rw [h2] at c31; cases c31
              · refine K_iconst (v := nI 1) dX3_likedMost_34 (by decide) rfl ?_
                refine K_goto (tgt := 39) dX3_likedMost_35 (by decide) ?_
                refine K_istore (lv' := [(0, _), (1, _), (2, _), (3, _), (4, _), (5, _)]) dX3_likedMost_39 (by decide) rfl rfl ?_
                refine K_iload dX3_likedMost_41 rfl rfl ?_
                refine K_if_eqN (tgt := 80) dX3_likedMost_43 (by decide) rfl (by first | omega | fail) (fun c43 => ?_) (fun c43 => ?_)
                · omega
                · refine K_iload_n dX3_likedMost_46 rfl rfl ?_
                  refine K_iconst (v := (-1)) dX3_likedMost_47 (by decide) rfl ?_
                  refine K_icmp_eqO (tgt := 77) dX3_likedMost_48 (by decide) rfl (by first | assumption | fail) (fun c48 => ?_) (fun c48 => ?_)
                  · cases c48
                  · refine K_aload_n dX3_likedMost_51 rfl rfl ?_
                    refine K_getR (r := 1) dX3_likedMost_52 fl_X3_11 rfl rfl rfl rfl ?_
                    refine K_iload_n dX3_likedMost_55 rfl rfl ?_
                    refine K_hh dX3_likedMost_56 (by first | omega | fail) rfl ?_
                    refine K_rk dX3_likedMost_57 fl_X3_155 (by first | omega | fail) rfl ?_
                    refine K_iload dX3_likedMost_60 rfl rfl ?_
                    refine K_iald dX3_likedMost_62 (by first | rfl | exact sk_rk (by omega) | exact sk_hh (by omega)) (by first | omega | fail) (by decide) (by first | assumption | rfl) rfl ?_
                    refine K_aload_n dX3_likedMost_63 rfl rfl ?_
                    refine K_getR (r := 1) dX3_likedMost_64 fl_X3_11 rfl rfl rfl rfl ?_
                    refine K_iload_n dX3_likedMost_67 rfl rfl ?_
                    refine K_hh dX3_likedMost_68 (by first | omega | fail) rfl ?_
                    refine K_rk dX3_likedMost_69 fl_X3_155 (by first | omega | fail) rfl ?_
                    refine K_iload_n dX3_likedMost_72 rfl rfl ?_
                    refine K_iald dX3_likedMost_73 (by first | rfl | exact sk_rk (by omega) | exact sk_hh (by omega)) (by first | omega | fail) (by decide) (by first | assumption | rfl) rfl ?_
                    refine K_icmp_geN (tgt := 80) dX3_likedMost_74 (by decide) rfl (by first | omega | fail) (by first | omega | fail) (fun c74 => ?_) (fun c74 => ?_)
                    · first | refine K_incN (lv' := [(0, _), (1, _), (2, _), (3, _), (4, _), (5, _)]) dX3_likedMost_80 rfl (by decide) rfl rfl ?_ | refine K_iinc (lv' := [(0, _), (1, _), (2, _), (3, _), (4, _), (5, _)]) dX3_likedMost_80 rfl rfl (by decide) rfl rfl ?_
                      refine K_goto (tgt := 5) dX3_likedMost_83 (by decide) ?_
                      refine K_pick [0, 1, 2, 3, 4] rfl ?_
                      first | exact nx (some x) (I.stay (by omega)) | exact nx (some g) (I.take h1 h2 (fun y hy => by cases hy; omega))
                    · refine K_iload dX3_likedMost_77 rfl rfl ?_
                      refine K_istore_n (lv' := [(0, _), (1, _), (2, _), (3, _), (4, _), (5, _)]) dX3_likedMost_79 (by decide) rfl rfl ?_
                      first | refine K_incN (lv' := [(0, _), (1, _), (2, _), (3, _), (4, _), (5, _)]) dX3_likedMost_80 rfl (by decide) rfl rfl ?_ | refine K_iinc (lv' := [(0, _), (1, _), (2, _), (3, _), (4, _), (5, _)]) dX3_likedMost_80 rfl rfl (by decide) rfl rfl ?_
                      refine K_goto (tgt := 5) dX3_likedMost_83 (by decide) ?_
                      refine K_pick [0, 1, 2, 3, 4] rfl ?_
                      first | exact nx (some x) (I.stay (by omega)) | exact nx (some g) (I.take h1 h2 (fun y hy => by cases hy; omega))
set_option maxRecDepth 100000 in
theorem c_X3_likedMost {d : Nat} (hd : 4 ≤ d) {S : GS} {N : Mem} {K : Mej} (R : RX S N K) (w : WF S) {L f : Nat} (hf : f < s_n S) (hL : L < 2 ^ s_n S) : CK d mX3_likedMost [.ref 0, .int (nI f), .int (nI L)] N K (PX (some (.int (oI (fo S L f)))) N K) := by
  refine CK.start [(0, _), (1, _), (2, _)] (plainFor_of_name (by decide)) (Nat.le_of_ble_eq_true rfl) rfl ?_
  refine K_iconst (v := (-1)) dX3_likedMost_0 (by decide) rfl ?_
  refine K_istore_n (lv' := [(0, _), (1, _), (2, _), (3, _)]) dX3_likedMost_1 (by decide) rfl rfl ?_
  refine K_iconst (v := nI 0) dX3_likedMost_2 (by decide) rfl ?_
  refine K_istore (lv' := [(0, _), (1, _), (2, _), (3, _), (4, _)]) dX3_likedMost_3 (by decide) rfl rfl ?_
  exact l_X3_likedMost hd R w hf hL (s_n S) 0 none (by omega) (fun g hg => absurd hg (Nat.not_lt_zero g))
def PFW (S : GS) (L : Nat) (N : Mem) (K : Mej) : PK := fun r N1 K1 => r = some (.int (oI (lv S L))) ∧ (∀ i, i ≠ 5 → N1 i = N i) ∧ (lv S L = none → ∀ f, f < s_n S → L.testBit f = true → N1 5 f = oI (fo S L f)) ∧ K1 = K
theorem fo_ob {S : GS} (w : WF S) {L f : Nat} (hf : f < 10) (hL : L < 2 ^ s_n S) : oB (fo S L f) := fun g hg => by
  have hn := w.1.1
  have := bit_lt hL (fo_some w hf hg).1
  omega
theorem l_X3_firstWithoutHome {d : Nat} (hd : 5 ≤ d) {S : GS} {N : Mem} {K : Mej} (R : RX S N K) (w : WF S) {L : Nat} (hL : L < 2 ^ s_n S) :
    ∀ (k f : Nat) (N1 : Mem), f + k = s_n S → (∀ i, i ≠ 5 → N1 i = N i) → (∀ j, j < f → L.testBit j = true → fo S L j ≠ none ∧ N1 5 j = oI (fo S L j)) → EK d mX3_firstWithoutHome (PFW S L N K) 2 [(0, .ref 0), (1, .int (nI L)), (2, .int (nI f))] [] N1 K
  | 0, f, N1, e, hF, hj => by
    have hn := w.1.1
    have R1 : RX S N1 K := R.frame (fun i hi => hF i (by omega)) (fun _ _ => rfl)
    have h7 := R1.1.1
    have hf : f = s_n S := by omega
    subst hf
    have hl : lv S L = none := fnd_none (fun j h1 => by
      cases e2 : L.testBit j with
      | false => rfl
      | true =>
        have := (hj j h1 e2).1
        cases e3 : fo S L j with
        | none => exact absurd e3 this
        | some y => rfl)
    refine K_iload_n dX3_firstWithoutHome_2 rfl rfl ?_
    refine K_aload_n dX3_firstWithoutHome_3 rfl rfl ?_
    refine K_getI dX3_firstWithoutHome_4 fl_X3_42 (by first | rfl | exact sk_rk (by omega) | exact sk_hh (by omega)) rfl (by first | assumption | rfl) rfl ?_
    refine K_icmp_geN (tgt := 49) dX3_firstWithoutHome_7 (by decide) rfl (by first | omega | fail) (by first | omega | fail) (fun c7 => ?_) (fun c7 => ?_)
    · refine K_iconst (v := (-1)) dX3_firstWithoutHome_49 (by decide) rfl ?_
      refine K_iret dX3_firstWithoutHome_50 rfl ?_
      exact ⟨by rw [hl]; rfl, hF, fun _ f2 h1 h2 => (hj f2 h1 h2).2, rfl⟩
    · omega
  | k + 1, f, N1, e, hF, hj => by
    have hn := w.1.1
    have p := p10 hn
    have R1 : RX S N1 K := R.frame (fun i hi => hF i (by omega)) (fun _ _ => rfl)
    have h7 := R1.1.1
    have hfn : f < s_n S := by omega
    have ob := fo_ob w (L := L) (f := f) (by omega) hL
    have hz : ∀ j, j < f → (L.testBit j && (fo S L j).isNone) = false := fun j h1 => by
      cases e2 : L.testBit j with
      | false => rfl
      | true =>
        have := (hj j h1 e2).1
        cases e3 : fo S L j with
        | none => exact absurd e3 this
        | some y => rfl
    refine K_iload_n dX3_firstWithoutHome_2 rfl rfl ?_
    refine K_aload_n dX3_firstWithoutHome_3 rfl rfl ?_
    refine K_getI dX3_firstWithoutHome_4 fl_X3_42 (by first | rfl | exact sk_rk (by omega) | exact sk_hh (by omega)) rfl (by first | assumption | exact sM_eq _ _ _ _ | rfl) rfl ?_
    refine K_icmp_geN (tgt := 49) dX3_firstWithoutHome_7 (by decide) rfl (by first | omega | fail) (by first | omega | fail) (fun c7 => ?_) (fun c7 => ?_)
    · omega
    · refine K_iload_n dX3_firstWithoutHome_10 rfl rfl ?_
      refine K_iload_n dX3_firstWithoutHome_11 rfl rfl ?_
      first | refine K_shrN dX3_firstWithoutHome_12 (by first | omega | fail) (by first | omega | fail) rfl ?_ | refine K_ishr dX3_firstWithoutHome_12 rfl ?_
      refine K_iconst (v := nI 1) dX3_firstWithoutHome_13 (by decide) rfl ?_
      first | refine K_bitN dX3_firstWithoutHome_14 rfl ?_ | refine K_andN dX3_firstWithoutHome_14 rfl ?_ | refine K_iand dX3_firstWithoutHome_14 rfl ?_
      refine K_iconst (v := nI 1) dX3_firstWithoutHome_15 (by decide) rfl ?_
      refine K_icmp_neB1 (tgt := 43) dX3_firstWithoutHome_16 (by decide) rfl (fun c16 => ?_) (fun c16 => ?_)
      · first | refine K_incN (lv' := [(0, _), (1, _), (2, _)]) dX3_firstWithoutHome_43 rfl (by decide) rfl rfl ?_ | refine K_iinc (lv' := [(0, _), (1, _), (2, _)]) dX3_firstWithoutHome_43 rfl rfl (by decide) rfl rfl ?_
        refine K_goto (tgt := 2) dX3_firstWithoutHome_46 (by decide) ?_
        first | exact l_X3_firstWithoutHome hd R w hL k (f + 1) N1 (by omega) hF (fun j h1 h2 => by
          rcases Nat.lt_succ_iff_lt_or_eq.mp h1 with h1 | rfl
          · exact hj j h1 h2
          · exact absurd h2 (by rw [c16]; decide)) | exact l_X3_firstWithoutHome hd R w hL k (f + 1) _ (by omega) (fun i hi => (sM_row hi).trans (hF i hi)) (fun j h1 h2 => by
          rcases Nat.lt_succ_iff_lt_or_eq.mp h1 with h1 | rfl
          · rw [sM_ne (Or.inr (by omega))]; exact hj j h1 h2
          · exact ⟨c38, sM_eq _ _ _ _⟩)
      · refine K_aload_n dX3_firstWithoutHome_19 rfl rfl ?_
        refine K_getR (r := 5) dX3_firstWithoutHome_20 fl_X3_25 rfl rfl rfl rfl ?_
        refine K_iload_n dX3_firstWithoutHome_23 rfl rfl ?_
        refine K_aload_n dX3_firstWithoutHome_24 rfl rfl ?_
        refine K_iload_n dX3_firstWithoutHome_25 rfl rfl ?_
        refine K_iload_n dX3_firstWithoutHome_26 rfl rfl ?_
        refine K_cv (ci := 3) (d1 := d - 1) [_, _] dX3_firstWithoutHome_27 ml_X3_261 (by decide) rfl rfl rfl (Nat.le_of_ble_eq_true rfl) (c_X3_likedMost (by omega) R1 w hfn hL) (by omega) rfl ?_
        refine K_iast dX3_firstWithoutHome_30 (by first | rfl | exact sk_rk (by omega) | exact sk_hh (by omega)) (by first | omega | fail) (by decide) rfl ?_
        refine K_aload_n dX3_firstWithoutHome_31 rfl rfl ?_
        refine K_getR (r := 5) dX3_firstWithoutHome_32 fl_X3_25 rfl rfl rfl rfl ?_
        refine K_iload_n dX3_firstWithoutHome_35 rfl rfl ?_
        refine K_iald dX3_firstWithoutHome_36 (by first | rfl | exact sk_rk (by omega) | exact sk_hh (by omega)) (by first | omega | fail) (by decide) (by first | assumption | exact sM_eq _ _ _ _ | rfl) rfl ?_
        refine K_iconst (v := (-1)) dX3_firstWithoutHome_37 (by decide) rfl ?_
        refine K_icmp_neO (tgt := 43) dX3_firstWithoutHome_38 (by decide) rfl (by first | assumption | fail) (fun c38 => ?_) (fun c38 => ?_)
        · first | refine K_incN (lv' := [(0, _), (1, _), (2, _)]) dX3_firstWithoutHome_43 rfl (by decide) rfl rfl ?_ | refine K_iinc (lv' := [(0, _), (1, _), (2, _)]) dX3_firstWithoutHome_43 rfl rfl (by decide) rfl rfl ?_
          refine K_goto (tgt := 2) dX3_firstWithoutHome_46 (by decide) ?_
          first | exact l_X3_firstWithoutHome hd R w hL k (f + 1) N1 (by omega) hF (fun j h1 h2 => by
            rcases Nat.lt_succ_iff_lt_or_eq.mp h1 with h1 | rfl
            · exact hj j h1 h2
            · exact absurd h2 (by rw [c16]; decide)) | exact l_X3_firstWithoutHome hd R w hL k (f + 1) _ (by omega) (fun i hi => (sM_row hi).trans (hF i hi)) (fun j h1 h2 => by
            rcases Nat.lt_succ_iff_lt_or_eq.mp h1 with h1 | rfl
            · rw [sM_ne (Or.inr (by omega))]; exact hj j h1 h2
            · exact ⟨c38, sM_eq _ _ _ _⟩)
        · refine K_iload_n dX3_firstWithoutHome_41 rfl rfl ?_
          refine K_iret dX3_firstWithoutHome_42 rfl ?_
          have hl : lv S L = some f := fnd_first (by rw [show L.testBit f = true from by simpa using c16, c38]; rfl) hz hfn
          exact ⟨by rw [hl]; rfl, fun i hi => (sM_row hi).trans (hF i hi), (fun z => by rw [hl] at z; cases z), rfl⟩
set_option maxRecDepth 100000 in
theorem c_X3_firstWithoutHome {d : Nat} (hd : 5 ≤ d) {S : GS} {N : Mem} {K : Mej} (R : RX S N K) (w : WF S) {L : Nat} (hL : L < 2 ^ s_n S) : CK d mX3_firstWithoutHome [.ref 0, .int (nI L)] N K (PFW S L N K) := by
  refine CK.start [(0, _), (1, _)] (plainFor_of_name (by decide)) (Nat.le_of_ble_eq_true rfl) rfl ?_
  refine K_iconst (v := nI 0) dX3_firstWithoutHome_0 (by decide) rfl ?_
  refine K_istore_n (lv' := [(0, _), (1, _), (2, _)]) dX3_firstWithoutHome_1 (by decide) rfl rfl ?_
  exact l_X3_firstWithoutHome hd R w hL (s_n S) 0 N (by omega) (fun _ _ => rfl) (fun j hj => absurd hj (Nat.not_lt_zero j))
