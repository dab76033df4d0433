/-! Changes of the ghost state, and RX over them -/
def gN (S : GS) (k i v : Nat) : GS := (fun a b => if a = k ∧ b = i then v else S.1 a b, S.2.1, S.2.2.1, S.2.2.2)
def gB (S : GS) (k i j : Nat) (v : Bool) : GS := (S.1, fun a b c => if a = k ∧ b = i ∧ c = j then v else S.2.1 a b c, S.2.2.1, S.2.2.2)
def gP (S : GS) (k i j : Nat) (v : Option Nat) : GS := (S.1, S.2.1, fun a b c => if a = k ∧ b = i ∧ c = j then v else S.2.2.1 a b c, S.2.2.2)
def gZ (S : GS) (f : Nat) (v : Int32) : GS := (S.1, S.2.1, S.2.2.1, fun a => if a = f then v else S.2.2.2 a)
theorem sM_row {N : Mem} {a k : Nat} {v : Int32} {i : Nat} (h : i ≠ a) : sM N a k v i = N i := va_up_ne _ _ h
/-- RX speaks of the rows 0, 2, 3, 4, 20 .. 39 and of the places alone -/
theorem RX.frame {S : GS} {N N1 : Mem} {K K1 : Mej} (R : RX S N K) (h : ∀ i, i < 5 ∨ (20 ≤ i ∧ i < 40) → N1 i = N i) (hK : ∀ f, f < 10 → K1 11 f = K 11 f) : RX S N1 K1 := by
  refine ⟨?_, fun f hf => ?_, fun f g hf hg => ?_, fun f hf => ?_, fun y f hy hf => ?_, fun i hi => ?_, fun f hf => ?_⟩
  · rw [h 0 (by omega)]; exact R.1
  · rw [h (20 + f) (by omega)]; exact R.2.1 f hf
  · rw [h (30 + f) (by omega)]; exact R.2.2.1 f g hf hg
  · rw [h 2 (by omega)]; exact R.2.2.2.1 f hf
  · rw [h 3 (by omega)]; exact R.2.2.2.2.1 y f hy hf
  · rw [h 4 (by omega)]; exact R.2.2.2.2.2.1 i hi
  · rw [hK f hf]; exact R.2.2.2.2.2.2 f hf
theorem RX.scr {S : GS} {N : Mem} {K : Mej} (R : RX S N K) {a k : Nat} {v : Int32} (h : (5 ≤ a ∧ a < 20) ∨ 40 ≤ a) : RX S (sM N a k v) K := R.frame (fun i hi => sM_row (by omega)) (fun _ _ => rfl)
theorem RX.pl {S : GS} {N : Mem} {K : Mej} (R : RX S N K) {f : Nat} (v : Option Nat) : RX (gP S 0 f 0 v) (sM N 2 f (oI v)) K := by
  refine ⟨?_, fun f' hf => ?_, fun f' g hf hg => ?_, fun f' hf => ?_, fun y f' hy hf => ?_, fun i hi => ?_, R.2.2.2.2.2.2⟩
  · rw [sM_row (by decide)]; exact R.1
  · rw [sM_row (by omega)]; exact R.2.1 f' hf
  · rw [sM_row (by omega)]; exact R.2.2.1 f' g hf hg
  · rw [sM_at]
    by_cases e : f' = f
    · subst e
      simp [s_pl, gP]
    · rw [if_neg (by omega), R.2.2.2.1 f' hf]
      simp [s_pl, gP, e]
  · rw [sM_row (by decide)]; exact (R.2.2.2.2.1 y f' hy hf).trans (by simp [s_bk, gP])
  · rw [sM_row (by decide)]; exact R.2.2.2.2.2.1 i hi
theorem RX.ch {S : GS} {N : Mem} {K : Mej} (R : RX S N K) (b : Bool) : RX (gB S 3 0 0 b) (sM N 0 13 (bI b)) K := by
  refine ⟨?_, fun f' hf => ?_, fun f' g hf hg => ?_, fun f' hf => ?_, fun y f' hy hf => ?_, fun i hi => ?_, R.2.2.2.2.2.2⟩
  · obtain ⟨a1, a2, a3, a4, a5, a6, a7⟩ := R.1
    exact ⟨a1, a2, a3, a4, a5, a6, by simp [s_ch, gB, sM_at]⟩
  · rw [sM_row (by omega)]
    obtain ⟨b1, b2, b3, b4, b5, b6, b7, b8, b9, b10, ⟨m, hm, b11, hb⟩, b12⟩ := R.2.1 f' hf
    exact ⟨b1, b2, b3, b4, b5.trans (by simp [s_pt, gB]), b6.trans (by simp [s_pr, gB]), b7, b8, b9, b10, ⟨m, hm, b11, fun g hg => (hb g hg).trans (by simp [s_br, gB])⟩, b12⟩
  · rw [sM_row (by omega)]; exact R.2.2.1 f' g hf hg
  · rw [sM_row (by decide)]; exact R.2.2.2.1 f' hf
  · rw [sM_row (by decide)]; exact R.2.2.2.2.1 y f' hy hf
  · rw [sM_row (by decide)]; exact R.2.2.2.2.2.1 i hi
theorem RX.po {S : GS} {N : Mem} {K : Mej} (R : RX S N K) {f : Nat} (hf0 : f < 10) (v : Int32) : RX (gZ S f v) (sM N (20 + f) 12 v) K := by
  refine ⟨?_, fun f' hf => ?_, fun f' g hf hg => ?_, fun f' hf => ?_, fun y f' hy hf => ?_, fun i hi => ?_, R.2.2.2.2.2.2⟩
  · rw [sM_row (by omega)]; exact R.1
  · obtain ⟨b1, b2, b3, b4, b5, b6, b7, b8, b9, b10, ⟨m, hm, b11, hb⟩, b12⟩ := R.2.1 f' hf
    refine ⟨?_, ?_, ?_, ?_, ?_, ?_, ?_, ?_, ?_, ?_, ⟨m, hm, ?_, hb⟩, ?_⟩ <;> rw [sM_at]
    · rw [if_neg (by omega)]; exact b1
    · rw [if_neg (by omega)]; exact b2
    · rw [if_neg (by omega)]; exact b3
    · rw [if_neg (by omega)]; exact b4
    · rw [if_neg (by omega)]; exact b5
    · rw [if_neg (by omega)]; exact b6
    · rw [if_neg (by omega)]; exact b7
    · rw [if_neg (by omega)]; exact b8
    · rw [if_neg (by omega)]; exact b9
    · rw [if_neg (by omega)]; exact b10
    · rw [if_neg (by omega)]; exact b11
    · by_cases e : f' = f
      · subst e
        simp [s_po, gZ]
      · rw [if_neg (by omega), b12]
        simp [s_po, gZ, e]
  · rw [sM_row (by omega)]; exact R.2.2.1 f' g hf hg
  · rw [sM_row (by omega)]; exact R.2.2.2.1 f' hf
  · rw [sM_row (by omega)]; exact R.2.2.2.2.1 y f' hy hf
  · rw [sM_row (by omega)]; exact R.2.2.2.2.2.1 i hi
/-- what the class may change: nothing of the reference's -/
def FX (N N1 : Mem) : Prop := ∀ i, 40 ≤ i → N1 i = N i
theorem FX.rf (N : Mem) : FX N N := fun _ _ => rfl
theorem FX.set {N N1 : Mem} (h : FX N N1) {a k : Nat} {v : Int32} (ha : a < 40) : FX N (sM N1 a k v) := fun i hi => (sM_row (by omega)).trans (h i hi)
theorem FX.trans {N N1 N2 : Mem} (h : FX N N1) (h2 : FX N1 N2) : FX N N2 := fun i hi => (h2 i hi).trans (h i hi)
set_option maxRecDepth 100000 in
theorem c_X3_keepRow {d : Nat} {N : Mem} {K : Mej} {c : Nat} (hc : c ≤ 10) : CK d mX3_keepRow [.ref 0, .int (nI c)] N K (PX none (if 0 < c then sM N 0 9 (nI c) else N) K) := by
  refine CK.start [(0, _), (1, _)] (plainFor_of_name (by decide)) (Nat.le_of_ble_eq_true rfl) rfl ?_
  refine K_iload_n dX3_keepRow_0 rfl rfl ?_
  refine K_if_leN (tgt := 9) dX3_keepRow_1 (by decide) rfl (by first | omega | fail) (fun c1 => ?_) (fun c1 => ?_)
  · refine K_ret dX3_keepRow_9 rfl ?_
    first | (rw [if_neg (by omega)]; exact ⟨rfl, rfl, rfl⟩) | (rw [if_pos c1]; exact ⟨rfl, rfl, rfl⟩)
  · refine K_aload_n dX3_keepRow_4 rfl rfl ?_
    refine K_iload_n dX3_keepRow_5 rfl rfl ?_
    refine K_putI dX3_keepRow_6 fl_X3_49 (by first | rfl | exact sk_rk (by omega) | exact sk_hh (by omega)) rfl rfl rfl rfl ?_
    refine K_ret dX3_keepRow_9 rfl ?_
    first | (rw [if_neg (by omega)]; exact ⟨rfl, rfl, rfl⟩) | (rw [if_pos c1]; exact ⟨rfl, rfl, rfl⟩)
theorem l_X3_clearPlan {d : Nat} {N : Mem} {K : Mej} : ∀ k i : Nat, i + k = 10 → EK d mX3_clearPlan (PX none (fillM N 2 10 (-1)) K) 2 [(0, .ref 0), (1, .int (nI i))] [] (fillM N 2 i (-1)) K
  | 0, i, h => by
    obtain rfl : i = 10 := by omega
    refine K_iload_n dX3_clearPlan_2 rfl rfl ?_
    refine K_bipush (v := nI 10) dX3_clearPlan_3 (by decide) rfl ?_
    refine K_icmp_geN (tgt := 21) dX3_clearPlan_5 (by decide) rfl (by first | omega | fail) (by first | omega | fail) (fun c5 => ?_) (fun c5 => ?_)
    · refine K_ret dX3_clearPlan_21 rfl ?_
      exact ⟨rfl, rfl, rfl⟩
    · omega
  | k + 1, i, h => by
    have ih := l_X3_clearPlan (d := d) (N := N) (K := K) k (i + 1) (by omega)
    refine K_iload_n dX3_clearPlan_2 rfl rfl ?_
    refine K_bipush (v := nI 10) dX3_clearPlan_3 (by decide) rfl ?_
    refine K_icmp_geN (tgt := 21) dX3_clearPlan_5 (by decide) rfl (by first | omega | fail) (by first | omega | fail) (fun c5 => ?_) (fun c5 => ?_)
    · omega
    · refine K_aload_n dX3_clearPlan_8 rfl rfl ?_
      refine K_getR (r := 2) dX3_clearPlan_9 fl_X3_15 rfl rfl rfl rfl ?_
      refine K_iload_n dX3_clearPlan_12 rfl rfl ?_
      refine K_iconst (v := (-1)) dX3_clearPlan_13 (by decide) rfl ?_
      refine K_iast dX3_clearPlan_14 (by first | rfl | exact sk_rk (by omega) | exact sk_hh (by omega)) (by first | omega | fail) (by decide) rfl ?_
      first | refine K_incN (lv' := [(0, _), (1, _)]) dX3_clearPlan_15 rfl (by decide) rfl rfl ?_ | refine K_iinc (lv' := [(0, _), (1, _)]) dX3_clearPlan_15 rfl rfl (by decide) rfl rfl ?_
      refine K_goto (tgt := 2) dX3_clearPlan_18 (by decide) ?_
      rw [fillM_s]
      exact ih
set_option maxRecDepth 100000 in
theorem c_X3_clearPlan {d : Nat} {N : Mem} {K : Mej} : CK d mX3_clearPlan [.ref 0] N K (PX none (fillM N 2 10 (-1)) K) := by
  refine CK.start [(0, _)] (plainFor_of_name (by decide)) (Nat.le_of_ble_eq_true rfl) rfl ?_
  refine K_iconst (v := nI 0) dX3_clearPlan_0 (by decide) rfl ?_
  refine K_istore_n (lv' := [(0, _), (1, _)]) dX3_clearPlan_1 (by decide) rfl rfl ?_
  have h := l_X3_clearPlan (d := d) (N := N) (K := K) 10 0 rfl
  rw [fillM_0] at h
  exact h
/-- one pays another -/
def payG (S : GS) (a b : Nat) (sg : Int32) : GS := gZ (gZ S a (s_po S a - sg * nI (s_wo S b))) b (s_po (gZ S a (s_po S a - sg * nI (s_wo S b))) b + sg * nI (s_wo S b))
set_option maxRecDepth 100000 in
theorem c_X3_pay {d : Nat} (hd : 2 ≤ d) {S : GS} {N : Mem} {K : Mej} (R : RX S N K) (w : WF S) {a b : Nat} {sg : Int32} (ha : a < s_n S) (hb : b < s_n S) : CK d mX3_pay [.ref 0, .int (nI a), .int (nI b), .int sg] N K (fun r N1 K1 => r = none ∧ RX (payG S a b sg) N1 K1 ∧ FX N N1 ∧ K1 = K) := by
  have hn := w.1.1
  obtain ⟨-, b2, b3, -⟩ := R.2.1 b (by omega)
  obtain ⟨wb1, wb2, -⟩ := w.2.1 b hb
  have ha12 : N (20 + a) 12 = s_po S a := (R.2.1 a (by omega)).2.2.2.2.2.2.2.2.2.2.2
  have R1 := R.po (f := a) (by omega) (s_po S a - sg * nI (s_wo S b))
  have hb12 := (R1.2.1 b (by omega)).2.2.2.2.2.2.2.2.2.2.2
  have R2 := R1.po (f := b) (by omega) (s_po (gZ S a (s_po S a - sg * nI (s_wo S b))) b + sg * nI (s_wo S b))
  have hw : CK (d - 1) mX0_worth [.ref (20 + b)] N K (PX (some (.int (nI (s_wo S b)))) N K) := c_X0_worth (by omega) (by omega) b2 b3 wb1 (by omega)
  refine CK.start [(0, _), (1, _), (2, _), (3, _)] (plainFor_of_name (by decide)) (Nat.le_of_ble_eq_true rfl) rfl ?_
  refine K_aload_n dX3_pay_0 rfl rfl ?_
  refine K_getR (r := 1) dX3_pay_1 fl_X3_11 rfl rfl rfl rfl ?_
  refine K_iload_n dX3_pay_4 rfl rfl ?_
  refine K_hh dX3_pay_5 (by first | omega | fail) rfl ?_
  refine K_cv (ci := 0) (d1 := d - 1) [] dX3_pay_6 ml_X3_140 (by decide) (sk_hh (by omega)) rfl rfl (Nat.le_of_ble_eq_true rfl) hw (by omega) rfl ?_
  refine K_istore (lv' := [(0, _), (1, _), (2, _), (3, _), (4, _)]) dX3_pay_9 (by decide) rfl rfl ?_
  refine K_aload_n dX3_pay_11 rfl rfl ?_
  refine K_getR (r := 1) dX3_pay_12 fl_X3_11 rfl rfl rfl rfl ?_
  refine K_iload_n dX3_pay_15 rfl rfl ?_
  refine K_hh dX3_pay_16 (by first | omega | fail) rfl ?_
  refine K_dup dX3_pay_17 rfl rfl ?_
  refine K_getI dX3_pay_18 fl_X3_143 (by first | rfl | exact sk_rk (by omega) | exact sk_hh (by omega)) rfl (by first | assumption | rfl) rfl ?_
  refine K_iload_n dX3_pay_21 rfl rfl ?_
  refine K_iload dX3_pay_22 rfl rfl ?_
  refine K_imul dX3_pay_24 rfl ?_
  first | refine K_subN dX3_pay_25 (by first | omega | fail) rfl ?_ | refine K_isub dX3_pay_25 rfl ?_
  refine K_putI dX3_pay_26 fl_X3_143 (by first | rfl | exact sk_rk (by omega) | exact sk_hh (by omega)) rfl rfl rfl rfl ?_
  refine K_aload_n dX3_pay_29 rfl rfl ?_
  refine K_getR (r := 1) dX3_pay_30 fl_X3_11 rfl rfl rfl rfl ?_
  refine K_iload_n dX3_pay_33 rfl rfl ?_
  refine K_hh dX3_pay_34 (by first | omega | fail) rfl ?_
  refine K_dup dX3_pay_35 rfl rfl ?_
  refine K_getI dX3_pay_36 fl_X3_143 (by first | rfl | exact sk_rk (by omega) | exact sk_hh (by omega)) rfl (by first | assumption | rfl) rfl ?_
  refine K_iload_n dX3_pay_39 rfl rfl ?_
  refine K_iload dX3_pay_40 rfl rfl ?_
  refine K_imul dX3_pay_42 rfl ?_
  refine K_iadd dX3_pay_43 rfl ?_
  refine K_putI dX3_pay_44 fl_X3_143 (by first | rfl | exact sk_rk (by omega) | exact sk_hh (by omega)) rfl rfl rfl rfl ?_
  refine K_ret dX3_pay_47 rfl ?_
  exact ⟨rfl, R2, ((FX.rf N).set (by omega)).set (by omega), rfl⟩
