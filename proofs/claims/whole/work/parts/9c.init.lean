def T3i (T : Nat → Shp) : Nat → Shp := (sR (sR (sR (sR (sR (sR (sR (sR (sR (sR (sR (sR (sR (sR (sR (sR (sR (sR (sR (sR (sR (sR (sR (sR (sR (sR (sR (sR (sR (sR (sR (sR (sR (sR (sR (sR (sR (sR (sR (sR (sR T (1) (.inr (.inr (10, fun _ => none)))) (0) (.inl (3, (va_up (fun _ => none) 0 (some (1)))))) (2) (.inr (.inl (0, 10)))) (0) (.inl (3, (va_up (va_up (fun _ => none) 0 (some (1))) 1 (some (2)))))) (3) (.inr (.inl (0, 600)))) (0) (.inl (3, (va_up (va_up (va_up (fun _ => none) 0 (some (1))) 1 (some (2))) 2 (some (3)))))) (4) (.inr (.inl (0, 10)))) (0) (.inl (3, (va_up (va_up (va_up (va_up (fun _ => none) 0 (some (1))) 1 (some (2))) 2 (some (3))) 3 (some (4)))))) (5) (.inr (.inl (0, 10)))) (0) (.inl (3, (va_up (va_up (va_up (va_up (va_up (fun _ => none) 0 (some (1))) 1 (some (2))) 2 (some (3))) 3 (some (4))) 4 (some (5)))))) (6) (.inl (1, fun _ => none))) (1) (.inr (.inr (10, fun _ => none)))) (0) (.inl (3, (va_up (fun _ => none) 0 (some (1)))))) (2) (.inr (.inl (0, 10)))) (0) (.inl (3, (va_up (va_up (fun _ => none) 0 (some (1))) 1 (some (2)))))) (3) (.inr (.inl (0, 600)))) (0) (.inl (3, (va_up (va_up (va_up (fun _ => none) 0 (some (1))) 1 (some (2))) 2 (some (3)))))) (4) (.inr (.inl (0, 10)))) (0) (.inl (3, (va_up (va_up (va_up (va_up (fun _ => none) 0 (some (1))) 1 (some (2))) 2 (some (3))) 3 (some (4)))))) (5) (.inr (.inl (0, 10)))) (0) (.inl (3, (va_up (va_up (va_up (va_up (va_up (fun _ => none) 0 (some (1))) 1 (some (2))) 2 (some (3))) 3 (some (4))) 4 (some (5)))))) (6) (.inl (1, fun _ => none))) (7) (.inr (.inl (2, 10)))) (6) (.inl (1, (va_up (fun _ => none) 0 (some (7)))))) (8) (.inr (.inl (2, 100)))) (6) (.inl (1, (va_up (va_up (fun _ => none) 0 (some (7))) 1 (some (8)))))) (9) (.inr (.inl (2, 4608)))) (6) (.inl (1, (va_up (va_up (va_up (fun _ => none) 0 (some (7))) 1 (some (8))) 2 (some (9)))))) (10) (.inr (.inl (2, 1024)))) (6) (.inl (1, (va_up (va_up (va_up (va_up (fun _ => none) 0 (some (7))) 1 (some (8))) 2 (some (9))) 3 (some (10)))))) (11) (.inr (.inl (2, 1024)))) (6) (.inl (1, (va_up (va_up (va_up (va_up (va_up (fun _ => none) 0 (some (7))) 1 (some (8))) 2 (some (9))) 3 (some (10))) 4 (some (11)))))) (0) (.inl (3, (va_up (va_up (va_up (va_up (va_up (va_up (fun _ => none) 0 (some (1))) 1 (some (2))) 2 (some (3))) 3 (some (4))) 4 (some (5))) 5 (some (6)))))) (12) (.inl (2, fun _ => none))) (13) (.inr (.inl (0, 10)))) (12) (.inl (2, (va_up (fun _ => none) 0 (some (13)))))) (14) (.inr (.inl (0, 11)))) (12) (.inl (2, (va_up (va_up (fun _ => none) 0 (some (13))) 1 (some (14)))))) (15) (.inr (.inl (0, 1024)))) (12) (.inl (2, (va_up (va_up (va_up (fun _ => none) 0 (some (13))) 1 (some (14))) 2 (some (15)))))) (0) (.inl (3, (va_up (va_up (va_up (va_up (va_up (va_up (va_up (fun _ => none) 0 (some (1))) 1 (some (2))) 2 (some (3))) 3 (some (4))) 4 (some (5))) 5 (some (6))) 6 (some (12))))))
def N3i (N : Mem) : Mem := (sM (sM (sM (sM (sM (sM (sM (sM (zM (zM (zM (zM (sM (zM (zM (zM (zM (zM (zM (zM (zM (zM (zM (zM N (1)) (2)) (3)) (4)) (5)) (6)) (7)) (8)) (9)) (10)) (11)) (6) 5 (nI 0)) (12)) (13)) (14)) (15)) (12) 3 (nI 0)) (0) 7 (nI 0)) (0) 8 (nI 0)) (0) 9 (nI 0)) (0) 10 (nI 2)) (0) 11 (nI 10)) (0) 12 (nI 0)) (0) 13 (nI 0))
def hhN : Nat → Int32 := (upd (upd (upd (upd (upd (upd (upd (upd (upd (upd (upd (upd (fun _ => 0) 1 (nI 0)) 2 (nI 0)) 3 (nI 0)) 4 (nI 0)) 5 (nI 0)) 6 (nI 1)) 7 (nI 0)) 8 (nI 51)) 9 (nI 0)) 10 (nI 51)) 11 (nI 0)) 12 (nI 0))
def hf (f : Nat) : Nat → Option Nat := fun k => if k < f then some (16 + 2 * k) else none
def Tc (T0 : Nat → Shp) (f : Nat) : Nat → Shp := fun i => if i < 16 then (if i = 1 then .inr (.inr (10, hf f)) else T0 i) else if i % 2 = 0 then .inl (0, va_up (fun _ => none) 0 (some (i + 1))) else .inr (.inl (0, 10))
def Nc (N0 : Mem) (f : Nat) : Mem := fun i => if i < 16 then (if i = 2 then (fun j => if j < f then -1 else 0) else N0 i) else if i % 2 = 0 then hhN else fun _ => 0
theorem hf_s (f : Nat) : va_up (hf f) f (some (16 + 2 * f)) = hf (f + 1) := by
  funext k
  by_cases e : k = f
  · subst e
    simp [va_up, hf]
  · simp only [va_up, hf, e, if_false]
    by_cases h : k < f
    · rw [if_pos h, if_pos (by omega)]
    · rw [if_neg h, if_neg (by omega)]
theorem sM_self (M : Mem) (a k : Nat) (v : Int32) : sM M a k v a = upd (M a) k v := va_up_self _ _ _
theorem rl_c {nn : Nat} {v : Int32} (h : 0 < nn) : rl nn [(0, .ref 0), (1, .int v)] = true := by simp [rl, rv, h]
theorem rs_c {nn : Nat} {v : Int32} (h : 1 < nn) : rs nn [.int v, .ref 1] = true := by simp [rs, rv, h]
theorem rs_d {nn b : Nat} {v : Int32} (hb : b < nn) (h : 1 < nn) : rs nn [.ref b, .int v, .ref 1] = true := by simp [rs, rv, h, hb]
theorem A_nn {d mc ms : Nat} {mi : MI} {PO : PAt} {cells slots pc nn n1 : Nat} {lv : LV} {st : List Value} {T : Nat → Shp} {N : Mem} {K : Mej} (h : nn = n1) (k : EA d mc ms mi PO cells slots pc lv st n1 T N K) : EA d mc ms mi PO cells slots pc lv st nn T N K := by
  subst h; exact k
set_option maxRecDepth 100000 in
set_option maxHeartbeats 4000000 in
theorem l_X3_init {d mc ms : Nat} (hd : 3 ≤ d) {PO : PAt} {T0 : Nat → Shp} {N0 : Mem} {rf : Nat → Option Nat} (hT0 : T0 0 = .inl (3, rf)) (h0 : rf 0 = some 1) (h1 : rf 1 = some 2) (hT2 : T0 2 = .inr (.inl (0, 10))) (hz2 : N0 2 = fun _ => 0) (goal : ∀ K, (∀ f, f < 10 → K 7 f = pl11 f) → PO 36 (Tc T0 10) (Nc N0 10) K) :
    ∀ (k f : Nat) (K : Mej) (cells slots : Nat) {T : Nat → Shp} {N : Mem}, f + k = 10 → cells + 2 * k = mc → slots + 23 * k = ms → (∀ f, f < 10 → K 7 f = pl11 f) → (∀ i, i < 16 + 2 * f → Tc T0 f i = T i ∧ Nc N0 f i = N i ∧ K i = K i) → EA d mc ms mX3_init PO cells slots 106 [(0, .ref 0), (1, .int (nI f))] [] (16 + 2 * f) T N K
  | 0, f, K, cells, slots, T, N, e, hc, hs, hK, hcg => by
    obtain rfl : f = 10 := by omega
    refine A_congr hcg ?_
    refine A_iload_n dX3_init_106 rfl rfl ?_
    refine A_bipush (v := nI 10) dX3_init_107 (by decide) rfl ?_
    refine A_icmp_ge (tgt := 138) dX3_init_109 (by decide) rfl (fun c109 => ?_) (fun c109 => absurd (show nI 10 ≤ nI 10 by decide) c109)
    exact A_ret dX3_init_138 rfl (by omega) (by omega) (goal K hK)
  | k + 1, f, K, cells, slots, T, N, e, hc, hs, hK, hcg => by
    have hf10 : f < 10 := by omega
    refine A_congr hcg ?_
    refine A_iload_n dX3_init_106 rfl rfl ?_
    refine A_bipush (v := nI 10) dX3_init_107 (by decide) rfl ?_
    refine A_icmp_ge (tgt := 138) dX3_init_109 (by decide) rfl (fun c109 => ?_) (fun c109 => ?_)
    · rw [nI_leI (by decide) (by omega)] at c109
      omega
    refine A_aload_n dX3_init_112 rfl rfl ?_
    refine A_getR (r := 1) dX3_init_113 fl_X3_11 (by omega) (show Tc T0 f 0 = .inl (3, rf) from hT0) rfl h0 rfl ?_
    refine A_iload_n dX3_init_116 rfl rfl ?_
    refine A_new dX3_init_117 (by decide) wl_X3_9 wn_X0 wi_R0 rfl (rl_c (by omega)) (rs_c (by omega)) (by omega) (show slots + 13 ≤ ms by omega) ?_
    refine A_dup dX3_init_120 rfl rfl ?_
    refine A_callI (mc1 := 1) (ms1 := 10) (d1 := d - 1) dX3_init_121 ml_X3_65 (Nat.le_of_ble_eq_true rfl) (c_X0_init (d := d - 1) (by omega) (b := 16 + 2 * f) (by omega) (va_up_self _ _ _)) (by omega) (rl_c (by omega)) (rs_d (by omega) (by omega)) (by omega) (show slots + 13 + 10 ≤ ms by omega) rfl ?_
    rintro n1 T1 N1 K1 ⟨rfl, rfl, rfl, rfl⟩
    refine A_aast (m := 10) (rf := hf f) dX3_init_124 (by omega) ?_ (by omega) (va_up_self _ _ _) hf10 (by decide) rfl ?_
    · show va_up (va_up (va_up (Tc T0 f) _ _) _ _) _ _ 1 = _
      rw [va_up_ne _ _ (by omega), va_up_ne _ _ (by omega), va_up_ne _ _ (by omega)]
      rfl
    refine A_aload_n dX3_init_125 rfl rfl ?_
    refine A_getR (r := 2) (rf := rf) dX3_init_126 fl_X3_15 (by omega) ?_ rfl h1 rfl ?_
    · show va_up (va_up (va_up (va_up (Tc T0 f) _ _) _ _) _ _) 1 _ 0 = _
      rw [va_up_ne _ _ (by omega), va_up_ne _ _ (by omega), va_up_ne _ _ (by omega), va_up_ne _ _ (by omega)]
      exact hT0
    refine A_iload_n dX3_init_129 rfl rfl ?_
    refine A_iconst (v := (-1)) dX3_init_130 (by decide) rfl ?_
    refine A_iast (m := 10) dX3_init_131 (by omega) ?_ hf10 (by decide) rfl ?_
    · show va_up (va_up (va_up (va_up (Tc T0 f) _ _) _ _) _ _) 1 _ 2 = _
      rw [va_up_ne _ _ (by omega), va_up_ne _ _ (by omega), va_up_ne _ _ (by omega), va_up_ne _ _ (by omega)]
      exact hT2
    refine A_iinc (v := nI (f + 1)) (lv' := [(0, .ref 0), (1, .int (nI (f + 1)))]) dX3_init_132 rfl (nI_1 f) (by decide) rfl rfl ?_
    refine A_goto (tgt := 106) dX3_init_135 (by decide) ?_
    refine A_nn (show 16 + 2 * f + 1 + 1 = 16 + 2 * (f + 1) by omega) ?_
    refine l_X3_init (d := d) (mc := mc) (ms := ms) hd hT0 h0 h1 hT2 hz2 goal k (f + 1) _ (cells + 1 + 1) (slots + 13 + 10) (by omega) (by omega) (by omega) (fun g hg => ?_) (fun i hi => ⟨?_, ?_, rfl⟩)
    · show va_up (va_up K _ _) _ _ 7 g = _
      rw [va_up_ne _ _ (by omega), va_up_ne _ _ (by omega)]
      exact hK g hg
    · rw [hf_s]
      show Tc T0 (f + 1) i = va_up (va_up (va_up (va_up (Tc T0 f) (16 + 2 * f) _) (16 + 2 * f + 1) _) (16 + 2 * f) _) 1 _ i
      by_cases e1 : i = 1
      · subst e1
        rw [va_up_self]
        rfl
      · rw [va_up_ne _ _ e1]
        by_cases e2 : i = 16 + 2 * f
        · subst e2
          rw [va_up_self]
          unfold Tc
          rw [if_neg (by omega), if_pos (by omega)]
        · rw [va_up_ne _ _ e2]
          by_cases e3 : i = 16 + 2 * f + 1
          · subst e3
            rw [va_up_self]
            unfold Tc
            rw [if_neg (by omega), if_neg (by omega)]
          · rw [va_up_ne _ _ e3, va_up_ne _ _ e2]
            unfold Tc
            rw [if_neg e1, if_neg e1]
    · by_cases e1 : i = 2
      · subst e1
        rw [sM_self]
        simp only [sM_row (show (2 : Nat) ≠ 16 + 2 * f by omega)]
        show Nc N0 (f + 1) 2 = upd (va_up (va_up (Nc N0 f) (16 + 2 * f) _) (16 + 2 * f + 1) _ 2) f (-1)
        rw [va_up_ne _ _ (by omega), va_up_ne _ _ (by omega)]
        funext j
        show (if j < f + 1 then (-1 : Int32) else 0) = if j = f then -1 else if j < f then -1 else 0
        by_cases h : j = f
        · rw [if_pos (by omega), if_pos h]
        · by_cases h2 : j < f
          · rw [if_pos (by omega), if_neg h, if_pos h2]
          · rw [if_neg (by omega), if_neg h, if_neg h2]
      · rw [sM_row e1]
        by_cases e2 : i = 16 + 2 * f
        · subst e2
          simp only [sM_self]
          show Nc N0 (f + 1) (16 + 2 * f) = _
          rw [show zM (zM (Nc N0 f) (16 + 2 * f)) (16 + 2 * f + 1) (16 + 2 * f) = fun _ => 0 from (va_up_ne _ _ (by omega)).trans (va_up_self _ _ _)]
          unfold Nc
          rw [if_neg (by omega), if_pos (by omega)]
          rfl
        · simp only [sM_row e2]
          show Nc N0 (f + 1) i = va_up (va_up (Nc N0 f) (16 + 2 * f) _) (16 + 2 * f + 1) _ i
          by_cases e3 : i = 16 + 2 * f + 1
          · subst e3
            rw [va_up_self]
            unfold Nc
            rw [if_neg (by omega), if_neg (by omega)]
          · rw [va_up_ne _ _ e3, va_up_ne _ _ e2]
            unfold Nc
            rw [if_neg e1, if_neg e1]
set_option maxRecDepth 100000 in
theorem c_X3_init {d : Nat} (hd : 3 ≤ d) {T : Nat → Shp} {N : Mem} {K : Mej} (hT : T 0 = .inl (3, fun _ => none)) : CA d 35 8691 mX3_init [.ref 0] 1 T N K (fun n1 T1 N1 K1 => n1 = 36 ∧ T1 = Tc (T3i T) 10 ∧ N1 = Nc (N3i N) 10 ∧ ∀ f, f < 10 → K1 7 f = pl11 f) := by
  refine CA.start [(0, .ref 0)] (plainFor_of_name (by decide)) (Nat.le_of_ble_eq_true rfl) rfl ?_
  refine A_aload_n dX3_init_0 rfl rfl ?_
  refine A_objI dX3_init_1 ml_X3_1 (Nat.le_of_ble_eq_true rfl) (by omega) rfl ?_
  refine A_aload_n dX3_init_4 rfl rfl ?_
  refine A_bipush (v := nI 10) dX3_init_5 (by decide) rfl ?_
  refine A_newq dX3_init_7 wl_X3_9 (by decide) rfl rfl rfl (by decide) (by decide) ?_
  refine A_putR (ty := .array (.object "HomeRings$Household")) dX3_init_10 fk_X3_11 (by decide) hT (by decide) rfl rfl rfl rfl rfl (fun _ => rfl) (fun _ => rfl) rfl ?_
  refine A_aload_n dX3_init_13 rfl rfl ?_
  refine A_bipush (v := nI 10) dX3_init_14 (by decide) rfl ?_
  refine A_newi dX3_init_16 (by decide) rfl rfl rfl (by decide) (by decide) ?_
  refine A_putR (ty := .array .int) dX3_init_18 fk_X3_15 (by decide) rfl (by decide) rfl rfl rfl rfl rfl (fun _ => rfl) (fun _ => rfl) rfl ?_
  refine A_aload_n dX3_init_21 rfl rfl ?_
  refine A_sipush (v := nI 600) dX3_init_22 (by decide) rfl ?_
  refine A_newi dX3_init_25 (by decide) rfl rfl rfl (by decide) (by decide) ?_
  refine A_putR (ty := .array .int) dX3_init_27 fk_X3_19 (by decide) rfl (by decide) rfl rfl rfl rfl rfl (fun _ => rfl) (fun _ => rfl) rfl ?_
  refine A_aload_n dX3_init_30 rfl rfl ?_
  refine A_bipush (v := nI 10) dX3_init_31 (by decide) rfl ?_
  refine A_newi dX3_init_33 (by decide) rfl rfl rfl (by decide) (by decide) ?_
  refine A_putR (ty := .array .int) dX3_init_35 fk_X3_22 (by decide) rfl (by decide) rfl rfl rfl rfl rfl (fun _ => rfl) (fun _ => rfl) rfl ?_
  refine A_aload_n dX3_init_38 rfl rfl ?_
  refine A_bipush (v := nI 10) dX3_init_39 (by decide) rfl ?_
  refine A_newi dX3_init_41 (by decide) rfl rfl rfl (by decide) (by decide) ?_
  refine A_putR (ty := .array .int) dX3_init_43 fk_X3_25 (by decide) rfl (by decide) rfl rfl rfl rfl rfl (fun _ => rfl) (fun _ => rfl) rfl ?_
  refine A_aload_n dX3_init_46 rfl rfl ?_
  refine A_new dX3_init_47 (by decide) wl_X3_28 wn_X1 wi_R1 rfl rfl rfl (by decide) (by decide) ?_
  refine A_dup dX3_init_50 rfl rfl ?_
  refine A_callI (mc1 := 5) (ms1 := 6766) dX3_init_51 ml_X3_30 (Nat.le_of_ble_eq_true rfl) (c_X1_init (d := d - 1) (by omega) rfl) (by omega) rfl rfl (by decide) (by decide) rfl ?_
  rintro n1 T1 N1 K1 ⟨rfl, rfl, rfl, hK1⟩
  refine A_putR (ty := .object "HomeRings$RingSearch") dX3_init_54 fk_X3_31 (by decide) rfl (by decide) rfl rfl rfl rfl rfl (fun _ => rfl) (fun _ => rfl) rfl ?_
  refine A_aload_n dX3_init_57 rfl rfl ?_
  refine A_new dX3_init_58 (by decide) wl_X3_35 wn_X2 wi_R2 rfl rfl rfl (by decide) (by decide) ?_
  refine A_dup dX3_init_61 rfl rfl ?_
  refine A_callI (mc1 := 3) (ms1 := 1045) dX3_init_62 ml_X3_37 (Nat.le_of_ble_eq_true rfl) (c_X2_init (d := d - 1) (by omega) rfl) (by omega) rfl rfl (by decide) (by decide) rfl ?_
  rintro n1 T1 N1 K1 ⟨rfl, rfl, rfl, rfl⟩
  refine A_putR (ty := .object "HomeRings$Ways") dX3_init_65 fk_X3_38 (by decide) rfl (by decide) rfl rfl rfl rfl rfl (fun _ => rfl) (fun _ => rfl) rfl ?_
  refine A_aload_n dX3_init_68 rfl rfl ?_
  refine A_iconst (v := nI 0) dX3_init_69 (by decide) rfl ?_
  refine A_putI dX3_init_70 fl_X3_42 (by decide) rfl rfl rfl rfl rfl ?_
  refine A_aload_n dX3_init_73 rfl rfl ?_
  refine A_iconst (v := nI 0) dX3_init_74 (by decide) rfl ?_
  refine A_putI dX3_init_75 fl_X3_46 (by decide) rfl rfl rfl rfl rfl ?_
  refine A_aload_n dX3_init_78 rfl rfl ?_
  refine A_iconst (v := nI 0) dX3_init_79 (by decide) rfl ?_
  refine A_putI dX3_init_80 fl_X3_49 (by decide) rfl rfl rfl rfl rfl ?_
  refine A_aload_n dX3_init_83 rfl rfl ?_
  refine A_iconst (v := nI 2) dX3_init_84 (by decide) rfl ?_
  refine A_putI dX3_init_85 fl_X3_52 (by decide) rfl rfl rfl rfl rfl ?_
  refine A_aload_n dX3_init_88 rfl rfl ?_
  refine A_bipush (v := nI 10) dX3_init_89 (by decide) rfl ?_
  refine A_putI dX3_init_91 fl_X3_55 (by decide) rfl rfl rfl rfl rfl ?_
  refine A_aload_n dX3_init_94 rfl rfl ?_
  refine A_iconst (v := nI 0) dX3_init_95 (by decide) rfl ?_
  refine A_putI dX3_init_96 fl_X3_58 (by decide) rfl rfl rfl rfl rfl ?_
  refine A_aload_n dX3_init_99 rfl rfl ?_
  refine A_iconst (v := nI 0) dX3_init_100 (by decide) rfl ?_
  refine A_putZ dX3_init_101 fl_X3_61 (by decide) rfl rfl rfl rfl (by decide) rfl ?_
  refine A_iconst (v := nI 0) dX3_init_104 (by decide) rfl ?_
  refine A_istore_n (lv' := [(0, .ref 0), (1, .int (nI 0))]) dX3_init_105 (by decide) rfl rfl ?_
  have hK2 : ∀ f, f < 10 → (zJ (zJ (zJ (zJ K1 (12)) (13)) (14)) (15)) 7 f = pl11 f := hK1
  refine l_X3_init (d := d) hd (T0 := T3i T) (N0 := N3i N) rfl rfl rfl rfl rfl (fun K h => ⟨rfl, rfl, rfl, h⟩) 10 0 _ 15 8461 rfl rfl rfl hK2 (fun i hi => ⟨?_, ?_, rfl⟩)
  · rcases (show i = 0 ∨ i = 1 ∨ i = 2 ∨ i = 3 ∨ i = 4 ∨ i = 5 ∨ i = 6 ∨ i = 7 ∨ i = 8 ∨ i = 9 ∨ i = 10 ∨ i = 11 ∨ i = 12 ∨ i = 13 ∨ i = 14 ∨ i = 15 by omega) with rfl | rfl | rfl | rfl | rfl | rfl | rfl | rfl | rfl | rfl | rfl | rfl | rfl | rfl | rfl | rfl <;> rfl
  · rcases (show i = 0 ∨ i = 1 ∨ i = 2 ∨ i = 3 ∨ i = 4 ∨ i = 5 ∨ i = 6 ∨ i = 7 ∨ i = 8 ∨ i = 9 ∨ i = 10 ∨ i = 11 ∨ i = 12 ∨ i = 13 ∨ i = 14 ∨ i = 15 by omega) with rfl | rfl | rfl | rfl | rfl | rfl | rfl | rfl | rfl | rfl | rfl | rfl | rfl | rfl | rfl | rfl <;> rfl
