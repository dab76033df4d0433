/-! The constructors. The cells by the order of making: 0 the HomeRings; 1 households, 2 goesTo, 3 booked, 4 told, 5 shown; 6 ringSearch, 7 .. 11 its rows; 12 ways, 13 .. 15 its rows; 16 + 2 f a household, 17 + 2 f its ranks; 36 the reference, 37 .. 58 its rows. -/
set_option maxRecDepth 100000 in
theorem c_X0_init {d : Nat} (hd : 1 ≤ d) {b nn : Nat} {T : Nat → Shp} {N : Mem} {K : Mej} (hb : b < nn) (hT : T b = .inl (0, fun _ => none)) : CA d 1 10 mX0_init [.ref b] nn T N K (fun n1 T1 N1 K1 => n1 = nn + 1 ∧ T1 = (sR (sR T (nn) (.inr (.inl (0, 10)))) (b) (.inl (0, (va_up (fun _ => none) 0 (some (nn)))))) ∧ N1 = (sM (sM (sM (sM (sM (sM (sM (sM (sM (sM (sM (sM (zM N (nn)) (b) 1 (nI 0)) (b) 2 (nI 0)) (b) 3 (nI 0)) (b) 4 (nI 0)) (b) 5 (nI 0)) (b) 6 (nI 1)) (b) 7 (nI 0)) (b) 8 (nI 51)) (b) 9 (nI 0)) (b) 10 (nI 51)) (b) 11 (nI 0)) (b) 12 (nI 0)) ∧ K1 = (zJ K (nn))) := by
  refine CA.start [(0, .ref b)] (plainFor_of_name (by decide)) (Nat.le_of_ble_eq_true rfl) rfl ?_
  refine A_aload_n dX0_init_0 rfl rfl ?_
  refine A_objI dX0_init_1 ml_X0_3 (Nat.le_of_ble_eq_true rfl) (by omega) rfl ?_
  refine A_aload_n dX0_init_4 rfl rfl ?_
  refine A_bipush (v := nI 10) dX0_init_5 (by decide) rfl ?_
  refine A_newi dX0_init_7 (by decide) rfl (by simp [rl, rv]; omega) (by simp [rs, rv]; omega) (by decide) (by decide) ?_
  refine A_putR (ty := .array .int) dX0_init_9 fk_X0_9 (by omega) ((va_up_ne _ _ (by omega)).trans hT) (by omega) rfl rfl rfl rfl rfl (fun _ => rfl) (fun _ => rfl) rfl ?_
  refine A_aload_n dX0_init_12 rfl rfl ?_
  refine A_iconst (v := nI 0) dX0_init_13 (by decide) rfl ?_
  refine A_putI dX0_init_14 fl_X0_15 (by omega) (va_up_self _ _ _) rfl rfl rfl rfl ?_
  refine A_aload_n dX0_init_17 rfl rfl ?_
  refine A_iconst (v := nI 0) dX0_init_18 (by decide) rfl ?_
  refine A_putI dX0_init_19 fl_X0_19 (by omega) (va_up_self _ _ _) rfl rfl rfl rfl ?_
  refine A_aload_n dX0_init_22 rfl rfl ?_
  refine A_iconst (v := nI 0) dX0_init_23 (by decide) rfl ?_
  refine A_putI dX0_init_24 fl_X0_22 (by omega) (va_up_self _ _ _) rfl rfl rfl rfl ?_
  refine A_aload_n dX0_init_27 rfl rfl ?_
  refine A_iconst (v := nI 0) dX0_init_28 (by decide) rfl ?_
  refine A_putI dX0_init_29 fl_X0_25 (by omega) (va_up_self _ _ _) rfl rfl rfl rfl ?_
  refine A_aload_n dX0_init_32 rfl rfl ?_
  refine A_iconst (v := nI 0) dX0_init_33 (by decide) rfl ?_
  refine A_putZ dX0_init_34 fl_X0_28 (by omega) (va_up_self _ _ _) rfl rfl rfl (by decide) rfl ?_
  refine A_aload_n dX0_init_37 rfl rfl ?_
  refine A_iconst (v := nI 1) dX0_init_38 (by decide) rfl ?_
  refine A_putZ dX0_init_39 fl_X0_32 (by omega) (va_up_self _ _ _) rfl rfl rfl (by decide) rfl ?_
  refine A_aload_n dX0_init_42 rfl rfl ?_
  refine A_iconst (v := nI 0) dX0_init_43 (by decide) rfl ?_
  refine A_putI dX0_init_44 fl_X0_35 (by omega) (va_up_self _ _ _) rfl rfl rfl rfl ?_
  refine A_aload_n dX0_init_47 rfl rfl ?_
  refine A_bipush (v := nI 51) dX0_init_48 (by decide) rfl ?_
  refine A_putI dX0_init_50 fl_X0_38 (by omega) (va_up_self _ _ _) rfl rfl rfl rfl ?_
  refine A_aload_n dX0_init_53 rfl rfl ?_
  refine A_iconst (v := nI 0) dX0_init_54 (by decide) rfl ?_
  refine A_putI dX0_init_55 fl_X0_41 (by omega) (va_up_self _ _ _) rfl rfl rfl rfl ?_
  refine A_aload_n dX0_init_58 rfl rfl ?_
  refine A_bipush (v := nI 51) dX0_init_59 (by decide) rfl ?_
  refine A_putI dX0_init_61 fl_X0_44 (by omega) (va_up_self _ _ _) rfl rfl rfl rfl ?_
  refine A_aload_n dX0_init_64 rfl rfl ?_
  refine A_iconst (v := nI 0) dX0_init_65 (by decide) rfl ?_
  refine A_putI dX0_init_66 fl_X0_47 (by omega) (va_up_self _ _ _) rfl rfl rfl rfl ?_
  refine A_aload_n dX0_init_69 rfl rfl ?_
  refine A_iconst (v := nI 0) dX0_init_70 (by decide) rfl ?_
  refine A_putI dX0_init_71 fl_X0_50 (by omega) (va_up_self _ _ _) rfl rfl rfl rfl ?_
  exact A_ret dX0_init_74 rfl (by decide) (by decide) ⟨rfl, rfl, rfl, rfl⟩
set_option maxRecDepth 100000 in
theorem c_X2_init {d : Nat} (hd : 1 ≤ d) {T : Nat → Shp} {N : Mem} {K : Mej} (hT : T 12 = .inl (2, fun _ => none)) : CA d 3 1045 mX2_init [.ref 12] 13 T N K (fun n1 T1 N1 K1 => n1 = 16 ∧ T1 = (sR (sR (sR (sR (sR (sR T (13) (.inr (.inl (0, 10)))) (12) (.inl (2, (va_up (fun _ => none) 0 (some (13)))))) (14) (.inr (.inl (0, 11)))) (12) (.inl (2, (va_up (va_up (fun _ => none) 0 (some (13))) 1 (some (14)))))) (15) (.inr (.inl (0, 1024)))) (12) (.inl (2, (va_up (va_up (va_up (fun _ => none) 0 (some (13))) 1 (some (14))) 2 (some (15)))))) ∧ N1 = (sM (zM (zM (zM N (13)) (14)) (15)) (12) 3 (nI 0)) ∧ K1 = (zJ (zJ (zJ K (13)) (14)) (15))) := by
  refine CA.start [(0, .ref 12)] (plainFor_of_name (by decide)) (Nat.le_of_ble_eq_true rfl) rfl ?_
  refine A_aload_n dX2_init_0 rfl rfl ?_
  refine A_objI dX2_init_1 ml_X2_3 (Nat.le_of_ble_eq_true rfl) (by omega) rfl ?_
  refine A_aload_n dX2_init_4 rfl rfl ?_
  refine A_bipush (v := nI 10) dX2_init_5 (by decide) rfl ?_
  refine A_newi dX2_init_7 (by decide) rfl rfl rfl (by decide) (by decide) ?_
  refine A_putR (ty := .array .int) dX2_init_9 fk_X2_9 (by decide) hT (by decide) rfl rfl rfl rfl rfl (fun _ => rfl) (fun _ => rfl) rfl ?_
  refine A_aload_n dX2_init_12 rfl rfl ?_
  refine A_bipush (v := nI 11) dX2_init_13 (by decide) rfl ?_
  refine A_newi dX2_init_15 (by decide) rfl rfl rfl (by decide) (by decide) ?_
  refine A_putR (ty := .array .int) dX2_init_17 fk_X2_15 (by decide) rfl (by decide) rfl rfl rfl rfl rfl (fun _ => rfl) (fun _ => rfl) rfl ?_
  refine A_aload_n dX2_init_20 rfl rfl ?_
  refine A_sipush (v := nI 1024) dX2_init_21 (by decide) rfl ?_
  refine A_newi dX2_init_24 (by decide) rfl rfl rfl (by decide) (by decide) ?_
  refine A_putR (ty := .array .int) dX2_init_26 fk_X2_18 (by decide) rfl (by decide) rfl rfl rfl rfl rfl (fun _ => rfl) (fun _ => rfl) rfl ?_
  refine A_aload_n dX2_init_29 rfl rfl ?_
  refine A_iconst (v := nI 0) dX2_init_30 (by decide) rfl ?_
  refine A_putI dX2_init_31 fl_X2_21 (by decide) rfl rfl rfl rfl rfl ?_
  exact A_ret dX2_init_34 rfl (by decide) (by decide) ⟨rfl, rfl, rfl, rfl⟩
def T4i (T : Nat → Shp) : Nat → Shp := (sR (sR (sR (sR (sR (sR (sR (sR (sR (sR (sR (sR (sR (sR (sR (sR (sR (sR (sR (sR (sR (sR (sR (sR (sR (sR (sR (sR (sR (sR (sR (sR (sR (sR (sR (sR (sR (sR (sR (sR (sR (sR (sR (sR T (37) (.inr (.inl (0, 10)))) (36) (.inl (4, (va_up (fun _ => none) 2 (some (37)))))) (38) (.inr (.inl (0, 10)))) (36) (.inl (4, (va_up (va_up (fun _ => none) 2 (some (37))) 3 (some (38)))))) (39) (.inr (.inl (0, 10)))) (36) (.inl (4, (va_up (va_up (va_up (fun _ => none) 2 (some (37))) 3 (some (38))) 4 (some (39)))))) (40) (.inr (.inl (1, 10)))) (36) (.inl (4, (va_up (va_up (va_up (va_up (fun _ => none) 2 (some (37))) 3 (some (38))) 4 (some (39))) 5 (some (40)))))) (41) (.inr (.inl (0, 10)))) (36) (.inl (4, (va_up (va_up (va_up (va_up (va_up (fun _ => none) 2 (some (37))) 3 (some (38))) 4 (some (39))) 5 (some (40))) 6 (some (41)))))) (42) (.inr (.inl (0, 10)))) (36) (.inl (4, (va_up (va_up (va_up (va_up (va_up (va_up (fun _ => none) 2 (some (37))) 3 (some (38))) 4 (some (39))) 5 (some (40))) 6 (some (41))) 7 (some (42)))))) (43) (.inr (.inl (0, 10)))) (36) (.inl (4, (va_up (va_up (va_up (va_up (va_up (va_up (va_up (fun _ => none) 2 (some (37))) 3 (some (38))) 4 (some (39))) 5 (some (40))) 6 (some (41))) 7 (some (42))) 8 (some (43)))))) (44) (.inr (.inl (0, 10)))) (36) (.inl (4, (va_up (va_up (va_up (va_up (va_up (va_up (va_up (va_up (fun _ => none) 2 (some (37))) 3 (some (38))) 4 (some (39))) 5 (some (40))) 6 (some (41))) 7 (some (42))) 8 (some (43))) 9 (some (44)))))) (45) (.inr (.inl (0, 10)))) (36) (.inl (4, (va_up (va_up (va_up (va_up (va_up (va_up (va_up (va_up (va_up (fun _ => none) 2 (some (37))) 3 (some (38))) 4 (some (39))) 5 (some (40))) 6 (some (41))) 7 (some (42))) 8 (some (43))) 9 (some (44))) 10 (some (45)))))) (46) (.inr (.inl (1, 10)))) (36) (.inl (4, (va_up (va_up (va_up (va_up (va_up (va_up (va_up (va_up (va_up (va_up (fun _ => none) 2 (some (37))) 3 (some (38))) 4 (some (39))) 5 (some (40))) 6 (some (41))) 7 (some (42))) 8 (some (43))) 9 (some (44))) 10 (some (45))) 11 (some (46)))))) (47) (.inr (.inl (0, 10)))) (36) (.inl (4, (va_up (va_up (va_up (va_up (va_up (va_up (va_up (va_up (va_up (va_up (va_up (fun _ => none) 2 (some (37))) 3 (some (38))) 4 (some (39))) 5 (some (40))) 6 (some (41))) 7 (some (42))) 8 (some (43))) 9 (some (44))) 10 (some (45))) 11 (some (46))) 12 (some (47)))))) (48) (.inr (.inl (0, 100)))) (36) (.inl (4, (va_up (va_up (va_up (va_up (va_up (va_up (va_up (va_up (va_up (va_up (va_up (va_up (fun _ => none) 2 (some (37))) 3 (some (38))) 4 (some (39))) 5 (some (40))) 6 (some (41))) 7 (some (42))) 8 (some (43))) 9 (some (44))) 10 (some (45))) 11 (some (46))) 12 (some (47))) 13 (some (48)))))) (49) (.inr (.inl (1, 100)))) (36) (.inl (4, (va_up (va_up (va_up (va_up (va_up (va_up (va_up (va_up (va_up (va_up (va_up (va_up (va_up (fun _ => none) 2 (some (37))) 3 (some (38))) 4 (some (39))) 5 (some (40))) 6 (some (41))) 7 (some (42))) 8 (some (43))) 9 (some (44))) 10 (some (45))) 11 (some (46))) 12 (some (47))) 13 (some (48))) 14 (some (49)))))) (50) (.inr (.inl (0, 10)))) (36) (.inl (4, (va_up (va_up (va_up (va_up (va_up (va_up (va_up (va_up (va_up (va_up (va_up (va_up (va_up (va_up (fun _ => none) 2 (some (37))) 3 (some (38))) 4 (some (39))) 5 (some (40))) 6 (some (41))) 7 (some (42))) 8 (some (43))) 9 (some (44))) 10 (some (45))) 11 (some (46))) 12 (some (47))) 13 (some (48))) 14 (some (49))) 15 (some (50)))))) (51) (.inr (.inl (0, 10)))) (36) (.inl (4, (va_up (va_up (va_up (va_up (va_up (va_up (va_up (va_up (va_up (va_up (va_up (va_up (va_up (va_up (va_up (fun _ => none) 2 (some (37))) 3 (some (38))) 4 (some (39))) 5 (some (40))) 6 (some (41))) 7 (some (42))) 8 (some (43))) 9 (some (44))) 10 (some (45))) 11 (some (46))) 12 (some (47))) 13 (some (48))) 14 (some (49))) 15 (some (50))) 20 (some (51)))))) (52) (.inr (.inl (0, 10)))) (36) (.inl (4, (va_up (va_up (va_up (va_up (va_up (va_up (va_up (va_up (va_up (va_up (va_up (va_up (va_up (va_up (va_up (va_up (fun _ => none) 2 (some (37))) 3 (some (38))) 4 (some (39))) 5 (some (40))) 6 (some (41))) 7 (some (42))) 8 (some (43))) 9 (some (44))) 10 (some (45))) 11 (some (46))) 12 (some (47))) 13 (some (48))) 14 (some (49))) 15 (some (50))) 20 (some (51))) 21 (some (52)))))) (53) (.inr (.inl (1, 10)))) (36) (.inl (4, (va_up (va_up (va_up (va_up (va_up (va_up (va_up (va_up (va_up (va_up (va_up (va_up (va_up (va_up (va_up (va_up (va_up (fun _ => none) 2 (some (37))) 3 (some (38))) 4 (some (39))) 5 (some (40))) 6 (some (41))) 7 (some (42))) 8 (some (43))) 9 (some (44))) 10 (some (45))) 11 (some (46))) 12 (some (47))) 13 (some (48))) 14 (some (49))) 15 (some (50))) 20 (some (51))) 21 (some (52))) 27 (some (53)))))) (54) (.inr (.inl (0, 10)))) (36) (.inl (4, (va_up (va_up (va_up (va_up (va_up (va_up (va_up (va_up (va_up (va_up (va_up (va_up (va_up (va_up (va_up (va_up (va_up (va_up (fun _ => none) 2 (some (37))) 3 (some (38))) 4 (some (39))) 5 (some (40))) 6 (some (41))) 7 (some (42))) 8 (some (43))) 9 (some (44))) 10 (some (45))) 11 (some (46))) 12 (some (47))) 13 (some (48))) 14 (some (49))) 15 (some (50))) 20 (some (51))) 21 (some (52))) 27 (some (53))) 28 (some (54)))))) (55) (.inr (.inl (0, 10)))) (36) (.inl (4, (va_up (va_up (va_up (va_up (va_up (va_up (va_up (va_up (va_up (va_up (va_up (va_up (va_up (va_up (va_up (va_up (va_up (va_up (va_up (fun _ => none) 2 (some (37))) 3 (some (38))) 4 (some (39))) 5 (some (40))) 6 (some (41))) 7 (some (42))) 8 (some (43))) 9 (some (44))) 10 (some (45))) 11 (some (46))) 12 (some (47))) 13 (some (48))) 14 (some (49))) 15 (some (50))) 20 (some (51))) 21 (some (52))) 27 (some (53))) 28 (some (54))) 30 (some (55)))))) (56) (.inr (.inl (0, 10)))) (36) (.inl (4, (va_up (va_up (va_up (va_up (va_up (va_up (va_up (va_up (va_up (va_up (va_up (va_up (va_up (va_up (va_up (va_up (va_up (va_up (va_up (va_up (fun _ => none) 2 (some (37))) 3 (some (38))) 4 (some (39))) 5 (some (40))) 6 (some (41))) 7 (some (42))) 8 (some (43))) 9 (some (44))) 10 (some (45))) 11 (some (46))) 12 (some (47))) 13 (some (48))) 14 (some (49))) 15 (some (50))) 20 (some (51))) 21 (some (52))) 27 (some (53))) 28 (some (54))) 30 (some (55))) 31 (some (56)))))) (57) (.inr (.inl (0, 10)))) (36) (.inl (4, (va_up (va_up (va_up (va_up (va_up (va_up (va_up (va_up (va_up (va_up (va_up (va_up (va_up (va_up (va_up (va_up (va_up (va_up (va_up (va_up (va_up (fun _ => none) 2 (some (37))) 3 (some (38))) 4 (some (39))) 5 (some (40))) 6 (some (41))) 7 (some (42))) 8 (some (43))) 9 (some (44))) 10 (some (45))) 11 (some (46))) 12 (some (47))) 13 (some (48))) 14 (some (49))) 15 (some (50))) 20 (some (51))) 21 (some (52))) 27 (some (53))) 28 (some (54))) 30 (some (55))) 31 (some (56))) 33 (some (57)))))) (58) (.inr (.inl (0, 600)))) (36) (.inl (4, (va_up (va_up (va_up (va_up (va_up (va_up (va_up (va_up (va_up (va_up (va_up (va_up (va_up (va_up (va_up (va_up (va_up (va_up (va_up (va_up (va_up (va_up (fun _ => none) 2 (some (37))) 3 (some (38))) 4 (some (39))) 5 (some (40))) 6 (some (41))) 7 (some (42))) 8 (some (43))) 9 (some (44))) 10 (some (45))) 11 (some (46))) 12 (some (47))) 13 (some (48))) 14 (some (49))) 15 (some (50))) 20 (some (51))) 21 (some (52))) 27 (some (53))) 28 (some (54))) 30 (some (55))) 31 (some (56))) 33 (some (57))) 35 (some (58))))))
def N4i (N : Mem) : Mem := (zM (zM (zM (zM (zM (zM (zM (zM (sM (sM (zM (zM (zM (zM (zM (zM (zM (zM (zM (zM (zM (zM (zM (zM N (37)) (38)) (39)) (40)) (41)) (42)) (43)) (44)) (45)) (46)) (47)) (48)) (49)) (50)) (36) 16 (nI 2)) (36) 17 (nI 10)) (51)) (52)) (53)) (54)) (55)) (56)) (57)) (58))
def K4i (K : Mej) : Mej := (zJ (zJ (zJ (zJ (zJ (zJ (zJ (zJ (zJ (zJ (zJ (zJ (zJ (zJ (zJ (zJ (zJ (zJ (zJ (zJ (zJ (zJ K (37)) (38)) (39)) (40)) (41)) (42)) (43)) (44)) (45)) (46)) (47)) (48)) (49)) (50)) (51)) (52)) (53)) (54)) (55)) (56)) (57)) (58))
set_option maxRecDepth 100000 in
theorem c_X4_init {d : Nat} (hd : 1 ≤ d) {T : Nat → Shp} {N : Mem} {K : Mej} (hT : T 36 = .inl (4, fun _ => none)) : CA d 22 990 mX4_init [.ref 36] 37 T N K (fun n1 T1 N1 K1 => n1 = 59 ∧ T1 = T4i T ∧ N1 = N4i N ∧ K1 = K4i K) := by
  refine CA.start [(0, .ref 36)] (plainFor_of_name (by decide)) (Nat.le_of_ble_eq_true rfl) rfl ?_
  refine A_aload_n dX4_init_0 rfl rfl ?_
  refine A_objI dX4_init_1 ml_X4_1 (Nat.le_of_ble_eq_true rfl) (by omega) rfl ?_
  refine A_aload_n dX4_init_4 rfl rfl ?_
  refine A_bipush (v := nI 10) dX4_init_5 (by decide) rfl ?_
  refine A_newi dX4_init_7 (by decide) rfl rfl rfl (by decide) (by decide) ?_
  refine A_putR (ty := .array .int) dX4_init_9 fk_X4_9 (by decide) hT (by decide) rfl rfl rfl rfl rfl (fun _ => rfl) (fun _ => rfl) rfl ?_
  refine A_aload_n dX4_init_12 rfl rfl ?_
  refine A_bipush (v := nI 10) dX4_init_13 (by decide) rfl ?_
  refine A_newi dX4_init_15 (by decide) rfl rfl rfl (by decide) (by decide) ?_
  refine A_putR (ty := .array .int) dX4_init_17 fk_X4_13 (by decide) rfl (by decide) rfl rfl rfl rfl rfl (fun _ => rfl) (fun _ => rfl) rfl ?_
  refine A_aload_n dX4_init_20 rfl rfl ?_
  refine A_bipush (v := nI 10) dX4_init_21 (by decide) rfl ?_
  refine A_newi dX4_init_23 (by decide) rfl rfl rfl (by decide) (by decide) ?_
  refine A_putR (ty := .array .int) dX4_init_25 fk_X4_16 (by decide) rfl (by decide) rfl rfl rfl rfl rfl (fun _ => rfl) (fun _ => rfl) rfl ?_
  refine A_aload_n dX4_init_28 rfl rfl ?_
  refine A_bipush (v := nI 10) dX4_init_29 (by decide) rfl ?_
  refine A_newz dX4_init_31 (by decide) rfl rfl rfl (by decide) (by decide) ?_
  refine A_putR (ty := .array .boolean) dX4_init_33 fk_X4_19 (by decide) rfl (by decide) rfl rfl rfl rfl rfl (fun _ => rfl) (fun _ => rfl) rfl ?_
  refine A_aload_n dX4_init_36 rfl rfl ?_
  refine A_bipush (v := nI 10) dX4_init_37 (by decide) rfl ?_
  refine A_newi dX4_init_39 (by decide) rfl rfl rfl (by decide) (by decide) ?_
  refine A_putR (ty := .array .int) dX4_init_41 fk_X4_23 (by decide) rfl (by decide) rfl rfl rfl rfl rfl (fun _ => rfl) (fun _ => rfl) rfl ?_
  refine A_aload_n dX4_init_44 rfl rfl ?_
  refine A_bipush (v := nI 10) dX4_init_45 (by decide) rfl ?_
  refine A_newi dX4_init_47 (by decide) rfl rfl rfl (by decide) (by decide) ?_
  refine A_putR (ty := .array .int) dX4_init_49 fk_X4_26 (by decide) rfl (by decide) rfl rfl rfl rfl rfl (fun _ => rfl) (fun _ => rfl) rfl ?_
  refine A_aload_n dX4_init_52 rfl rfl ?_
  refine A_bipush (v := nI 10) dX4_init_53 (by decide) rfl ?_
  refine A_newi dX4_init_55 (by decide) rfl rfl rfl (by decide) (by decide) ?_
  refine A_putR (ty := .array .int) dX4_init_57 fk_X4_29 (by decide) rfl (by decide) rfl rfl rfl rfl rfl (fun _ => rfl) (fun _ => rfl) rfl ?_
  refine A_aload_n dX4_init_60 rfl rfl ?_
  refine A_bipush (v := nI 10) dX4_init_61 (by decide) rfl ?_
  refine A_newi dX4_init_63 (by decide) rfl rfl rfl (by decide) (by decide) ?_
  refine A_putR (ty := .array .int) dX4_init_65 fk_X4_32 (by decide) rfl (by decide) rfl rfl rfl rfl rfl (fun _ => rfl) (fun _ => rfl) rfl ?_
  refine A_aload_n dX4_init_68 rfl rfl ?_
  refine A_bipush (v := nI 10) dX4_init_69 (by decide) rfl ?_
  refine A_newi dX4_init_71 (by decide) rfl rfl rfl (by decide) (by decide) ?_
  refine A_putR (ty := .array .int) dX4_init_73 fk_X4_35 (by decide) rfl (by decide) rfl rfl rfl rfl rfl (fun _ => rfl) (fun _ => rfl) rfl ?_
  refine A_aload_n dX4_init_76 rfl rfl ?_
  refine A_bipush (v := nI 10) dX4_init_77 (by decide) rfl ?_
  refine A_newz dX4_init_79 (by decide) rfl rfl rfl (by decide) (by decide) ?_
  refine A_putR (ty := .array .boolean) dX4_init_81 fk_X4_38 (by decide) rfl (by decide) rfl rfl rfl rfl rfl (fun _ => rfl) (fun _ => rfl) rfl ?_
  refine A_aload_n dX4_init_84 rfl rfl ?_
  refine A_bipush (v := nI 10) dX4_init_85 (by decide) rfl ?_
  refine A_newi dX4_init_87 (by decide) rfl rfl rfl (by decide) (by decide) ?_
  refine A_putR (ty := .array .int) dX4_init_89 fk_X4_41 (by decide) rfl (by decide) rfl rfl rfl rfl rfl (fun _ => rfl) (fun _ => rfl) rfl ?_
  refine A_aload_n dX4_init_92 rfl rfl ?_
  refine A_bipush (v := nI 100) dX4_init_93 (by decide) rfl ?_
  refine A_newi dX4_init_95 (by decide) rfl rfl rfl (by decide) (by decide) ?_
  refine A_putR (ty := .array .int) dX4_init_97 fk_X4_44 (by decide) rfl (by decide) rfl rfl rfl rfl rfl (fun _ => rfl) (fun _ => rfl) rfl ?_
  refine A_aload_n dX4_init_100 rfl rfl ?_
  refine A_bipush (v := nI 100) dX4_init_101 (by decide) rfl ?_
  refine A_newz dX4_init_103 (by decide) rfl rfl rfl (by decide) (by decide) ?_
  refine A_putR (ty := .array .boolean) dX4_init_105 fk_X4_47 (by decide) rfl (by decide) rfl rfl rfl rfl rfl (fun _ => rfl) (fun _ => rfl) rfl ?_
  refine A_aload_n dX4_init_108 rfl rfl ?_
  refine A_bipush (v := nI 10) dX4_init_109 (by decide) rfl ?_
  refine A_newi dX4_init_111 (by decide) rfl rfl rfl (by decide) (by decide) ?_
  refine A_putR (ty := .array .int) dX4_init_113 fk_X4_50 (by decide) rfl (by decide) rfl rfl rfl rfl rfl (fun _ => rfl) (fun _ => rfl) rfl ?_
  refine A_aload_n dX4_init_116 rfl rfl ?_
  refine A_iconst (v := nI 2) dX4_init_117 (by decide) rfl ?_
  refine A_putI dX4_init_118 fl_X4_53 (by decide) rfl rfl rfl rfl rfl ?_
  refine A_aload_n dX4_init_121 rfl rfl ?_
  refine A_bipush (v := nI 10) dX4_init_122 (by decide) rfl ?_
  refine A_putI dX4_init_124 fl_X4_57 (by decide) rfl rfl rfl rfl rfl ?_
  refine A_aload_n dX4_init_127 rfl rfl ?_
  refine A_bipush (v := nI 10) dX4_init_128 (by decide) rfl ?_
  refine A_newi dX4_init_130 (by decide) rfl rfl rfl (by decide) (by decide) ?_
  refine A_putR (ty := .array .int) dX4_init_132 fk_X4_60 (by decide) rfl (by decide) rfl rfl rfl rfl rfl (fun _ => rfl) (fun _ => rfl) rfl ?_
  refine A_aload_n dX4_init_135 rfl rfl ?_
  refine A_bipush (v := nI 10) dX4_init_136 (by decide) rfl ?_
  refine A_newi dX4_init_138 (by decide) rfl rfl rfl (by decide) (by decide) ?_
  refine A_putR (ty := .array .int) dX4_init_140 fk_X4_63 (by decide) rfl (by decide) rfl rfl rfl rfl rfl (fun _ => rfl) (fun _ => rfl) rfl ?_
  refine A_aload_n dX4_init_143 rfl rfl ?_
  refine A_bipush (v := nI 10) dX4_init_144 (by decide) rfl ?_
  refine A_newz dX4_init_146 (by decide) rfl rfl rfl (by decide) (by decide) ?_
  refine A_putR (ty := .array .boolean) dX4_init_148 fk_X4_66 (by decide) rfl (by decide) rfl rfl rfl rfl rfl (fun _ => rfl) (fun _ => rfl) rfl ?_
  refine A_aload_n dX4_init_151 rfl rfl ?_
  refine A_bipush (v := nI 10) dX4_init_152 (by decide) rfl ?_
  refine A_newi dX4_init_154 (by decide) rfl rfl rfl (by decide) (by decide) ?_
  refine A_putR (ty := .array .int) dX4_init_156 fk_X4_69 (by decide) rfl (by decide) rfl rfl rfl rfl rfl (fun _ => rfl) (fun _ => rfl) rfl ?_
  refine A_aload_n dX4_init_159 rfl rfl ?_
  refine A_bipush (v := nI 10) dX4_init_160 (by decide) rfl ?_
  refine A_newi dX4_init_162 (by decide) rfl rfl rfl (by decide) (by decide) ?_
  refine A_putR (ty := .array .int) dX4_init_164 fk_X4_72 (by decide) rfl (by decide) rfl rfl rfl rfl rfl (fun _ => rfl) (fun _ => rfl) rfl ?_
  refine A_aload_n dX4_init_167 rfl rfl ?_
  refine A_bipush (v := nI 10) dX4_init_168 (by decide) rfl ?_
  refine A_newi dX4_init_170 (by decide) rfl rfl rfl (by decide) (by decide) ?_
  refine A_putR (ty := .array .int) dX4_init_172 fk_X4_75 (by decide) rfl (by decide) rfl rfl rfl rfl rfl (fun _ => rfl) (fun _ => rfl) rfl ?_
  refine A_aload_n dX4_init_175 rfl rfl ?_
  refine A_bipush (v := nI 10) dX4_init_176 (by decide) rfl ?_
  refine A_newi dX4_init_178 (by decide) rfl rfl rfl (by decide) (by decide) ?_
  refine A_putR (ty := .array .int) dX4_init_180 fk_X4_78 (by decide) rfl (by decide) rfl rfl rfl rfl rfl (fun _ => rfl) (fun _ => rfl) rfl ?_
  refine A_aload_n dX4_init_183 rfl rfl ?_
  refine A_sipush (v := nI 600) dX4_init_184 (by decide) rfl ?_
  refine A_newi dX4_init_187 (by decide) rfl rfl rfl (by decide) (by decide) ?_
  refine A_putR (ty := .array .int) dX4_init_189 fk_X4_81 (by decide) rfl (by decide) rfl rfl rfl rfl rfl (fun _ => rfl) (fun _ => rfl) rfl ?_
  exact A_ret dX4_init_192 rfl (by decide) (by decide) ⟨rfl, rfl, rfl, rfl⟩
def cI (c : Nat) : Int32 := match c with
  | 0 => -1
  | k + 1 => nI k
set_option maxRecDepth 100000 in
theorem l_X1_init {d mc ms cells slots : Nat} {PO : PAt} {T : Nat → Shp} {N : Mem} {rf : Nat → Option Nat} (hT6 : T 6 = .inl (1, rf)) (hrf : rf 0 = some 7) (hT7 : T 7 = .inr (.inl (2, 10))) (hc : cells ≤ mc) (hs : slots ≤ ms) (goal : ∀ K, (∀ f, f < 10 → K 7 f = pl11 f) → PO 12 T N K) :
    ∀ (c : Nat) (K : Mej), c ≤ 10 → (∀ f, c ≤ f → f < 10 → K 7 f = pl11 f) → EA d mc ms mX1_init PO cells slots 57 [(0, .ref 6), (1, .long (lN (11 ^ (10 - c)))), (3, .int (cI c))] [] 12 T N K
  | 0, K, _, hk => by
    refine A_iload_n dX1_init_57 rfl rfl ?_
    refine A_if_lt (tgt := 80) dX1_init_58 (by decide) rfl (fun c58 => ?_) (fun c58 => absurd (show cI 0 < 0 by decide) c58)
    exact A_ret dX1_init_80 rfl hc hs (goal K (fun f hf => hk f (Nat.zero_le _) hf))
  | c + 1, K, hle, hk => by
    have ih := l_X1_init (d := d) (mc := mc) (ms := ms) (cells := cells) (slots := slots) hT6 hrf hT7 hc hs goal c (sJ K 7 c (lN (11 ^ (10 - (c + 1))))) (by omega) (fun f h1 h2 => by
      rw [sJ_at]
      by_cases e : f = c
      · subst e
        rw [if_pos ⟨rfl, rfl⟩]
        show lN (11 ^ (10 - (f + 1))) = lN (11 ^ (9 - f))
        rw [show 10 - (f + 1) = 9 - f by omega]
      · rw [if_neg (fun z => e z.2)]
        exact hk f (by omega) h2)
    have e11 : lN (11 ^ (10 - (c + 1))) * 11 = lN (11 ^ (10 - c)) := by
      rw [show (11 : Int64) = lN 11 from rfl, lN_mul, show 10 - c = (10 - (c + 1)) + 1 by omega, Nat.pow_succ]
    have ec : cI (c + 1) + Int32.ofInt (-1) = cI c := by
      cases c with
      | zero => decide
      | succ k => exact pk_m1 k
    refine A_iload_n dX1_init_57 rfl rfl ?_
    refine A_if_lt (tgt := 80) dX1_init_58 (by decide) rfl (fun c58 => absurd c58 (nI_pos (n := c) (by omega))) (fun c58 => ?_)
    refine A_aload_n dX1_init_61 rfl rfl ?_
    refine A_getR (r := 7) dX1_init_62 fl_X1_9 (by decide) hT6 rfl hrf rfl ?_
    refine A_iload_n dX1_init_65 rfl rfl ?_
    refine A_lload_n dX1_init_66 rfl rfl ?_
    refine A_last (j := c) dX1_init_67 (by decide) hT7 (by omega) (by decide) rfl ?_
    refine A_lload_n dX1_init_68 rfl rfl ?_
    refine A_ldc2 dX1_init_69 kl_X1_31 rfl ?_
    refine A_lmul dX1_init_72 rfl ?_
    rw [e11]
    refine A_lstore_n (lv' := [(0, .ref 6), (1, .long (lN (11 ^ (10 - c)))), (3, .int (cI (c + 1)))]) dX1_init_73 (by decide) rfl rfl ?_
    refine A_iinc (v := cI c) (lv' := [(0, .ref 6), (1, .long (lN (11 ^ (10 - c)))), (3, .int (cI c))]) dX1_init_74 rfl ec (by decide) rfl rfl ?_
    refine A_goto (tgt := 57) dX1_init_77 (by decide) ?_
    exact ih
set_option maxRecDepth 100000 in
theorem c_X1_init {d : Nat} (hd : 1 ≤ d) {T : Nat → Shp} {N : Mem} {K : Mej} (hT : T 6 = .inl (1, fun _ => none)) : CA d 5 6766 mX1_init [.ref 6] 7 T N K (fun n1 T1 N1 K1 => n1 = 12 ∧ T1 = (sR (sR (sR (sR (sR (sR (sR (sR (sR (sR T (7) (.inr (.inl (2, 10)))) (6) (.inl (1, (va_up (fun _ => none) 0 (some (7)))))) (8) (.inr (.inl (2, 100)))) (6) (.inl (1, (va_up (va_up (fun _ => none) 0 (some (7))) 1 (some (8)))))) (9) (.inr (.inl (2, 4608)))) (6) (.inl (1, (va_up (va_up (va_up (fun _ => none) 0 (some (7))) 1 (some (8))) 2 (some (9)))))) (10) (.inr (.inl (2, 1024)))) (6) (.inl (1, (va_up (va_up (va_up (va_up (fun _ => none) 0 (some (7))) 1 (some (8))) 2 (some (9))) 3 (some (10)))))) (11) (.inr (.inl (2, 1024)))) (6) (.inl (1, (va_up (va_up (va_up (va_up (va_up (fun _ => none) 0 (some (7))) 1 (some (8))) 2 (some (9))) 3 (some (10))) 4 (some (11)))))) ∧ N1 = (sM (zM (zM (zM (zM (zM N (7)) (8)) (9)) (10)) (11)) (6) 5 (nI 0)) ∧ ∀ f, f < 10 → K1 7 f = pl11 f) := by
  refine CA.start [(0, .ref 6)] (plainFor_of_name (by decide)) (Nat.le_of_ble_eq_true rfl) rfl ?_
  refine A_aload_n dX1_init_0 rfl rfl ?_
  refine A_objI dX1_init_1 ml_X1_3 (Nat.le_of_ble_eq_true rfl) (by omega) rfl ?_
  refine A_aload_n dX1_init_4 rfl rfl ?_
  refine A_bipush (v := nI 10) dX1_init_5 (by decide) rfl ?_
  refine A_newj dX1_init_7 (by decide) rfl rfl rfl (by decide) (by decide) ?_
  refine A_putR (ty := .array .long) dX1_init_9 fk_X1_9 (by decide) hT (by decide) rfl rfl rfl rfl rfl (fun _ => rfl) (fun _ => rfl) rfl ?_
  refine A_aload_n dX1_init_12 rfl rfl ?_
  refine A_bipush (v := nI 100) dX1_init_13 (by decide) rfl ?_
  refine A_newj dX1_init_15 (by decide) rfl rfl rfl (by decide) (by decide) ?_
  refine A_putR (ty := .array .long) dX1_init_17 fk_X1_15 (by decide) rfl (by decide) rfl rfl rfl rfl rfl (fun _ => rfl) (fun _ => rfl) rfl ?_
  refine A_aload_n dX1_init_20 rfl rfl ?_
  refine A_sipush (v := nI 4608) dX1_init_21 (by decide) rfl ?_
  refine A_newj dX1_init_24 (by decide) rfl rfl rfl (by decide) (by decide) ?_
  refine A_putR (ty := .array .long) dX1_init_26 fk_X1_18 (by decide) rfl (by decide) rfl rfl rfl rfl rfl (fun _ => rfl) (fun _ => rfl) rfl ?_
  refine A_aload_n dX1_init_29 rfl rfl ?_
  refine A_sipush (v := nI 1024) dX1_init_30 (by decide) rfl ?_
  refine A_newj dX1_init_33 (by decide) rfl rfl rfl (by decide) (by decide) ?_
  refine A_putR (ty := .array .long) dX1_init_35 fk_X1_21 (by decide) rfl (by decide) rfl rfl rfl rfl rfl (fun _ => rfl) (fun _ => rfl) rfl ?_
  refine A_aload_n dX1_init_38 rfl rfl ?_
  refine A_sipush (v := nI 1024) dX1_init_39 (by decide) rfl ?_
  refine A_newj dX1_init_42 (by decide) rfl rfl rfl (by decide) (by decide) ?_
  refine A_putR (ty := .array .long) dX1_init_44 fk_X1_24 (by decide) rfl (by decide) rfl rfl rfl rfl rfl (fun _ => rfl) (fun _ => rfl) rfl ?_
  refine A_aload_n dX1_init_47 rfl rfl ?_
  refine A_iconst (v := nI 0) dX1_init_48 (by decide) rfl ?_
  refine A_putI dX1_init_49 fl_X1_27 (by decide) rfl rfl rfl rfl rfl ?_
  refine A_lconst (v := lN (11 ^ (10 - 10))) dX1_init_52 (by decide) rfl ?_
  refine A_lstore_n (lv' := [(0, .ref 6), (1, .long (lN (11 ^ (10 - 10))))]) dX1_init_53 (by decide) rfl rfl ?_
  refine A_bipush (v := cI 10) dX1_init_54 (by decide) rfl ?_
  refine A_istore_n (lv' := [(0, .ref 6), (1, .long (lN (11 ^ (10 - 10)))), (3, .int (cI 10))]) dX1_init_56 (by decide) rfl rfl ?_
  exact l_X1_init rfl rfl rfl (by decide) (by decide) (fun K1 h => ⟨rfl, rfl, rfl, h⟩) 10 _ (by decide) (fun f h1 h2 => by omega)
