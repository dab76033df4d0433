section
variable {d : Nat} {mi : MI} {Post : PK} {pc n : Nat} {lv : LV} {st rest : List Value} {N : Mem} {K : Mej}
theorem K_rk {f idx : Nat} (hd : decode mi.2.1 pc = .ok (.getfield idx, 3)) (hw : fr_link mi.1.cls idx 0 0) (hf : f < 10) (hn : pc + 3 = n) (kk : EK d mi Post n lv (.ref (30 + f) :: rest) N K) : EK d mi Post pc lv (.ref (20 + f) :: rest) N K :=
  K_getR hd hw (sk_hh hf) rfl (by show some (20 + f + 10) = some (30 + f); congr 1; omega) hn kk
theorem K_hh {f : Nat} (hd : decode mi.2.1 pc = .ok (.aaload, 1)) (hf : f < 10) (hn : pc + 1 = n) (kk : EK d mi Post n lv (.ref (20 + f) :: rest) N K) : EK d mi Post pc lv (.int (nI f) :: .ref 1 :: rest) N K :=
  K_aald (i := 1) hd rfl hf (by decide) (by show (if f < 10 then some (20 + f) else none) = some (20 + f); rw [if_pos hf]) hn kk
end
/-- a household's beds to let, its worth -/
def vSl (kd bd : Nat) : Nat := if kd = 1 ∨ kd = 3 then bd - 1 else bd
def vWo (kd bd : Nat) : Nat := 10 * vSl kd bd + (if kd = 2 then 5 else if kd = 3 then 15 else 0)
def vPe (kd : Nat) : Bool := decide (kd = 2 ∨ kd = 3)
/-- the cells (a, j), j < i, hold v -/
def fillM (N : Mem) (a i : Nat) (v : Int32) : Mem := fun b j => if b = a ∧ j < i then v else N b j
theorem fillM_0 (N : Mem) (a : Nat) (v : Int32) : fillM N a 0 v = N := by
  funext b j
  simp [fillM]
theorem fillM_s (N : Mem) (a i : Nat) (v : Int32) : sM (fillM N a i v) a i v = fillM N a (i + 1) v := by
  funext b j
  rw [sM_at]
  unfold fillM
  by_cases hb : b = a
  · subst hb
    by_cases hj : j = i
    · subst hj; simp
    · by_cases h2 : j < i
      · rw [if_neg (by omega), if_pos ⟨rfl, h2⟩, if_pos ⟨rfl, by omega⟩]
      · rw [if_neg (by omega), if_neg (by omega), if_neg (by omega)]
  · simp [hb]
set_option maxRecDepth 100000 in
theorem c_X0_sleeps {d : Nat} {N : Mem} {K : Mej} {f kd bd : Nat} (hf : f < 10) (h1 : N (20 + f) 2 = nI kd) (h2 : N (20 + f) 3 = nI bd) (hk : kd < 4) (hb : 1 ≤ bd) : CK d mX0_sleeps [.ref (20 + f)] N K (PX (some (.int (nI (vSl kd bd)))) N K) := by
  refine CK.start [(0, _)] (plainFor_of_name (by decide)) (Nat.le_of_ble_eq_true rfl) rfl ?_
  refine K_aload_n dX0_sleeps_0 rfl rfl ?_
  refine K_getI dX0_sleeps_1 fl_X0_19 (by first | rfl | exact sk_rk (by omega) | exact sk_hh (by omega)) rfl (by first | assumption | rfl) rfl ?_
  refine K_iconst (v := nI 1) dX0_sleeps_4 (by decide) rfl ?_
  refine K_icmp_eqN (tgt := 16) dX0_sleeps_5 (by decide) rfl (by first | omega | fail) (by first | omega | fail) (fun c5 => ?_) (fun c5 => ?_)
  · refine K_aload_n dX0_sleeps_16 rfl rfl ?_
    refine K_getI dX0_sleeps_17 fl_X0_22 (by first | rfl | exact sk_rk (by omega) | exact sk_hh (by omega)) rfl (by first | assumption | rfl) rfl ?_
    refine K_iconst (v := nI 1) dX0_sleeps_20 (by decide) rfl ?_
    first | refine K_subN dX0_sleeps_21 (by first | omega | fail) rfl ?_ | refine K_isub dX0_sleeps_21 rfl ?_
    refine K_goto (tgt := 29) dX0_sleeps_22 (by decide) ?_
    refine K_iret dX0_sleeps_29 rfl ?_
    refine ⟨?_, rfl, rfl⟩
    simp only [vSl]
    congr 4
    split <;> omega
  · refine K_aload_n dX0_sleeps_8 rfl rfl ?_
    refine K_getI dX0_sleeps_9 fl_X0_19 (by first | rfl | exact sk_rk (by omega) | exact sk_hh (by omega)) rfl (by first | assumption | rfl) rfl ?_
    refine K_iconst (v := nI 3) dX0_sleeps_12 (by decide) rfl ?_
    refine K_icmp_neN (tgt := 25) dX0_sleeps_13 (by decide) rfl (by first | omega | fail) (by first | omega | fail) (fun c13 => ?_) (fun c13 => ?_)
    · refine K_aload_n dX0_sleeps_25 rfl rfl ?_
      refine K_getI dX0_sleeps_26 fl_X0_22 (by first | rfl | exact sk_rk (by omega) | exact sk_hh (by omega)) rfl (by first | assumption | rfl) rfl ?_
      refine K_iret dX0_sleeps_29 rfl ?_
      refine ⟨?_, rfl, rfl⟩
      simp only [vSl]
      congr 4
      split <;> omega
    · refine K_aload_n dX0_sleeps_16 rfl rfl ?_
      refine K_getI dX0_sleeps_17 fl_X0_22 (by first | rfl | exact sk_rk (by omega) | exact sk_hh (by omega)) rfl (by first | assumption | rfl) rfl ?_
      refine K_iconst (v := nI 1) dX0_sleeps_20 (by decide) rfl ?_
      first | refine K_subN dX0_sleeps_21 (by first | omega | fail) rfl ?_ | refine K_isub dX0_sleeps_21 rfl ?_
      refine K_goto (tgt := 29) dX0_sleeps_22 (by decide) ?_
      refine K_iret dX0_sleeps_29 rfl ?_
      refine ⟨?_, rfl, rfl⟩
      simp only [vSl]
      congr 4
      split <;> omega
set_option maxRecDepth 100000 in
theorem c_X0_worth {d : Nat} (hd : 1 ≤ d) {N : Mem} {K : Mej} {f kd bd : Nat} (hf : f < 10) (h1 : N (20 + f) 2 = nI kd) (h2 : N (20 + f) 3 = nI bd) (hk : kd < 4) (hb : 1 ≤ bd) : CK d mX0_worth [.ref (20 + f)] N K (PX (some (.int (nI (vWo kd bd)))) N K) := by
  refine CK.start [(0, _)] (plainFor_of_name (by decide)) (Nat.le_of_ble_eq_true rfl) rfl ?_
  refine K_aload_n dX0_worth_0 rfl rfl ?_
  refine K_getI dX0_worth_1 fl_X0_19 (by first | rfl | exact sk_rk (by omega) | exact sk_hh (by omega)) rfl (by first | assumption | rfl) rfl ?_
  refine K_iconst (v := nI 2) dX0_worth_4 (by decide) rfl ?_
  refine K_icmp_neN (tgt := 12) dX0_worth_5 (by decide) rfl (by first | omega | fail) (by first | omega | fail) (fun c5 => ?_) (fun c5 => ?_)
  · refine K_aload_n dX0_worth_12 rfl rfl ?_
    refine K_getI dX0_worth_13 fl_X0_19 (by first | rfl | exact sk_rk (by omega) | exact sk_hh (by omega)) rfl (by first | assumption | rfl) rfl ?_
    refine K_iconst (v := nI 3) dX0_worth_16 (by decide) rfl ?_
    refine K_icmp_neN (tgt := 25) dX0_worth_17 (by decide) rfl (by first | omega | fail) (by first | omega | fail) (fun c17 => ?_) (fun c17 => ?_)
    · refine K_iconst (v := nI 0) dX0_worth_25 (by decide) rfl ?_
      refine K_istore_n (lv' := [(0, _), (1, _)]) dX0_worth_26 (by decide) rfl rfl ?_
      refine K_bipush (v := nI 10) dX0_worth_27 (by decide) rfl ?_
      refine K_aload_n dX0_worth_29 rfl rfl ?_
      refine K_cv (ci := 0) (d1 := d - 1) [] dX0_worth_30 ml_X0_53 (by decide) (sk_hh (by omega)) rfl rfl (Nat.le_of_ble_eq_true rfl) (c_X0_sleeps hf h1 h2 hk hb) (by omega) rfl ?_
      refine K_mulN dX0_worth_33 rfl ?_
      refine K_iload_n dX0_worth_34 rfl rfl ?_
      refine K_addN dX0_worth_35 rfl ?_
      refine K_iret dX0_worth_36 rfl ?_
      refine ⟨?_, rfl, rfl⟩
      simp only [vWo]
      congr 4
      simp_all
    · refine K_bipush (v := nI 15) dX0_worth_20 (by decide) rfl ?_
      refine K_goto (tgt := 26) dX0_worth_22 (by decide) ?_
      refine K_istore_n (lv' := [(0, _), (1, _)]) dX0_worth_26 (by decide) rfl rfl ?_
      refine K_bipush (v := nI 10) dX0_worth_27 (by decide) rfl ?_
      refine K_aload_n dX0_worth_29 rfl rfl ?_
      refine K_cv (ci := 0) (d1 := d - 1) [] dX0_worth_30 ml_X0_53 (by decide) (sk_hh (by omega)) rfl rfl (Nat.le_of_ble_eq_true rfl) (c_X0_sleeps hf h1 h2 hk hb) (by omega) rfl ?_
      refine K_mulN dX0_worth_33 rfl ?_
      refine K_iload_n dX0_worth_34 rfl rfl ?_
      refine K_addN dX0_worth_35 rfl ?_
      refine K_iret dX0_worth_36 rfl ?_
      refine ⟨?_, rfl, rfl⟩
      simp only [vWo]
      congr 4
      simp_all
  · refine K_iconst (v := nI 5) dX0_worth_8 (by decide) rfl ?_
    refine K_goto (tgt := 26) dX0_worth_9 (by decide) ?_
    refine K_istore_n (lv' := [(0, _), (1, _)]) dX0_worth_26 (by decide) rfl rfl ?_
    refine K_bipush (v := nI 10) dX0_worth_27 (by decide) rfl ?_
    refine K_aload_n dX0_worth_29 rfl rfl ?_
    refine K_cv (ci := 0) (d1 := d - 1) [] dX0_worth_30 ml_X0_53 (by decide) (sk_hh (by omega)) rfl rfl (Nat.le_of_ble_eq_true rfl) (c_X0_sleeps hf h1 h2 hk hb) (by omega) rfl ?_
    refine K_mulN dX0_worth_33 rfl ?_
    refine K_iload_n dX0_worth_34 rfl rfl ?_
    refine K_addN dX0_worth_35 rfl ?_
    refine K_iret dX0_worth_36 rfl ?_
    refine ⟨?_, rfl, rfl⟩
    simp only [vWo]
    congr 4
    simp_all
set_option maxRecDepth 100000 in
theorem c_X0_welcomesPets {d : Nat} {N : Mem} {K : Mej} {f kd : Nat} (hf : f < 10) (h1 : N (20 + f) 2 = nI kd) (hk : kd < 4) : CK d mX0_welcomesPets [.ref (20 + f)] N K (PX (some (.int (bI (vPe kd)))) N K) := by
  refine CK.start [(0, _)] (plainFor_of_name (by decide)) (Nat.le_of_ble_eq_true rfl) rfl ?_
  refine K_aload_n dX0_welcomesPets_0 rfl rfl ?_
  refine K_getI dX0_welcomesPets_1 fl_X0_19 (by first | rfl | exact sk_rk (by omega) | exact sk_hh (by omega)) rfl (by first | assumption | rfl) rfl ?_
  refine K_iconst (v := nI 2) dX0_welcomesPets_4 (by decide) rfl ?_
  refine K_icmp_eqN (tgt := 16) dX0_welcomesPets_5 (by decide) rfl (by first | omega | fail) (by first | omega | fail) (fun c5 => ?_) (fun c5 => ?_)
  · refine K_iconst (v := nI 1) dX0_welcomesPets_16 (by decide) rfl ?_
    refine K_goto (tgt := 21) dX0_welcomesPets_17 (by decide) ?_
    refine K_zret dX0_welcomesPets_21 rfl (by first | rfl | exact bI_nar _) ?_
    refine ⟨?_, rfl, rfl⟩
    simp_all [vPe]
    rfl
  · refine K_aload_n dX0_welcomesPets_8 rfl rfl ?_
    refine K_getI dX0_welcomesPets_9 fl_X0_19 (by first | rfl | exact sk_rk (by omega) | exact sk_hh (by omega)) rfl (by first | assumption | rfl) rfl ?_
    refine K_iconst (v := nI 3) dX0_welcomesPets_12 (by decide) rfl ?_
    refine K_icmp_neN (tgt := 20) dX0_welcomesPets_13 (by decide) rfl (by first | omega | fail) (by first | omega | fail) (fun c13 => ?_) (fun c13 => ?_)
    · refine K_iconst (v := nI 0) dX0_welcomesPets_20 (by decide) rfl ?_
      refine K_zret dX0_welcomesPets_21 rfl (by first | rfl | exact bI_nar _) ?_
      refine ⟨?_, rfl, rfl⟩
      simp_all [vPe]
      rfl
    · refine K_iconst (v := nI 1) dX0_welcomesPets_16 (by decide) rfl ?_
      refine K_goto (tgt := 21) dX0_welcomesPets_17 (by decide) ?_
      refine K_zret dX0_welcomesPets_21 rfl (by first | rfl | exact bI_nar _) ?_
      refine ⟨?_, rfl, rfl⟩
      simp_all [vPe]
      rfl
set_option maxRecDepth 100000 in
theorem c_X0_weeksAt {d : Nat} (hd : 1 ≤ d) {N : Mem} {K : Mej} {f g tf tt ff ft : Nat} (hf : f < 10) (hg : g < 10) (h1 : N (20 + f) 9 = nI tf) (h2 : N (20 + f) 10 = nI tt) (h3 : N (20 + g) 7 = nI ff) (h4 : N (20 + g) 8 = nI ft) (b1 : tf ≤ 51) (b2 : tt ≤ 51) (b3 : ff ≤ 51) (b4 : ft ≤ 51) : CK d mX0_weeksAt [.ref (20 + f), .ref (20 + g)] N K (PX (some (.int (nI (min tt ft) - nI (max tf ff) + nI 1))) N K) := by
  refine CK.start [(0, _), (1, _)] (plainFor_of_name (by decide)) (Nat.le_of_ble_eq_true rfl) rfl ?_
  refine K_aload_n dX0_weeksAt_0 rfl rfl ?_
  refine K_getI dX0_weeksAt_1 fl_X0_44 (sk_hh hf) rfl h2 rfl ?_
  refine K_aload_n dX0_weeksAt_4 rfl rfl ?_
  refine K_getI dX0_weeksAt_5 fl_X0_38 (sk_hh hg) rfl h4 rfl ?_
  refine K_sv (d1 := d - 1) [_, _] dX0_weeksAt_8 ml_X0_57 rfl rfl (Nat.le_of_ble_eq_true rfl) (c_J9_min_7cf53 (by omega) (by omega)) (by omega) rfl ?_
  refine K_aload_n dX0_weeksAt_11 rfl rfl ?_
  refine K_getI dX0_weeksAt_12 fl_X0_41 (sk_hh hf) rfl h1 rfl ?_
  refine K_aload_n dX0_weeksAt_15 rfl rfl ?_
  refine K_getI dX0_weeksAt_16 fl_X0_35 (sk_hh hg) rfl h3 rfl ?_
  refine K_sv (d1 := d - 1) [_, _] dX0_weeksAt_19 ml_X0_63 rfl rfl (Nat.le_of_ble_eq_true rfl) (c_J9_max_7cf53 (by omega) (by omega)) (by omega) rfl ?_
  refine K_isub dX0_weeksAt_22 rfl ?_
  refine K_iconst (v := nI 1) dX0_weeksAt_23 (by decide) rfl ?_
  refine K_iadd dX0_weeksAt_24 rfl ?_
  refine K_iret dX0_weeksAt_25 rfl ?_
  exact ⟨rfl, rfl, rfl⟩
set_option maxRecDepth 100000 in
theorem c_X0_moveIn {d : Nat} {N : Mem} {K : Mej} {f : Nat} {x y z : Int32} {b : Bool} (hf : f < 10) : CK d mX0_moveIn [.ref (20 + f), .int x, .int y, .int z, .int (bI b)] N K (PX none (sM (sM (sM (sM N (20 + f) 2 x) (20 + f) 3 y) (20 + f) 4 z) (20 + f) 5 (bI b)) K) := by
  refine CK.start [(0, _), (1, _), (2, _), (3, _), (4, _)] (plainFor_of_name (by decide)) (Nat.le_of_ble_eq_true rfl) rfl ?_
  refine K_aload_n dX0_moveIn_0 rfl rfl ?_
  refine K_iload_n dX0_moveIn_1 rfl rfl ?_
  refine K_putI dX0_moveIn_2 fl_X0_19 (by first | rfl | exact sk_rk (by omega) | exact sk_hh (by omega)) rfl rfl rfl rfl ?_
  refine K_aload_n dX0_moveIn_5 rfl rfl ?_
  refine K_iload_n dX0_moveIn_6 rfl rfl ?_
  refine K_putI dX0_moveIn_7 fl_X0_22 (by first | rfl | exact sk_rk (by omega) | exact sk_hh (by omega)) rfl rfl rfl rfl ?_
  refine K_aload_n dX0_moveIn_10 rfl rfl ?_
  refine K_iload_n dX0_moveIn_11 rfl rfl ?_
  refine K_putI dX0_moveIn_12 fl_X0_25 (by first | rfl | exact sk_rk (by omega) | exact sk_hh (by omega)) rfl rfl rfl rfl ?_
  refine K_aload_n dX0_moveIn_15 rfl rfl ?_
  refine K_iload dX0_moveIn_16 rfl rfl ?_
  refine K_putZ dX0_moveIn_18 fl_X0_28 (by first | rfl | exact sk_rk (by omega) | exact sk_hh (by omega)) rfl rfl rfl (by first | exact bI_01 _ | exact Or.inl rfl | exact Or.inr rfl | assumption) rfl ?_
  refine K_ret dX0_moveIn_21 rfl ?_
  exact ⟨rfl, rfl, rfl⟩
set_option maxRecDepth 100000 in
theorem c_X0_addWish {d : Nat} {N : Mem} {K : Mej} {f g c : Nat} (hf : f < 10) (hg : g < 10) (h1 : N (20 + f) 1 = nI c) : CK d mX0_addWish [.ref (20 + f), .int (nI g)] N K (PX none (sM (sM N (20 + f) 1 (nI (c + 1))) (30 + f) g (nI (c + 1))) K) := by
  refine CK.start [(0, _), (1, _)] (plainFor_of_name (by decide)) (Nat.le_of_ble_eq_true rfl) rfl ?_
  refine K_aload_n dX0_addWish_0 rfl rfl ?_
  refine K_dup dX0_addWish_1 rfl rfl ?_
  refine K_getI dX0_addWish_2 fl_X0_15 (by first | rfl | exact sk_rk (by omega) | exact sk_hh (by omega)) rfl (by first | assumption | exact sM_eq _ _ _ _ | rfl) rfl ?_
  refine K_iconst (v := nI 1) dX0_addWish_5 (by decide) rfl ?_
  refine K_addN dX0_addWish_6 rfl ?_
  refine K_putI dX0_addWish_7 fl_X0_15 (by first | rfl | exact sk_rk (by omega) | exact sk_hh (by omega)) rfl rfl rfl rfl ?_
  refine K_aload_n dX0_addWish_10 rfl rfl ?_
  refine K_rk dX0_addWish_11 fl_X0_9 (by first | omega | fail) rfl ?_
  refine K_iload_n dX0_addWish_14 rfl rfl ?_
  refine K_aload_n dX0_addWish_15 rfl rfl ?_
  refine K_getI dX0_addWish_16 fl_X0_15 (by first | rfl | exact sk_rk (by omega) | exact sk_hh (by omega)) rfl (by first | assumption | exact sM_eq _ _ _ _ | rfl) rfl ?_
  refine K_iast dX0_addWish_19 (by first | rfl | exact sk_rk (by omega) | exact sk_hh (by omega)) (by first | omega | fail) (by decide) rfl ?_
  refine K_ret dX0_addWish_20 rfl ?_
  exact ⟨rfl, rfl, rfl⟩
theorem l_X0_dropWishes {d : Nat} {Post : PK} {N : Mem} {K : Mej} {f : Nat} (hf : f < 10) (hP : Post none (fillM N (30 + f) 10 (nI 0)) K) : ∀ k i : Nat, i + k = 10 → EK d mX0_dropWishes Post 7 [(0, .ref (20 + f)), (1, .int (nI i))] [] (fillM N (30 + f) i (nI 0)) K
  | 0, i, h => by
    obtain rfl : i = 10 := by omega
    refine K_iload_n dX0_dropWishes_7 rfl rfl ?_
    refine K_bipush (v := nI 10) dX0_dropWishes_8 (by decide) rfl ?_
    first | refine K_icmp_geN (tgt := 26) dX0_dropWishes_10 (by decide) rfl (by first | omega | fail) (by first | omega | fail) (fun c10 => ?_) (fun c10 => ?_) | refine K_icmp_ge (tgt := 26) dX0_dropWishes_10 (by decide) rfl (fun c10 => ?_) (fun c10 => ?_)
    · refine K_ret dX0_dropWishes_26 rfl ?_
      exact hP
    · omega
  | k + 1, i, h => by
    have ih := l_X0_dropWishes (d := d) hf hP k (i + 1) (by omega)
    refine K_iload_n dX0_dropWishes_7 rfl rfl ?_
    refine K_bipush (v := nI 10) dX0_dropWishes_8 (by decide) rfl ?_
    first | refine K_icmp_geN (tgt := 26) dX0_dropWishes_10 (by decide) rfl (by first | omega | fail) (by first | omega | fail) (fun c10 => ?_) (fun c10 => ?_) | refine K_icmp_ge (tgt := 26) dX0_dropWishes_10 (by decide) rfl (fun c10 => ?_) (fun c10 => ?_)
    · omega
    · refine K_aload_n dX0_dropWishes_13 rfl rfl ?_
      refine K_rk dX0_dropWishes_14 fl_X0_9 (by first | omega | fail) rfl ?_
      refine K_iload_n dX0_dropWishes_17 rfl rfl ?_
      refine K_iconst (v := nI 0) dX0_dropWishes_18 (by decide) rfl ?_
      refine K_iast dX0_dropWishes_19 (by first | rfl | exact sk_rk (by omega) | exact sk_hh (by omega)) (by first | omega | fail) (by decide) rfl ?_
      first | refine K_incN (lv' := [(0, _), (1, _)]) dX0_dropWishes_20 rfl (by decide) rfl rfl ?_ | refine K_iinc (lv' := [(0, _), (1, _)]) dX0_dropWishes_20 rfl rfl (by decide) rfl rfl ?_
      refine K_goto (tgt := 7) dX0_dropWishes_23 (by decide) ?_
      rw [fillM_s]
      exact ih
set_option maxRecDepth 100000 in
theorem c_X0_dropWishes {d : Nat} {N : Mem} {K : Mej} {f : Nat} (hf : f < 10) : CK d mX0_dropWishes [.ref (20 + f)] N K (PX none (fillM (sM N (20 + f) 1 (nI 0)) (30 + f) 10 (nI 0)) K) := by
  refine CK.start [(0, _)] (plainFor_of_name (by decide)) (Nat.le_of_ble_eq_true rfl) rfl ?_
  refine K_aload_n dX0_dropWishes_0 rfl rfl ?_
  refine K_iconst (v := nI 0) dX0_dropWishes_1 (by decide) rfl ?_
  refine K_putI dX0_dropWishes_2 fl_X0_15 (by first | rfl | exact sk_rk (by omega) | exact sk_hh (by omega)) rfl rfl rfl rfl ?_
  refine K_iconst (v := nI 0) dX0_dropWishes_5 (by decide) rfl ?_
  refine K_istore_n (lv' := [(0, _), (1, _)]) dX0_dropWishes_6 (by decide) rfl rfl ?_
  have h := l_X0_dropWishes (d := d) (Post := PX none (fillM (sM N (20 + f) 1 (nI 0)) (30 + f) 10 (nI 0)) K) (N := sM N (20 + f) 1 (nI 0)) (K := K) hf ⟨rfl, rfl, rfl⟩ 10 0 rfl
  rw [fillM_0] at h
  exact h
def bmS (m g : Nat) (b : Bool) : Nat := cond b (m ||| 2 ^ g) (m &&& (2 ^ g ^^^ 4294967295))
theorem bmS_bit {m g : Nat} {b : Bool} {i : Nat} (hg : g < 10) (hi : i < 10) : (bmS m g b).testBit i = if i = g then b else m.testBit i := by
  have h32 : (4294967295 : Nat) = 2 ^ 32 - 1 := by decide
  cases b with
  | true =>
    simp only [bmS, cond, Nat.testBit_or, Nat.testBit_two_pow]
    by_cases h : i = g
    · simp [h]
    · have : ¬ g = i := fun e => h e.symm
      simp [h, this]
  | false =>
    simp only [bmS, cond, Nat.testBit_and, Nat.testBit_xor, Nat.testBit_two_pow, h32, Nat.testBit_two_pow_sub_one]
    by_cases h : i = g
    · simp [h, show g < 32 by omega]
    · have : ¬ g = i := fun e => h e.symm
      simp [h, this, show i < 32 by omega]
theorem bmS_lt {m g : Nat} {b : Bool} (hg : g < 10) (hm : m < 1024) : bmS m g b < 1024 := by
  cases b with
  | true => exact Nat.or_lt_two_pow (n := 10) hm (Nat.pow_lt_pow_right (by omega) hg)
  | false => exact Nat.lt_of_le_of_lt Nat.and_le_left hm
set_option maxRecDepth 100000 in
theorem c_X0_barFrom {d : Nat} {N : Mem} {K : Mej} {f g m : Nat} {b : Bool} (hf : f < 10) (hg : g < 10) (h1 : N (20 + f) 11 = nI m) : CK d mX0_barFrom [.ref (20 + f), .int (nI g), .int (bI b)] N K (PX none (sM N (20 + f) 11 (nI (bmS m g b))) K) := by
  refine CK.start [(0, _), (1, _), (2, _)] (plainFor_of_name (by decide)) (Nat.le_of_ble_eq_true rfl) rfl ?_
  refine K_aload_n dX0_barFrom_0 rfl rfl ?_
  refine K_iload_n dX0_barFrom_1 rfl rfl ?_
  first | refine K_if_eqB (tgt := 16) dX0_barFrom_2 (by decide) rfl (fun c2 => ?_) (fun c2 => ?_) | refine K_if_eqN (tgt := 16) dX0_barFrom_2 (by decide) rfl (by first | omega | fail) (fun c2 => ?_) (fun c2 => ?_) | refine K_if_eq (tgt := 16) dX0_barFrom_2 (by decide) rfl (fun c2 => ?_) (fun c2 => ?_)
  · refine K_aload_n dX0_barFrom_16 rfl rfl ?_
    refine K_getI dX0_barFrom_17 fl_X0_47 (by first | rfl | exact sk_rk (by omega) | exact sk_hh (by omega)) rfl (by first | assumption | rfl) rfl ?_
    refine K_iconst (v := nI 1) dX0_barFrom_20 (by decide) rfl ?_
    refine K_iload_n dX0_barFrom_21 rfl rfl ?_
    first | refine K_shl1 dX0_barFrom_22 (by first | omega | fail) rfl ?_ | refine K_shlN dX0_barFrom_22 (by first | omega | fail) (by first | omega | fail) rfl ?_ | refine K_ishl dX0_barFrom_22 rfl ?_
    refine K_iconst (v := (-1)) dX0_barFrom_23 (by decide) rfl ?_
    first | refine K_xorN dX0_barFrom_24 rfl ?_ | refine K_ixor dX0_barFrom_24 rfl ?_
    first | refine K_bitN dX0_barFrom_25 rfl ?_ | refine K_andN dX0_barFrom_25 rfl ?_ | refine K_iand dX0_barFrom_25 rfl ?_
    refine K_putI dX0_barFrom_26 fl_X0_47 (by first | rfl | exact sk_rk (by omega) | exact sk_hh (by omega)) rfl rfl rfl rfl ?_
    refine K_ret dX0_barFrom_29 rfl ?_
    refine ⟨rfl, ?_, rfl⟩
    subst c2
    first | rfl | (rw [show ((-1) : Int32) = nI 4294967295 from by decide, nx_xor, nx_and]; rfl)
  · refine K_aload_n dX0_barFrom_5 rfl rfl ?_
    refine K_getI dX0_barFrom_6 fl_X0_47 (by first | rfl | exact sk_rk (by omega) | exact sk_hh (by omega)) rfl (by first | assumption | rfl) rfl ?_
    refine K_iconst (v := nI 1) dX0_barFrom_9 (by decide) rfl ?_
    refine K_iload_n dX0_barFrom_10 rfl rfl ?_
    first | refine K_shl1 dX0_barFrom_11 (by first | omega | fail) rfl ?_ | refine K_shlN dX0_barFrom_11 (by first | omega | fail) (by first | omega | fail) rfl ?_ | refine K_ishl dX0_barFrom_11 rfl ?_
    first | refine K_orN dX0_barFrom_12 rfl ?_ | refine K_ior dX0_barFrom_12 rfl ?_
    refine K_goto (tgt := 26) dX0_barFrom_13 (by decide) ?_
    refine K_putI dX0_barFrom_26 fl_X0_47 (by first | rfl | exact sk_rk (by omega) | exact sk_hh (by omega)) rfl rfl rfl rfl ?_
    refine K_ret dX0_barFrom_29 rfl ?_
    refine ⟨rfl, ?_, rfl⟩
    subst c2
    first | rfl | (rw [show ((-1) : Int32) = nI 4294967295 from by decide, nx_xor, nx_and]; rfl)
set_option maxRecDepth 100000 in
theorem c_X0_isBarredFrom {d : Nat} {N : Mem} {K : Mej} {f g m : Nat} (hf : f < 10) (hg : g < 10) (h1 : N (20 + f) 11 = nI m) (hm : m < 1024) : CK d mX0_isBarredFrom [.ref (20 + f), .int (nI g)] N K (PX (some (.int (bI (m.testBit g)))) N K) := by
  refine CK.start [(0, _), (1, _)] (plainFor_of_name (by decide)) (Nat.le_of_ble_eq_true rfl) rfl ?_
  refine K_aload_n dX0_isBarredFrom_0 rfl rfl ?_
  refine K_getI dX0_isBarredFrom_1 fl_X0_47 (by first | rfl | exact sk_rk (by omega) | exact sk_hh (by omega)) rfl (by first | assumption | rfl) rfl ?_
  refine K_iload_n dX0_isBarredFrom_4 rfl rfl ?_
  first | refine K_shrN dX0_isBarredFrom_5 (by first | omega | fail) (by first | omega | fail) rfl ?_ | refine K_ishr dX0_isBarredFrom_5 rfl ?_
  refine K_iconst (v := nI 1) dX0_isBarredFrom_6 (by decide) rfl ?_
  first | refine K_bitN dX0_isBarredFrom_7 rfl ?_ | refine K_andN dX0_isBarredFrom_7 rfl ?_ | refine K_iand dX0_isBarredFrom_7 rfl ?_
  refine K_iconst (v := nI 1) dX0_isBarredFrom_8 (by decide) rfl ?_
  first | refine K_icmp_neN (tgt := 16) dX0_isBarredFrom_9 (by decide) rfl (by first | omega | fail) (by first | omega | fail) (fun c9 => ?_) (fun c9 => ?_) | refine K_icmp_neB1 (tgt := 16) dX0_isBarredFrom_9 (by decide) rfl (fun c9 => ?_) (fun c9 => ?_) | refine K_icmp_neO (tgt := 16) dX0_isBarredFrom_9 (by decide) rfl (by first | assumption | fail) (fun c9 => ?_) (fun c9 => ?_) | refine K_icmp_neOO (tgt := 16) dX0_isBarredFrom_9 (by decide) rfl (by first | assumption | fail) (by first | assumption | fail) (fun c9 => ?_) (fun c9 => ?_) | refine K_icmp_neON (tgt := 16) dX0_isBarredFrom_9 (by decide) rfl (by first | assumption | fail) (by first | omega | fail) (fun c9 => ?_) (fun c9 => ?_) | refine K_icmp_ne (tgt := 16) dX0_isBarredFrom_9 (by decide) rfl (fun c9 => ?_) (fun c9 => ?_)
  · refine K_iconst (v := nI 0) dX0_isBarredFrom_16 (by decide) rfl ?_
    refine K_zret dX0_isBarredFrom_17 rfl (by first | rfl | exact bI_nar _) ?_
    refine ⟨?_, rfl, rfl⟩
    rw [c9]
    rfl
  · refine K_iconst (v := nI 1) dX0_isBarredFrom_12 (by decide) rfl ?_
    refine K_goto (tgt := 17) dX0_isBarredFrom_13 (by decide) ?_
    refine K_zret dX0_isBarredFrom_17 rfl (by first | rfl | exact bI_nar _) ?_
    refine ⟨?_, rfl, rfl⟩
    rw [c9]
    rfl
