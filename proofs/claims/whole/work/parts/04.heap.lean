def fr_TT (ci : Nat) : u_T := match ci with
  | 0 => TX0
  | 1 => TX1
  | 2 => TX2
  | 3 => TX3
  | _ => TX4
def fr_RR (ci : Nat) : String := match ci with
  | 0 => RX0
  | 1 => RX1
  | 2 => RX2
  | 3 => RX3
  | _ => RX4
def fr_ty (ci : Nat) : Nat → FieldType := match ci with
  | 0 => tyX0
  | 1 => tyX1
  | 2 => tyX2
  | 3 => tyX3
  | _ => tyX4
theorem fr_cl {ci : Nat} (h : ci < 5) : vwCl[ci]? = some (fr_RR ci, fr_TT ci, fr_nf ci) := by
  match ci, h with
  | 0, _ => rfl
  | 1, _ => rfl
  | 2, _ => rfl
  | 3, _ => rfl
  | 4, _ => rfl
theorem fr_in0 : ∀ w ∈ u_ws RX0 TX0 13, w ∈ lw_tbl := by decide +kernel
theorem fr_in1 : ∀ w ∈ u_ws RX1 TX1 6, w ∈ lw_tbl := by decide +kernel
theorem fr_in2 : ∀ w ∈ u_ws RX2 TX2 4, w ∈ lw_tbl := by decide +kernel
theorem fr_in3 : ∀ w ∈ u_ws RX3 TX3 14, w ∈ lw_tbl := by decide +kernel
theorem fr_in4 : ∀ w ∈ u_ws RX4 TX4 36, w ∈ lw_tbl := by decide +kernel
theorem fr_gd (ci : Nat) : ∀ w ∈ u_ws (fr_RR ci) (fr_TT ci) (fr_nf ci), goodWord w = true := by
  intro w hw
  obtain ⟨k, -, rfl⟩ := List.mem_map.mp hw
  unfold u_lay
  split <;> rfl
theorem fr_lay {ci : Nat} (h : ci < 5) : ∀ w ∈ u_ws (fr_RR ci) (fr_TT ci) (fr_nf ci), w ∈ lwg := by
  intro w hw
  refine lwg_of ?_ (fr_gd ci w hw)
  match ci, h with
  | 0, _ => exact fr_in0 w hw
  | 1, _ => exact fr_in1 w hw
  | 2, _ => exact fr_in2 w hw
  | 3, _ => exact fr_in3 w hw
  | 4, _ => exact fr_in4 w hw
theorem fr_tyok {ci : Nat} (h : ci < 5) : ∀ k, k < fr_nf ci → parseFieldDescriptor (fr_TT ci k).2.2.1 = some (fr_ty ci k) := by
  match ci, h with
  | 0, _ => exact tyX0_ok
  | 1, _ => exact tyX1_ok
  | 2, _ => exact tyX2_ok
  | 3, _ => exact tyX3_ok
  | 4, _ => exact tyX4_ok
theorem fr_nmok {ci : Nat} (h : ci < 5) : ∀ a, a < fr_nf ci → ∀ b, b < fr_nf ci → a ≠ b → (fr_TT ci a).2.1 ≠ (fr_TT ci b).2.1 := by
  match ci, h with
  | 0, _ => exact nmX0
  | 1, _ => exact nmX1
  | 2, _ => exact nmX2
  | 3, _ => exact nmX3
  | 4, _ => exact nmX4
def fr_link (own : String) (idx ci k : Nat) : Prop := ci < 5 ∧ k < fr_nf ci ∧ (Cond.fieldLink own idx (fr_TT ci k).1 (fr_TT ci k).2.1 (fr_TT ci k).2.2.1 ∈ lwg ∨ ∃ host, (own, idx, (fr_TT ci k).1, (fr_TT ci k).2.1, (fr_TT ci k).2.2.1, host) ∈ fr_nF)
abbrev fr_at (L : List Nat) (Sh : Nat → Shp) (a : Nat) (x : Shp) : Prop := a ∈ L ∧ Sh a = x
theorem fr_place {cy : Nat → ClassId} {L : List Nat} {Sh : Nat → Shp} {M : Mem} {J : Mej} {a : Nat} (h : a ∈ L) : ∃ q : Nat, (va_pl L (fr_E cy Sh M J))[q]? = some (a, fr_E cy Sh M J a) := va_pl_get (X := []) h
section HEAP
variable {l : Launch} {D : va_G} {cy : Nat → ClassId} {d mc ms : Nat} {mi : MI} {A : Nat → Prop} {Post : PST} {cells slots pc n : Nat} {lv : LV} {st rest : List Value} {L : List Nat} {Sh : Nat → Shp} {M : Mem} {J : Mej}
theorem E_getV {a ci k idx : Nat} {rf : Nat → Option Nat} {v : Value} (hd : decode mi.2.1 pc = .ok (.getfield idx, 3)) (hw : fr_link mi.1.cls idx ci k) (ha : fr_at L Sh a (.inl (ci, rf))) (hv : (if fr_isR ci k = true then va_rf (rf k) else .int (M a k)) = v) (hn : pc + 3 = n) (K : EE l D cy d mc ms mi A Post cells slots n lv (v :: rest) L Sh M J) : EE l D cy d mc ms mi A Post cells slots pc lv (.ref a :: rest) L Sh M J := by
  subst hn
  intro p e s m args below meth c H locs ls X hP hD hS hl
  obtain ⟨q, hq⟩ := fr_place (cy := cy) (Sh := Sh) (M := M) (J := J) ha.1
  rw [fr_E_obj ha.2] at hq
  have hg := fr_F_get rf (M a) hw.2.1
  rw [hv] at hg
  have K' := K _ e _ _ _ below _ _ _ _ _ X hP hD hS hl
  rcases hw.2.2 with hk | ⟨host, hk⟩
  · exact va_get (Ts := fr_ws mi) X.1 X.2.1 X.2.2.2.2.1 (fun w h => lwg_ws mi (fr_lay hw.1 w h)) X.2.2.2.2.2.1 X.2.2.2.2.2.2.2.2.1 hP q hq (fr_cl hw.1) k hw.2.1 (X.2.2.2.2.1 _ (lwg_ws mi hk)) (fun _ h => h) hg hd K'
  · exact va_getN (Ts := fr_ws mi) X.1 X.2.1 X.2.2.2.2.1 (fun w h => lwg_ws mi (fr_lay hw.1 w h)) X.2.2.2.2.2.1 X.2.2.2.2.2.2.2.2.1 hP q hq (fr_cl hw.1) k hw.2.1 (va_Nw.use rfl (X.2.2.2.2.2.2.2.2.2.1.1 _ hk)) (fun _ h => h) hg hd K'
theorem E_getI {a ci k idx : Nat} {rf : Nat → Option Nat} {v : Int32} (hd : decode mi.2.1 pc = .ok (.getfield idx, 3)) (hw : fr_link mi.1.cls idx ci k) (ha : fr_at L Sh a (.inl (ci, rf))) (hi : fr_isR ci k = false) (hv : M a k = v) (hn : pc + 3 = n) (K : EE l D cy d mc ms mi A Post cells slots n lv (.int v :: rest) L Sh M J) : EE l D cy d mc ms mi A Post cells slots pc lv (.ref a :: rest) L Sh M J := E_getV hd hw ha (by rw [hi, hv]; rfl) hn K
theorem E_getR {a ci k idx r : Nat} {rf : Nat → Option Nat} (hd : decode mi.2.1 pc = .ok (.getfield idx, 3)) (hw : fr_link mi.1.cls idx ci k) (ha : fr_at L Sh a (.inl (ci, rf))) (hi : fr_isR ci k = true) (hv : rf k = some r) (hn : pc + 3 = n) (K : EE l D cy d mc ms mi A Post cells slots n lv (.ref r :: rest) L Sh M J) : EE l D cy d mc ms mi A Post cells slots pc lv (.ref a :: rest) L Sh M J := E_getV hd hw ha (by rw [hi, hv]; rfl) hn K
theorem E_putV {a ci k idx : Nat} {rf : Nat → Option Nat} {v : Int32} {ty : FieldType} (hd : decode mi.2.1 pc = .ok (.putfield idx, 3)) (hw : fr_link mi.1.cls idx ci k) (ha : fr_at L Sh a (.inl (ci, rf))) (hi : fr_isR ci k = false) (hf : (fr_TT ci k).2.2.2 = false) (hty : fr_ty ci k = ty) (hv1 : narrow ty (.int v) = .int v) (hv2 : fits ty (.int v) = true) (hn : pc + 3 = n) (K : EE l D cy d mc ms mi A Post cells slots n lv rest L Sh (sM M a k v) J) : EE l D cy d mc ms mi A Post cells slots pc lv (.int v :: .ref a :: rest) L Sh M J := by
  subst hn
  subst hty
  intro p e s m args below meth c H locs ls X hP hD hS hl
  obtain ⟨q, hq⟩ := fr_place (cy := cy) (Sh := Sh) (M := M) (J := J) ha.1
  have hset : ∀ e : va_E, (va_pl L (fr_E cy Sh M J)).set q (a, e) = va_pl L (va_up (fr_E cy Sh M J) a e) := fun e => va_pl_set (X := []) hD ha.1 hq
  rw [fr_E_obj ha.2] at hq
  have hP2 : va_P D vwCl (va_pl L (fr_E cy Sh M J)) H := hP
  rcases hw.2.2 with hk | ⟨host, hk⟩
  · refine va_put (Ts := fr_ws mi) X.1 X.2.1 X.2.2.2.2.1 (fun w h => lwg_ws mi (fr_lay hw.1 w h)) (fr_ty ci) (fr_tyok hw.1) (fr_nmok hw.1) X.2.2.2.2.2.1 X.2.2.2.2.2.2.2.2.1 hP hD hS q hq (fr_cl hw.1) k hw.2.1 (X.2.2.2.2.1 _ (lwg_ws mi hk)) (fun _ h => h) hf (fr_tyok hw.1 k hw.2.1) hv1 hv2 (by rw [fr_F_len]; exact hw.2.1) hd (fun H1 locs1 hP1 hD1 hS1 => ?_)
    rw [hset, fr_U_obj ha.2 hi] at hP1 hD1
    exact K _ _ _ _ _ _ _ _ _ _ _ X hP1 hD1 hS1 hl
  · refine va_putN (Ts := fr_ws mi) X.1 X.2.1 X.2.2.2.2.1 (fun w h => lwg_ws mi (fr_lay hw.1 w h)) (fr_ty ci) (fr_tyok hw.1) (fr_nmok hw.1) X.2.2.2.2.2.1 X.2.2.2.2.2.2.2.2.1 hP hD hS q hq (fr_cl hw.1) k hw.2.1 (va_Nw.use rfl (X.2.2.2.2.2.2.2.2.2.1.1 _ hk)) (fun _ h => h) hf (fr_tyok hw.1 k hw.2.1) hv1 hv2 (by rw [fr_F_len]; exact hw.2.1) hd (fun H1 locs1 hP1 hD1 hS1 => ?_)
    rw [hset, fr_U_obj ha.2 hi] at hP1 hD1
    exact K _ _ _ _ _ _ _ _ _ _ _ X hP1 hD1 hS1 hl
theorem E_putI {a ci k idx : Nat} {rf : Nat → Option Nat} {v : Int32} (hd : decode mi.2.1 pc = .ok (.putfield idx, 3)) (hw : fr_link mi.1.cls idx ci k) (ha : fr_at L Sh a (.inl (ci, rf))) (hi : fr_isR ci k = false) (hf : (fr_TT ci k).2.2.2 = false) (hty : fr_ty ci k = .int) (hn : pc + 3 = n) (K : EE l D cy d mc ms mi A Post cells slots n lv rest L Sh (sM M a k v) J) : EE l D cy d mc ms mi A Post cells slots pc lv (.int v :: .ref a :: rest) L Sh M J := E_putV hd hw ha hi hf hty rfl rfl hn K
theorem fr_bool {v : Int32} (h : v = 0 ∨ v = 1) : narrow .boolean (.int v) = .int v ∧ fits .boolean (.int v) = true := by
  rcases h with rfl | rfl <;> exact ⟨rfl, rfl⟩
theorem E_putZ {a ci k idx : Nat} {rf : Nat → Option Nat} {v : Int32} (hd : decode mi.2.1 pc = .ok (.putfield idx, 3)) (hw : fr_link mi.1.cls idx ci k) (ha : fr_at L Sh a (.inl (ci, rf))) (hi : fr_isR ci k = false) (hf : (fr_TT ci k).2.2.2 = false) (hty : fr_ty ci k = .boolean) (hv : v = 0 ∨ v = 1) (hn : pc + 3 = n) (K : EE l D cy d mc ms mi A Post cells slots n lv rest L Sh (sM M a k v) J) : EE l D cy d mc ms mi A Post cells slots pc lv (.int v :: .ref a :: rest) L Sh M J := E_putV hd hw ha hi hf hty (fr_bool hv).1 (fr_bool hv).2 hn K
/-- a final reference, in a constructor -/
theorem E_putR {a ci k idx r : Nat} {rf : Nat → Option Nat} {ty : FieldType} (hd : decode mi.2.1 pc = .ok (.putfield idx, 3)) (hw : ci < 5 ∧ k < fr_nf ci ∧ Cond.fieldLink mi.1.cls idx (fr_TT ci k).1 (fr_TT ci k).2.1 (fr_TT ci k).2.2.1 ∈ lwg) (ha : fr_at L Sh a (.inl (ci, rf))) (hi : fr_isR ci k = true) (hf : (fr_TT ci k).2.2.2 = true) (hm : mi.1.name = "<init>") (hdc : (fr_TT ci k).1 = mi.1.cls) (hty : fr_ty ci k = ty) (hv1 : narrow ty (.ref r) = .ref r) (hv2 : fits ty (.ref r) = true) (hn : pc + 3 = n) (K : EE l D cy d mc ms mi A Post cells slots n lv rest L (sR Sh a (.inl (ci, va_up rf k (some r)))) M J) : EE l D cy d mc ms mi A Post cells slots pc lv (.ref r :: .ref a :: rest) L Sh M J := by
  subst hn
  subst hty
  intro p e s m args below meth c H locs ls X hP hD hS hl
  obtain ⟨q, hq⟩ := fr_place (cy := cy) (Sh := Sh) (M := M) (J := J) ha.1
  have hset : ∀ e : va_E, (va_pl L (fr_E cy Sh M J)).set q (a, e) = va_pl L (va_up (fr_E cy Sh M J) a e) := fun e => va_pl_set (X := []) hD ha.1 hq
  rw [fr_E_obj ha.2] at hq
  refine va_putF (Ts := fr_ws mi) (v := .ref r) X.1 X.2.1 X.2.2.2.2.1 (fun w h => lwg_ws mi (fr_lay hw.1 w h)) (fr_ty ci) (fr_tyok hw.1) (fr_nmok hw.1) X.2.2.2.2.2.1 X.2.2.2.2.2.2.2.2.1 hP hD hS q hq (fr_cl hw.1) k hw.2.1 (X.2.2.2.2.1 _ (lwg_ws mi hw.2.2)) (fun _ h => h) hf (X.2.2.2.2.2.2.2.1.trans hm) hdc (fr_tyok hw.1 k hw.2.1) hv1 hv2 (by rw [fr_F_len]; exact hw.2.1) hd (fun H1 locs1 hP1 hD1 hS1 => ?_)
  have e2 := fr_U_ref (cy := cy) (Sh := Sh) (M := M) (J := J) (v := some r) ha.2 hi
  rw [hset] at hP1 hD1
  rw [show (Value.ref r) = va_rf (some r) from rfl, e2] at hP1 hD1
  exact K _ _ _ _ _ _ _ _ _ _ _ X hP1 hD1 hS1 hl
theorem fr_vin {j N : Nat} (h : j < N) (hN : N < 2 ^ 31) : vp_in (nI j) N ∧ (nI j).toNatClampNeg = j := ⟨vp_in_nI h hN, nI_clamp (by omega)⟩
theorem E_iald {a N j : Nat} {v : Int32} (hd : decode mi.2.1 pc = .ok (.iaload, 1)) (ha : fr_at L Sh a (.inr (.inl (0, N)))) (hj : j < N) (hN : N < 2 ^ 31) (hv : M a j = v) (hn : pc + 1 = n) (K : EE l D cy d mc ms mi A Post cells slots n lv (.int v :: rest) L Sh M J) : EE l D cy d mc ms mi A Post cells slots pc lv (.int (nI j) :: .ref a :: rest) L Sh M J := by
  subst hn
  subst hv
  intro p e s m args below meth c H locs ls X hP hD hS hl
  obtain ⟨q, hq⟩ := fr_place (cy := cy) (Sh := Sh) (M := M) (J := J) ha.1
  rw [fr_E_i ha.2 (by decide)] at hq
  obtain ⟨h1, h2⟩ := fr_vin hj hN
  refine va_iald X.1 X.2.1 X.2.2.2.2.2.2.2.2.1 hP q 0 hq rfl h1 hd ?_
  rw [h2]
  exact K _ _ _ _ _ _ _ _ _ _ _ X hP hD hS hl
theorem E_zald {a N j : Nat} {v : Int32} (hd : decode mi.2.1 pc = .ok (.baload, 1)) (ha : fr_at L Sh a (.inr (.inl (1, N)))) (hj : j < N) (hN : N < 2 ^ 31) (hv : M a j = v) (hn : pc + 1 = n) (K : EE l D cy d mc ms mi A Post cells slots n lv (.int v :: rest) L Sh M J) : EE l D cy d mc ms mi A Post cells slots pc lv (.int (nI j) :: .ref a :: rest) L Sh M J := by
  subst hn
  subst hv
  intro p e s m args below meth c H locs ls X hP hD hS hl
  obtain ⟨q, hq⟩ := fr_place (cy := cy) (Sh := Sh) (M := M) (J := J) ha.1
  rw [fr_E_i ha.2 (by decide)] at hq
  obtain ⟨h1, h2⟩ := fr_vin hj hN
  refine va_zald X.1 X.2.1 X.2.2.2.2.2.2.2.2.1 hP q 1 hq rfl h1 hd ?_
  rw [h2]
  exact K _ _ _ _ _ _ _ _ _ _ _ X hP hD hS hl
theorem E_lald {a N j : Nat} {v : Int64} (hd : decode mi.2.1 pc = .ok (.laload, 1)) (ha : fr_at L Sh a (.inr (.inl (2, N)))) (hj : j < N) (hN : N < 2 ^ 31) (hv : J a j = v) (hn : pc + 1 = n) (K : EE l D cy d mc ms mi A Post cells slots n lv (.long v :: rest) L Sh M J) : EE l D cy d mc ms mi A Post cells slots pc lv (.int (nI j) :: .ref a :: rest) L Sh M J := by
  subst hn
  subst hv
  intro p e s m args below meth c H locs ls X hP hD hS hl
  obtain ⟨q, hq⟩ := fr_place (cy := cy) (Sh := Sh) (M := M) (J := J) ha.1
  rw [fr_E_j ha.2] at hq
  obtain ⟨h1, h2⟩ := fr_vin hj hN
  refine va_lald X.1 X.2.1 X.2.2.2.2.2.2.2.2.1 hP q 2 hq rfl h1 hd ?_
  rw [h2]
  exact K _ _ _ _ _ _ _ _ _ _ _ X hP hD hS hl
theorem E_aald {a N j r : Nat} {rf : Nat → Option Nat} (hd : decode mi.2.1 pc = .ok (.aaload, 1)) (ha : fr_at L Sh a (.inr (.inr (N, rf)))) (hj : j < N) (hN : N < 2 ^ 31) (hv : rf j = some r) (hn : pc + 1 = n) (K : EE l D cy d mc ms mi A Post cells slots n lv (.ref r :: rest) L Sh M J) : EE l D cy d mc ms mi A Post cells slots pc lv (.int (nI j) :: .ref a :: rest) L Sh M J := by
  subst hn
  intro p e s m args below meth c H locs ls X hP hD hS hl
  obtain ⟨q, hq⟩ := fr_place (cy := cy) (Sh := Sh) (M := M) (J := J) ha.1
  rw [fr_E_a ha.2] at hq
  obtain ⟨h1, h2⟩ := fr_vin hj hN
  refine va_aldq X.1 X.2.1 X.2.2.2.2.2.2.2.2.1 hP q 3 hq rfl h1 hd ?_
  rw [h2, hv]
  exact K _ _ _ _ _ _ _ _ _ _ _ X hP hD hS hl
theorem E_iast {a N j : Nat} {v : Int32} (hd : decode mi.2.1 pc = .ok (.iastore, 1)) (ha : fr_at L Sh a (.inr (.inl (0, N)))) (hj : j < N) (hN : N < 2 ^ 31) (hn : pc + 1 = n) (K : EE l D cy d mc ms mi A Post cells slots n lv rest L Sh (sM M a j v) J) : EE l D cy d mc ms mi A Post cells slots pc lv (.int v :: .int (nI j) :: .ref a :: rest) L Sh M J := by
  subst hn
  intro p e s m args below meth c H locs ls X hP hD hS hl
  obtain ⟨q, hq⟩ := fr_place (cy := cy) (Sh := Sh) (M := M) (J := J) ha.1
  have hset : ∀ e : va_E, (va_pl L (fr_E cy Sh M J)).set q (a, e) = va_pl L (va_up (fr_E cy Sh M J) a e) := fun e => va_pl_set (X := []) hD ha.1 hq
  rw [fr_E_i ha.2 (by decide)] at hq
  obtain ⟨h1, h2⟩ := fr_vin hj hN
  refine va_iast X.1 X.2.1 X.2.2.2.2.2.2.2.2.1 hP hD hS q 0 hq rfl h1 hd (fun H1 locs1 hP1 hD1 hS1 => ?_)
  rw [h2, hset, fr_U_i ha.2 (by decide)] at hP1 hD1
  exact K _ _ _ _ _ _ _ _ _ _ _ X hP1 hD1 hS1 hl
theorem E_zast {a N j : Nat} {v : Int32} (hd : decode mi.2.1 pc = .ok (.bastore, 1)) (ha : fr_at L Sh a (.inr (.inl (1, N)))) (hj : j < N) (hN : N < 2 ^ 31) (hv : v = 0 ∨ v = 1) (hn : pc + 1 = n) (K : EE l D cy d mc ms mi A Post cells slots n lv rest L Sh (sM M a j v) J) : EE l D cy d mc ms mi A Post cells slots pc lv (.int v :: .int (nI j) :: .ref a :: rest) L Sh M J := by
  subst hn
  intro p e s m args below meth c H locs ls X hP hD hS hl
  obtain ⟨q, hq⟩ := fr_place (cy := cy) (Sh := Sh) (M := M) (J := J) ha.1
  have hset : ∀ e : va_E, (va_pl L (fr_E cy Sh M J)).set q (a, e) = va_pl L (va_up (fr_E cy Sh M J) a e) := fun e => va_pl_set (X := []) hD ha.1 hq
  rw [fr_E_i ha.2 (by decide)] at hq
  obtain ⟨h1, h2⟩ := fr_vin hj hN
  have hz : vp_nar .boolean v = v := by rcases hv with rfl | rfl <;> rfl
  refine va_zast X.1 X.2.1 X.2.2.2.2.2.2.2.2.1 hP hD hS q 1 hq rfl h1 hd (fun H1 locs1 hP1 hD1 hS1 => ?_)
  rw [h2, hz, hset, fr_U_i ha.2 (by decide)] at hP1 hD1
  exact K _ _ _ _ _ _ _ _ _ _ _ X hP1 hD1 hS1 hl
theorem E_last {a N j : Nat} {v : Int64} (hd : decode mi.2.1 pc = .ok (.lastore, 1)) (ha : fr_at L Sh a (.inr (.inl (2, N)))) (hj : j < N) (hN : N < 2 ^ 31) (hn : pc + 1 = n) (K : EE l D cy d mc ms mi A Post cells slots n lv rest L Sh M (sJ J a j v)) : EE l D cy d mc ms mi A Post cells slots pc lv (.long v :: .int (nI j) :: .ref a :: rest) L Sh M J := by
  subst hn
  intro p e s m args below meth c H locs ls X hP hD hS hl
  obtain ⟨q, hq⟩ := fr_place (cy := cy) (Sh := Sh) (M := M) (J := J) ha.1
  have hset : ∀ e : va_E, (va_pl L (fr_E cy Sh M J)).set q (a, e) = va_pl L (va_up (fr_E cy Sh M J) a e) := fun e => va_pl_set (X := []) hD ha.1 hq
  rw [fr_E_j ha.2] at hq
  obtain ⟨h1, h2⟩ := fr_vin hj hN
  refine va_last X.1 X.2.1 X.2.2.2.2.2.2.2.2.1 hP hD hS q 2 hq rfl h1 hd (fun H1 locs1 hP1 hD1 hS1 => ?_)
  rw [h2, hset, fr_U_j ha.2] at hP1 hD1
  exact K _ _ _ _ _ _ _ _ _ _ _ X hP1 hD1 hS1 hl
theorem E_alen {a N : Nat} (hd : decode mi.2.1 pc = .ok (.arraylength, 1)) (ha : fr_at L Sh a (.inr (.inl (2, N)))) (hn : pc + 1 = n) (K : EE l D cy d mc ms mi A Post cells slots n lv (.int (nI N) :: rest) L Sh M J) : EE l D cy d mc ms mi A Post cells slots pc lv (.ref a :: rest) L Sh M J := by
  subst hn
  intro p e s m args below meth c H locs ls X hP hD hS hl
  obtain ⟨q, hq⟩ := fr_place (cy := cy) (Sh := Sh) (M := M) (J := J) ha.1
  rw [fr_E_j ha.2] at hq
  exact va_alen X.1 X.2.1 X.2.2.2.2.2.2.2.2.1 hP q 2 hq rfl rfl hd (K _ _ _ _ _ _ _ _ _ _ _ X hP hD hS hl)
/-- behind a call: any answer -/
theorem fr_call {p : Program} {e : Env} {R : Room} {s : State} {m : MethodId} {args : Array Value} {below : List Frame} {meth : Method} {c : Code} {H H0 : Heap} {locs : List Loc} {mc1 ms1 : Nat} {ls : Array Slot} {st0 : List Value} {Post1 : PST} {A0 A1 : Nat → Prop} {a : Array Value} {free : Addr → Prop} {Q : State → Prop} (hr : va_Run p l e R s m args below meth c H locs cells slots mc1 ms1 (F0 m pc ls st0) rest (fr_Q D cy Post1 A1 a) free) (hS : va_S A0 H0 H locs) (hA : ∀ q, q < H.size → A1 q → A0 q) (hf : ∀ q, free q → A0 q)
    (kk : ∀ (r : Option Value) (L1 : List Nat) (Sh1 : Nat → Shp) (M1 : Mem) (J1 : Mej) (t : State) (H1 : Heap) (locs1 : List Loc), t.heap = H1 → s.vm.Alike t.vm → Post1 r L1 Sh1 M1 J1 → va_P D vwCl (va_pl L1 (fr_E cy Sh1 M1 J1)) H1 → va_D A1 (va_pl L1 (fr_E cy Sh1 M1 J1)) → H.size ≤ H1.size → (∀ q : Nat, q < H.size → ¬ A1 q → H1[q]? = H[q]?) → va_S A0 H0 H1 locs1 → W p l e R s m args below meth c H1 locs1 (cells + mc1) (slots + ms1) Q (F0 m (pc + 3) ls (r.toList ++ rest))) : W p l e R s m args below meth c H locs cells slots Q (F0 m pc ls st0) := by
  intro T hT X
  obtain ⟨v, st₀, t, T', L, h0, X', hL, e1, e2, ⟨⟨r, L1, Sh1, M1, J1, hv, hp, hb, hk1, hd1⟩, hz, hk⟩, st⟩ := hr T hT X
  cases hv
  rw [h0] at hz hk
  obtain ⟨t2, a1, b1⟩ := kk v L1 Sh1 M1 J1 t T'.heap (locs ++ L) e1.symm (by rw [← e2]; exact X'.warmed.alike) hp (by rw [e1]; exact hb) hd1 (by rw [e1]; exact hz) (fun q h1 h2 => by rw [e1]; exact hk q h1 h2)
    ⟨Nat.le_trans hS.1 (by rw [e1]; exact hz), fun q h1 h2 => by rw [e1, hk q (Nat.lt_of_lt_of_le h1 hS.1) (fun z => h2 (hA q (Nat.lt_of_lt_of_le h1 hS.1) z))]; exact hS.2.1 q h1 h2, fun q hq => by
      rcases List.mem_append.mp hq with h | h
      · exact hS.2.2 q h
      · exact hf _ (hL q h)⟩ T' rfl X'
  exact ⟨t2, st t2 a1, b1⟩
theorem fr_blind {args : List Value} {sz : Nat} : FrameBlind (fr_Pc D cy args L Sh M J sz) := by
  intro a U g mk q
  obtain ⟨q0, q1, qP, qK, qD, qN⟩ := q
  exact ⟨q0, q1, qP, va_K.moved (u := U) (U := U.calling g mk a) (Vm.Alike.refl U.vm) qK, qD, fr_NW.same (s := U) (U := U.calling g mk a) rfl qN⟩
theorem fr_free {H0 H : Heap} {locs : List Loc} {ws : va_W} (hD : va_D A ws) (hS : va_S A H0 H locs) (hA : ∀ q, H0.size ≤ q → A q) : ∀ q, va_A ws H.size q → A q := by
  intro q h
  rcases h with ⟨k, e, h⟩ | h
  · exact hD.2 k _ h
  · exact hA q (Nat.le_trans hS.1 h)
def fr_mlink (own : String) (idx : Nat) (mj : MI) (C : String) (na : Nat) : Prop := Cond.methodLink own idx mj.1 ∈ lwg ∧ Cond.instanceMethod mj.1 ∈ lwg ∧ Cond.selects C mj.1 mj.1 ∈ lwg ∧ Cond.initialized C ∈ lwg ∧ Cond.code mj.1 mj.2.1 mj.2.2.1 mj.2.2.2 ∈ lwg ∧ (mj.1.cls = C ∧ mj.1.cls ≠ "java/lang/invoke/MethodHandle" ∧ mj.1.cls ≠ "java/lang/invoke/VarHandle" ∧ (parseMethodDescriptor mj.1.desc).map (fun d => d.parameters.length) = some na) ∧ mj.2.2.1 ≤ 80
def fr_slink (own : String) (idx : Nat) (mj : MI) (na : Nat) : Prop := Cond.methodLink own idx mj.1 ∈ lwg ∧ Cond.static mj.1 ∈ lwg ∧ Cond.initialized mj.1.cls ∈ lwg ∧ Cond.code mj.1 mj.2.1 mj.2.2.1 mj.2.2.2 ∈ lwg ∧ (mj.1.cls ≠ "java/lang/invoke/MethodHandle" ∧ mj.1.cls ≠ "java/lang/invoke/VarHandle" ∧ (parseMethodDescriptor mj.1.desc).map (fun d => d.parameters.length) = some na) ∧ mj.2.2.1 ≤ 80
def fr_ilink (own : String) (idx : Nat) (mj : MI) (na : Nat) : Prop := (Cond.methodLink own idx mj.1 ∈ lwg ∨ ∃ host, (own, idx, mj.1, host) ∈ fr_nM) ∧ Cond.instanceMethod mj.1 ∈ lwg ∧ Cond.initialized mj.1.cls ∈ lwg ∧ Cond.code mj.1 mj.2.1 mj.2.2.1 mj.2.2.2 ∈ lwg ∧ mj.1.name = "<init>" ∧ mj.2.2.2 = none ∧ (mj.1.cls ≠ "java/lang/invoke/MethodHandle" ∧ mj.1.cls ≠ "java/lang/invoke/VarHandle" ∧ (parseMethodDescriptor mj.1.desc).map (fun d => d.parameters.length) = some na) ∧ mj.2.2.1 ≤ 80
theorem fr_goodV {own : String} {idx na : Nat} {mj : MI} {C : String} (h : fr_mlink own idx mj C na) : GoodIn (fr_ws mi) (wsV own idx C mj.1 (fr_ws mj)) := by
  intro w hw
  have h2 : w ∈ lwg := by
    rcases List.mem_append.mp hw with e | e
    · simp only [List.mem_cons, List.not_mem_nil, or_false] at e
      rcases e with rfl | rfl | rfl | rfl
      · exact h.1
      · exact h.2.1
      · exact h.2.2.1
      · exact h.2.2.2.1
    · rcases List.mem_cons.mp e with e | e
      · rw [e]; exact h.2.2.2.2.1
      · exact e
  exact ⟨lwg_ws mi h2, good_of_word (lwg_good h2)⟩
theorem fr_goodS {own : String} {idx na : Nat} {mj : MI} (h : fr_slink own idx mj na) : GoodIn (fr_ws mi) (va_wsS own idx mj.1 (fr_ws mj)) := by
  intro w hw
  have h2 : w ∈ lwg := by
    rcases List.mem_append.mp hw with e | e
    · simp only [List.mem_cons, List.not_mem_nil, or_false] at e
      rcases e with rfl | rfl | rfl
      · exact h.1
      · exact h.2.1
      · exact h.2.2.1
    · rcases List.mem_cons.mp e with e | e
      · rw [e]; exact h.2.2.2.1
      · exact e
  exact ⟨lwg_ws mi h2, good_of_word (lwg_good h2)⟩
theorem fr_roomok {d1 mc1 ms1 k : Nat} (h : d1 + 1 ≤ d) (hk : k ≤ 80) : (fr_rm d1 mc1 ms1).frames + 1 ≤ (fr_rm d mc ms).frames ∧ 8 + (k + 11) + (fr_rm d1 mc1 ms1).locals ≤ (fr_rm d mc ms).locals := by
  refine ⟨h, ?_⟩
  show 8 + (k + 11) + 100 * d1 ≤ 100 * d
  omega
/-- a call of a method of an object -/
theorem E_callV {mj : MI} {b ci idx na d1 mc1 ms1 : Nat} {rf : Nat → Option Nat} (As : List Value) {Post1 : PST} (hd : decode mi.2.1 pc = .ok (.invokevirtual idx, 3)) (hw : fr_mlink mi.1.cls idx mj (fr_RR ci) na) (hci : ci < 5) (hb : fr_at L Sh b (.inl (ci, rf))) (hst : As.reverse ++ .ref b :: rest = st) (hlen : As.length = na) (hroom : (rest.map fun v => v.category).sum ≤ 8)
    (hM : Cn l D cy d1 mc1 ms1 mj (.ref b :: As) L Sh M J Post1) (hd1 : d1 + 1 ≤ d) (hc : cells + mc1 ≤ mc) (hs : slots + ms1 ≤ ms) (hn : pc + 3 = n)
    (K : ∀ r L1 Sh1 M1 J1, Post1 r L1 Sh1 M1 J1 → EE l D cy d mc ms mi A Post (cells + mc1) (slots + ms1) n lv (r.toList ++ rest) L1 Sh1 M1 J1) : EE l D cy d mc ms mi A Post cells slots pc lv st L Sh M J := by
  subst hn
  subst hst
  intro p e s m args below meth c H locs ls X hP hD hS hl
  obtain ⟨q, hq⟩ := fr_place (cy := cy) (Sh := Sh) (M := M) (J := J) hb.1
  rw [fr_E_obj hb.2] at hq
  have hF := fr_free hD hS X.2.2.2.2.2.2.2.2.2.2
  refine fr_call (va_runV (As := As) (rest := rest) (Ts := fr_ws mi) ⟨X.1, X.2.1, X.2.2.2.1, X.2.2.2.2.2.1, X.2.2.2.2.1⟩ (hM H.size) (cwV na X.2.2.2.2.1 (fr_goodV hw) rfl rfl rfl hw.2.2.2.2.2.1 (fr_roomok hd1 hw.2.2.2.2.2.2)) ⟨fr_blind, va_recv X.2.2.2.2.2.2.2.2.1 hP (fr_cl hci) hq, fun U hU hW => ⟨rfl, by rw [hU], by rw [hU]; exact hP, va_K.moved hW.alike X.2.2.2.2.2.2.2.2.1, hD.weaken (fun _ _ _ _ => trivial), fr_NW.warm hW X.2.2.2.2.2.2.2.2.2.1⟩⟩ rfl hlen hl.1 rfl (lv_room hroom) hd ⟨hc, hs⟩) hS (fun q _ h => hF q h) hF (fun r L1 Sh1 M1 J1 t H1 locs1 ht hvm hp1 hP1 hD1 hz1 hk1 hS1 => ?_)
  exact K r L1 Sh1 M1 J1 hp1 _ _ _ _ _ _ _ _ _ _ _ X hP1 (hD1.weaken (fun k q _ h => hF q.1 h)) hS1 hl
/-- a call of a static method -/
theorem E_callS {mj : MI} {idx na d1 mc1 ms1 : Nat} (As : List Value) {Post1 : PST} (hd : decode mi.2.1 pc = .ok (.invokestatic idx, 3)) (hw : fr_slink mi.1.cls idx mj na) (hst : As.reverse ++ rest = st) (hlen : As.length = na) (hroom : (rest.map fun v => v.category).sum ≤ 8)
    (hM : Cn l D cy d1 mc1 ms1 mj As L Sh M J Post1) (hd1 : d1 + 1 ≤ d) (hc : cells + mc1 ≤ mc) (hs : slots + ms1 ≤ ms) (hn : pc + 3 = n)
    (K : ∀ r L1 Sh1 M1 J1, Post1 r L1 Sh1 M1 J1 → EE l D cy d mc ms mi A Post (cells + mc1) (slots + ms1) n lv (r.toList ++ rest) L1 Sh1 M1 J1) : EE l D cy d mc ms mi A Post cells slots pc lv st L Sh M J := by
  subst hn
  subst hst
  intro p e s m args below meth c H locs ls X hP hD hS hl
  have hF := fr_free hD hS X.2.2.2.2.2.2.2.2.2.2
  refine fr_call (va_runS (As := As) (rest := rest) (Ts := fr_ws mi) ⟨X.1, X.2.1, X.2.2.2.1, X.2.2.2.2.2.1, X.2.2.2.2.1⟩ (hM H.size) (va_cwS na X.2.2.2.2.1 (fr_goodS hw) rfl rfl rfl hw.2.2.2.2.1 (fr_roomok hd1 hw.2.2.2.2.2)) ⟨fr_blind, fun U hU hW => ⟨rfl, by rw [hU], by rw [hU]; exact hP, va_K.moved hW.alike X.2.2.2.2.2.2.2.2.1, hD.weaken (fun _ _ _ _ => trivial), fr_NW.warm hW X.2.2.2.2.2.2.2.2.2.1⟩⟩ rfl hlen hl.1 rfl (lv_room hroom) hd ⟨hc, hs⟩) hS (fun q _ h => hF q h) hF (fun r L1 Sh1 M1 J1 t H1 locs1 ht hvm hp1 hP1 hD1 hz1 hk1 hS1 => ?_)
  exact K r L1 Sh1 M1 J1 hp1 _ _ _ _ _ _ _ _ _ _ _ X hP1 (hD1.weaken (fun k q _ h => hF q.1 h)) hS1 hl
/-- a call of a constructor -/
theorem E_callI {mj : MI} {b idx na d1 mc1 ms1 : Nat} (As : List Value) {Post1 : PST} (hd : decode mi.2.1 pc = .ok (.invokespecial idx, 3)) (hw : fr_ilink mi.1.cls idx mj na) (hst : As.reverse ++ .ref b :: rest = st) (hlen : As.length = na) (hroom : (rest.map fun v => v.category).sum ≤ 8)
    (hM : Cn l D cy d1 mc1 ms1 mj (.ref b :: As) L Sh M J Post1) (hd1 : d1 + 1 ≤ d) (hc : cells + mc1 ≤ mc) (hs : slots + ms1 ≤ ms) (hn : pc + 3 = n)
    (K : ∀ r L1 Sh1 M1 J1, Post1 r L1 Sh1 M1 J1 → EE l D cy d mc ms mi A Post (cells + mc1) (slots + ms1) n lv (r.toList ++ rest) L1 Sh1 M1 J1) : EE l D cy d mc ms mi A Post cells slots pc lv st L Sh M J := by
  subst hn
  subst hst
  intro p e s m args below meth c H locs ls X hP hD hS hl
  have hF := fr_free hD hS X.2.2.2.2.2.2.2.2.2.2
  obtain ⟨hlk, hin, hini, hcode, hnm, hret, hds, h80⟩ := hw
  have hPre : PreS s H (fr_Pc D cy (.ref b :: As) L Sh M J H.size) (.ref b :: As) := ⟨fr_blind, fun U hU hW => ⟨rfl, by rw [hU], by rw [hU]; exact hP, va_K.moved hW.alike X.2.2.2.2.2.2.2.2.1, hD.weaken (fun _ _ _ _ => trivial), fr_NW.warm hW X.2.2.2.2.2.2.2.2.2.1⟩⟩
  have hwd : ∀ w, w ∈ lwg → w.before args s = true := fun w h => X.2.2.2.2.1 _ (lwg_ws mi h)
  have hwk : fr_ws mj = Cond.code mj.1 mj.2.1 mj.2.2.1 none :: lwg := by rw [fr_ws, hret]
  rcases hlk with hk | ⟨host, hk⟩
  · refine fr_call (va_runI (As := As) (rest := rest) (Ts := fr_ws mi) ⟨X.1, X.2.1, X.2.2.2.1, X.2.2.2.2.2.1, X.2.2.2.2.1⟩ (hM H.size) (cwI na X.2.2.2.2.1 (fr_good hcode) hwk rfl rfl (hwd _ hini) (hwd _ hk) (hwd _ hin) hnm hds (fr_roomok hd1 h80)) hPre rfl hlen hl.1 rfl (lv_room hroom) hd ⟨hc, hs⟩) hS (fun q _ h => hF q h) hF (fun r L1 Sh1 M1 J1 t H1 locs1 ht hvm hp1 hP1 hD1 hz1 hk1 hS1 => ?_)
    exact K r L1 Sh1 M1 J1 hp1 _ _ _ _ _ _ _ _ _ _ _ X hP1 (hD1.weaken (fun k q _ h => hF q.1 h)) hS1 hl
  · refine fr_call (va_runIN (As := As) (rest := rest) (Ts := fr_ws mi) ⟨X.1, X.2.1, X.2.2.2.1, X.2.2.2.2.2.1, X.2.2.2.2.1⟩ (hM H.size) ⟨va_cnB na X.2.2.2.2.1 (fr_good hcode) hwk rfl rfl (X.2.2.2.2.2.2.2.2.2.1.2.1 _ hk) (hwd _ hini) hds (fr_roomok hd1 h80), hnm, hwd _ hin⟩ hPre rfl hlen hl.1 rfl (lv_room hroom) hd ⟨hc, hs⟩) hS (fun q _ h => hF q h) hF (fun r L1 Sh1 M1 J1 t H1 locs1 ht hvm hp1 hP1 hD1 hz1 hk1 hS1 => ?_)
    exact K r L1 Sh1 M1 J1 hp1 _ _ _ _ _ _ _ _ _ _ _ X hP1 (hD1.weaken (fun k q _ h => hF q.1 h)) hS1 hl
theorem E_objI {a idx : Nat} (hd : decode mi.2.1 pc = .ok (.invokespecial idx, 3)) (hk : Cond.methodLink mi.1.cls idx objectInit ∈ lwg) (h2 : Cond.instanceMethod objectInit ∈ lwg) (h3 : Cond.code objectInit ⟨#[0xb1]⟩ 1 none ∈ lwg) (hr : (rest.map fun v => v.category).sum ≤ 8) (hd1 : 1 ≤ d) (hn : pc + 3 = n) (K : EE l D cy d mc ms mi A Post cells slots n lv rest L Sh M J) : EE l D cy d mc ms mi A Post cells slots pc lv (.ref a :: rest) L Sh M J := by
  subst hn
  intro p e s m args below meth c H locs ls X hP hD hS hl
  have hwd : ∀ w, w ∈ lwg → w.before args s = true := fun w h => X.2.2.2.2.1 _ (lwg_ws mi h)
  refine W.objInit X.1 X.2.1 X.2.2.2.2.2.1 (hwd _ hk) (hwd _ h2) (hwd _ h3) rfl (by rw [X.2.2.2.1]; exact hl.1) rfl hd hd1 ?_ ?_
  · show 2 * 0 + _ + 12 ≤ 100 * d
    omega
  · exact W.eq (g2 := F0 m (pc + 3) ls rest) rfl (K _ _ _ _ _ _ _ _ _ _ _ X hP hD hS hl)
end HEAP

