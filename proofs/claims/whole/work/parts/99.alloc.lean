/-! Making: new, newarray, anewarray, aastore. Worlds by the order of making (AOK: the cells 0 .. nn - 1, where q says their addresses). -/
theorem fr_df0 : ∀ k, k < 13 → defaultValue (tyX0 k) = (if fr_isR 0 k = true then va_rf none else .int 0) := by decide +kernel
theorem fr_df1 : ∀ k, k < 6 → defaultValue (tyX1 k) = (if fr_isR 1 k = true then va_rf none else .int 0) := by decide +kernel
theorem fr_df2 : ∀ k, k < 4 → defaultValue (tyX2 k) = (if fr_isR 2 k = true then va_rf none else .int 0) := by decide +kernel
theorem fr_df3 : ∀ k, k < 14 → defaultValue (tyX3 k) = (if fr_isR 3 k = true then va_rf none else .int 0) := by decide +kernel
theorem fr_df4 : ∀ k, k < 36 → defaultValue (tyX4 k) = (if fr_isR 4 k = true then va_rf none else .int 0) := by decide +kernel
theorem fr_df {ci : Nat} (h : ci < 5) : ∀ k, k < fr_nf ci → defaultValue (fr_ty ci k) = (if fr_isR ci k = true then va_rf none else .int 0) := by
  match ci, h with
  | 0, _ => exact fr_df0
  | 1, _ => exact fr_df1
  | 2, _ => exact fr_df2
  | 3, _ => exact fr_df3
  | 4, _ => exact fr_df4
def zM (M : Mem) (a : Nat) : Mem := va_up M a (fun _ => 0)
def zJ (J : Mej) (a : Nat) : Mej := va_up J a (fun _ => 0)
theorem fr_U_newo {cy : Nat → ClassId} {Sh : Nat → Shp} {M : Mem} {J : Mej} {a ci : Nat} : va_up (fr_E cy Sh M J) a (.inr (ci, fr_F ci (fun _ => none) (fun _ => 0))) = fr_E cy (sR Sh a (.inl (ci, fun _ => none))) (zM M a) (zJ J a) := by
  funext b
  by_cases hb : b = a
  · subst hb
    rw [va_up_self, fr_E_obj (ci := ci) (rf := fun _ => none) (by simp [sR, va_up])]
    simp [zM, va_up]
  · rw [va_up_ne _ _ hb]
    simp [fr_E, sR, zM, zJ, va_up, hb]
theorem fr_U_newi {cy : Nat → ClassId} {Sh : Nat → Shp} {M : Mem} {J : Mej} {a kd N : Nat} (h2 : kd ≠ 2) : va_up (fr_E cy Sh M J) a (.inl (cy kd, N, .inl (fun _ => 0))) = fr_E cy (sR Sh a (.inr (.inl (kd, N)))) (zM M a) (zJ J a) := by
  funext b
  by_cases hb : b = a
  · subst hb
    rw [va_up_self, fr_E_i (kd := kd) (n := N) (by simp [sR, va_up]) h2]
    simp [zM, va_up]
  · rw [va_up_ne _ _ hb]
    simp [fr_E, sR, zM, zJ, va_up, hb]
theorem fr_U_newj {cy : Nat → ClassId} {Sh : Nat → Shp} {M : Mem} {J : Mej} {a N : Nat} : va_up (fr_E cy Sh M J) a (.inl (cy 2, N, .inr (.inl (fun _ => 0)))) = fr_E cy (sR Sh a (.inr (.inl (2, N)))) (zM M a) (zJ J a) := by
  funext b
  by_cases hb : b = a
  · subst hb
    rw [va_up_self, fr_E_j (n := N) (by simp [sR, va_up])]
    simp [zJ, va_up]
  · rw [va_up_ne _ _ hb]
    simp [fr_E, sR, zM, zJ, va_up, hb]
theorem fr_U_newq {cy : Nat → ClassId} {Sh : Nat → Shp} {M : Mem} {J : Mej} {a N : Nat} : va_up (fr_E cy Sh M J) a (.inl (cy 3, N, .inr (.inr (.inr (.inr (fun _ => none)))))) = fr_E cy (sR Sh a (.inr (.inr (N, fun _ => none)))) (zM M a) (zJ J a) := by
  funext b
  by_cases hb : b = a
  · subst hb
    rw [va_up_self, fr_E_a (n := N) (rf := fun _ => none) (by simp [sR, va_up])]
  · rw [va_up_ne _ _ hb]
    simp [fr_E, sR, zM, zJ, va_up, hb]
theorem fr_fresh {A : Nat → Prop} {L : List Nat} {f : Nat → va_E} {a : Nat} {e : va_E} (hD : va_D A (va_pl L f ++ [(a, e)])) : a ∉ L := by
  intro h
  obtain ⟨k, hk⟩ := va_pl_get (X := []) (f := f) h
  rw [List.nil_append] at hk
  have hlt : k < (va_pl L f).length := (List.getElem?_eq_some_iff.mp hk).1
  have h1 : (va_pl L f ++ [(a, e)])[k]? = some (a, f a) := by rw [List.getElem?_append_left hlt]; exact hk
  have h2 : (va_pl L f ++ [(a, e)])[(va_pl L f).length]? = some (a, e) := by rw [List.getElem?_append_right (Nat.le_refl _)]; simp
  have := hD.1 _ _ _ _ h1 h2 rfl
  omega
theorem wa_int : Cond.arrayClass .int ∈ lwg := lwg_of (by decide +kernel) rfl
theorem wa_boolean : Cond.arrayClass .boolean ∈ lwg := lwg_of (by decide +kernel) rfl
theorem wa_long : Cond.arrayClass .long ∈ lwg := lwg_of (by decide +kernel) rfl
theorem wn_X0 : Cond.instantiable (fr_RR 0) (fr_nf 0) ∈ lwg := lwg_of (by decide +kernel) rfl
theorem wn_X1 : Cond.instantiable (fr_RR 1) (fr_nf 1) ∈ lwg := lwg_of (by decide +kernel) rfl
theorem wn_X2 : Cond.instantiable (fr_RR 2) (fr_nf 2) ∈ lwg := lwg_of (by decide +kernel) rfl
theorem wn_X3 : Cond.instantiable (fr_RR 3) (fr_nf 3) ∈ lwg := lwg_of (by decide +kernel) rfl
theorem wn_X4 : Cond.instantiable (fr_RR 4) (fr_nf 4) ∈ lwg := lwg_of (by decide +kernel) rfl
theorem wi_R0 : Cond.initialized (fr_RR 0) ∈ lwg := wi_X0
theorem wi_R1 : Cond.initialized (fr_RR 1) ∈ lwg := wi_X1
theorem wi_R2 : Cond.initialized (fr_RR 2) ∈ lwg := wi_X2
theorem wi_R3 : Cond.initialized (fr_RR 3) ∈ lwg := wi_X3
theorem wi_R4 : Cond.initialized (fr_RR 4) ∈ lwg := wi_X4
theorem wl_X3_9 : Cond.classLink RX3 9 (fr_RR 0) ∈ lwg := lwg_of (by decide +kernel) rfl
theorem wl_X3_28 : Cond.classLink RX3 28 (fr_RR 1) ∈ lwg := lwg_of (by decide +kernel) rfl
theorem wl_X3_35 : Cond.classLink RX3 35 (fr_RR 2) ∈ lwg := lwg_of (by decide +kernel) rfl
theorem wl_L_8 : Cond.classLink RL 8 (fr_RR 3) ∈ lwg := lwg_of (by decide +kernel) rfl
theorem wl_L_20 : Cond.classLink RL 20 (fr_RR 4) ∈ lwg := lwg_of (by decide +kernel) rfl
theorem fk_X0_9 : 0 < 5 ∧ 0 < fr_nf 0 ∧ Cond.fieldLink RX0 9 (fr_TT 0 0).1 (fr_TT 0 0).2.1 (fr_TT 0 0).2.2.1 ∈ lwg := ⟨by decide, by decide, lwg_of (List.mem_of_getElem? (i := 147) (by decide +kernel)) rfl⟩
theorem fk_X1_9 : 1 < 5 ∧ 0 < fr_nf 1 ∧ Cond.fieldLink RX1 9 (fr_TT 1 0).1 (fr_TT 1 0).2.1 (fr_TT 1 0).2.2.1 ∈ lwg := ⟨by decide, by decide, lwg_of (List.mem_of_getElem? (i := 102) (by decide +kernel)) rfl⟩
theorem fk_X1_15 : 1 < 5 ∧ 1 < fr_nf 1 ∧ Cond.fieldLink RX1 15 (fr_TT 1 1).1 (fr_TT 1 1).2.1 (fr_TT 1 1).2.2.1 ∈ lwg := ⟨by decide, by decide, lwg_of (List.mem_of_getElem? (i := 103) (by decide +kernel)) rfl⟩
theorem fk_X1_18 : 1 < 5 ∧ 2 < fr_nf 1 ∧ Cond.fieldLink RX1 18 (fr_TT 1 2).1 (fr_TT 1 2).2.1 (fr_TT 1 2).2.2.1 ∈ lwg := ⟨by decide, by decide, lwg_of (List.mem_of_getElem? (i := 104) (by decide +kernel)) rfl⟩
theorem fk_X1_21 : 1 < 5 ∧ 3 < fr_nf 1 ∧ Cond.fieldLink RX1 21 (fr_TT 1 3).1 (fr_TT 1 3).2.1 (fr_TT 1 3).2.2.1 ∈ lwg := ⟨by decide, by decide, lwg_of (List.mem_of_getElem? (i := 105) (by decide +kernel)) rfl⟩
theorem fk_X1_24 : 1 < 5 ∧ 4 < fr_nf 1 ∧ Cond.fieldLink RX1 24 (fr_TT 1 4).1 (fr_TT 1 4).2.1 (fr_TT 1 4).2.2.1 ∈ lwg := ⟨by decide, by decide, lwg_of (List.mem_of_getElem? (i := 106) (by decide +kernel)) rfl⟩
theorem fk_X2_9 : 2 < 5 ∧ 0 < fr_nf 2 ∧ Cond.fieldLink RX2 9 (fr_TT 2 0).1 (fr_TT 2 0).2.1 (fr_TT 2 0).2.2.1 ∈ lwg := ⟨by decide, by decide, lwg_of (List.mem_of_getElem? (i := 129) (by decide +kernel)) rfl⟩
theorem fk_X2_15 : 2 < 5 ∧ 1 < fr_nf 2 ∧ Cond.fieldLink RX2 15 (fr_TT 2 1).1 (fr_TT 2 1).2.1 (fr_TT 2 1).2.2.1 ∈ lwg := ⟨by decide, by decide, lwg_of (List.mem_of_getElem? (i := 130) (by decide +kernel)) rfl⟩
theorem fk_X2_18 : 2 < 5 ∧ 2 < fr_nf 2 ∧ Cond.fieldLink RX2 18 (fr_TT 2 2).1 (fr_TT 2 2).2.1 (fr_TT 2 2).2.2.1 ∈ lwg := ⟨by decide, by decide, lwg_of (List.mem_of_getElem? (i := 131) (by decide +kernel)) rfl⟩
theorem fk_X3_11 : 3 < 5 ∧ 0 < fr_nf 3 ∧ Cond.fieldLink RX3 11 (fr_TT 3 0).1 (fr_TT 3 0).2.1 (fr_TT 3 0).2.2.1 ∈ lwg := ⟨by decide, by decide, lwg_of (List.mem_of_getElem? (i := 197) (by decide +kernel)) rfl⟩
theorem fk_X3_15 : 3 < 5 ∧ 1 < fr_nf 3 ∧ Cond.fieldLink RX3 15 (fr_TT 3 1).1 (fr_TT 3 1).2.1 (fr_TT 3 1).2.2.1 ∈ lwg := ⟨by decide, by decide, lwg_of (List.mem_of_getElem? (i := 198) (by decide +kernel)) rfl⟩
theorem fk_X3_19 : 3 < 5 ∧ 2 < fr_nf 3 ∧ Cond.fieldLink RX3 19 (fr_TT 3 2).1 (fr_TT 3 2).2.1 (fr_TT 3 2).2.2.1 ∈ lwg := ⟨by decide, by decide, lwg_of (List.mem_of_getElem? (i := 199) (by decide +kernel)) rfl⟩
theorem fk_X3_22 : 3 < 5 ∧ 3 < fr_nf 3 ∧ Cond.fieldLink RX3 22 (fr_TT 3 3).1 (fr_TT 3 3).2.1 (fr_TT 3 3).2.2.1 ∈ lwg := ⟨by decide, by decide, lwg_of (List.mem_of_getElem? (i := 200) (by decide +kernel)) rfl⟩
theorem fk_X3_25 : 3 < 5 ∧ 4 < fr_nf 3 ∧ Cond.fieldLink RX3 25 (fr_TT 3 4).1 (fr_TT 3 4).2.1 (fr_TT 3 4).2.2.1 ∈ lwg := ⟨by decide, by decide, lwg_of (List.mem_of_getElem? (i := 201) (by decide +kernel)) rfl⟩
theorem fk_X3_31 : 3 < 5 ∧ 5 < fr_nf 3 ∧ Cond.fieldLink RX3 31 (fr_TT 3 5).1 (fr_TT 3 5).2.1 (fr_TT 3 5).2.2.1 ∈ lwg := ⟨by decide, by decide, lwg_of (List.mem_of_getElem? (i := 202) (by decide +kernel)) rfl⟩
theorem fk_X3_38 : 3 < 5 ∧ 6 < fr_nf 3 ∧ Cond.fieldLink RX3 38 (fr_TT 3 6).1 (fr_TT 3 6).2.1 (fr_TT 3 6).2.2.1 ∈ lwg := ⟨by decide, by decide, lwg_of (List.mem_of_getElem? (i := 203) (by decide +kernel)) rfl⟩
theorem fk_X4_9 : 4 < 5 ∧ 2 < fr_nf 4 ∧ Cond.fieldLink RX4 9 (fr_TT 4 2).1 (fr_TT 4 2).2.1 (fr_TT 4 2).2.2.1 ∈ lwg := ⟨by decide, by decide, lwg_of (List.mem_of_getElem? (i := 694) (by decide +kernel)) rfl⟩
theorem fk_X4_13 : 4 < 5 ∧ 3 < fr_nf 4 ∧ Cond.fieldLink RX4 13 (fr_TT 4 3).1 (fr_TT 4 3).2.1 (fr_TT 4 3).2.2.1 ∈ lwg := ⟨by decide, by decide, lwg_of (List.mem_of_getElem? (i := 695) (by decide +kernel)) rfl⟩
theorem fk_X4_16 : 4 < 5 ∧ 4 < fr_nf 4 ∧ Cond.fieldLink RX4 16 (fr_TT 4 4).1 (fr_TT 4 4).2.1 (fr_TT 4 4).2.2.1 ∈ lwg := ⟨by decide, by decide, lwg_of (List.mem_of_getElem? (i := 696) (by decide +kernel)) rfl⟩
theorem fk_X4_19 : 4 < 5 ∧ 5 < fr_nf 4 ∧ Cond.fieldLink RX4 19 (fr_TT 4 5).1 (fr_TT 4 5).2.1 (fr_TT 4 5).2.2.1 ∈ lwg := ⟨by decide, by decide, lwg_of (List.mem_of_getElem? (i := 697) (by decide +kernel)) rfl⟩
theorem fk_X4_23 : 4 < 5 ∧ 6 < fr_nf 4 ∧ Cond.fieldLink RX4 23 (fr_TT 4 6).1 (fr_TT 4 6).2.1 (fr_TT 4 6).2.2.1 ∈ lwg := ⟨by decide, by decide, lwg_of (List.mem_of_getElem? (i := 698) (by decide +kernel)) rfl⟩
theorem fk_X4_26 : 4 < 5 ∧ 7 < fr_nf 4 ∧ Cond.fieldLink RX4 26 (fr_TT 4 7).1 (fr_TT 4 7).2.1 (fr_TT 4 7).2.2.1 ∈ lwg := ⟨by decide, by decide, lwg_of (List.mem_of_getElem? (i := 699) (by decide +kernel)) rfl⟩
theorem fk_X4_29 : 4 < 5 ∧ 8 < fr_nf 4 ∧ Cond.fieldLink RX4 29 (fr_TT 4 8).1 (fr_TT 4 8).2.1 (fr_TT 4 8).2.2.1 ∈ lwg := ⟨by decide, by decide, lwg_of (List.mem_of_getElem? (i := 700) (by decide +kernel)) rfl⟩
theorem fk_X4_32 : 4 < 5 ∧ 9 < fr_nf 4 ∧ Cond.fieldLink RX4 32 (fr_TT 4 9).1 (fr_TT 4 9).2.1 (fr_TT 4 9).2.2.1 ∈ lwg := ⟨by decide, by decide, lwg_of (List.mem_of_getElem? (i := 701) (by decide +kernel)) rfl⟩
theorem fk_X4_35 : 4 < 5 ∧ 10 < fr_nf 4 ∧ Cond.fieldLink RX4 35 (fr_TT 4 10).1 (fr_TT 4 10).2.1 (fr_TT 4 10).2.2.1 ∈ lwg := ⟨by decide, by decide, lwg_of (List.mem_of_getElem? (i := 702) (by decide +kernel)) rfl⟩
theorem fk_X4_38 : 4 < 5 ∧ 11 < fr_nf 4 ∧ Cond.fieldLink RX4 38 (fr_TT 4 11).1 (fr_TT 4 11).2.1 (fr_TT 4 11).2.2.1 ∈ lwg := ⟨by decide, by decide, lwg_of (List.mem_of_getElem? (i := 703) (by decide +kernel)) rfl⟩
theorem fk_X4_41 : 4 < 5 ∧ 12 < fr_nf 4 ∧ Cond.fieldLink RX4 41 (fr_TT 4 12).1 (fr_TT 4 12).2.1 (fr_TT 4 12).2.2.1 ∈ lwg := ⟨by decide, by decide, lwg_of (List.mem_of_getElem? (i := 704) (by decide +kernel)) rfl⟩
theorem fk_X4_44 : 4 < 5 ∧ 13 < fr_nf 4 ∧ Cond.fieldLink RX4 44 (fr_TT 4 13).1 (fr_TT 4 13).2.1 (fr_TT 4 13).2.2.1 ∈ lwg := ⟨by decide, by decide, lwg_of (List.mem_of_getElem? (i := 705) (by decide +kernel)) rfl⟩
theorem fk_X4_47 : 4 < 5 ∧ 14 < fr_nf 4 ∧ Cond.fieldLink RX4 47 (fr_TT 4 14).1 (fr_TT 4 14).2.1 (fr_TT 4 14).2.2.1 ∈ lwg := ⟨by decide, by decide, lwg_of (List.mem_of_getElem? (i := 706) (by decide +kernel)) rfl⟩
theorem fk_X4_50 : 4 < 5 ∧ 15 < fr_nf 4 ∧ Cond.fieldLink RX4 50 (fr_TT 4 15).1 (fr_TT 4 15).2.1 (fr_TT 4 15).2.2.1 ∈ lwg := ⟨by decide, by decide, lwg_of (List.mem_of_getElem? (i := 707) (by decide +kernel)) rfl⟩
theorem fk_X4_60 : 4 < 5 ∧ 20 < fr_nf 4 ∧ Cond.fieldLink RX4 60 (fr_TT 4 20).1 (fr_TT 4 20).2.1 (fr_TT 4 20).2.2.1 ∈ lwg := ⟨by decide, by decide, lwg_of (List.mem_of_getElem? (i := 712) (by decide +kernel)) rfl⟩
theorem fk_X4_63 : 4 < 5 ∧ 21 < fr_nf 4 ∧ Cond.fieldLink RX4 63 (fr_TT 4 21).1 (fr_TT 4 21).2.1 (fr_TT 4 21).2.2.1 ∈ lwg := ⟨by decide, by decide, lwg_of (List.mem_of_getElem? (i := 713) (by decide +kernel)) rfl⟩
theorem fk_X4_66 : 4 < 5 ∧ 27 < fr_nf 4 ∧ Cond.fieldLink RX4 66 (fr_TT 4 27).1 (fr_TT 4 27).2.1 (fr_TT 4 27).2.2.1 ∈ lwg := ⟨by decide, by decide, lwg_of (List.mem_of_getElem? (i := 719) (by decide +kernel)) rfl⟩
theorem fk_X4_69 : 4 < 5 ∧ 28 < fr_nf 4 ∧ Cond.fieldLink RX4 69 (fr_TT 4 28).1 (fr_TT 4 28).2.1 (fr_TT 4 28).2.2.1 ∈ lwg := ⟨by decide, by decide, lwg_of (List.mem_of_getElem? (i := 720) (by decide +kernel)) rfl⟩
theorem fk_X4_72 : 4 < 5 ∧ 30 < fr_nf 4 ∧ Cond.fieldLink RX4 72 (fr_TT 4 30).1 (fr_TT 4 30).2.1 (fr_TT 4 30).2.2.1 ∈ lwg := ⟨by decide, by decide, lwg_of (List.mem_of_getElem? (i := 722) (by decide +kernel)) rfl⟩
theorem fk_X4_75 : 4 < 5 ∧ 31 < fr_nf 4 ∧ Cond.fieldLink RX4 75 (fr_TT 4 31).1 (fr_TT 4 31).2.1 (fr_TT 4 31).2.2.1 ∈ lwg := ⟨by decide, by decide, lwg_of (List.mem_of_getElem? (i := 723) (by decide +kernel)) rfl⟩
theorem fk_X4_78 : 4 < 5 ∧ 33 < fr_nf 4 ∧ Cond.fieldLink RX4 78 (fr_TT 4 33).1 (fr_TT 4 33).2.1 (fr_TT 4 33).2.2.1 ∈ lwg := ⟨by decide, by decide, lwg_of (List.mem_of_getElem? (i := 725) (by decide +kernel)) rfl⟩
theorem fk_X4_81 : 4 < 5 ∧ 35 < fr_nf 4 ∧ Cond.fieldLink RX4 81 (fr_TT 4 35).1 (fr_TT 4 35).2.1 (fr_TT 4 35).2.2.1 ∈ lwg := ⟨by decide, by decide, lwg_of (List.mem_of_getElem? (i := 727) (by decide +kernel)) rfl⟩
section MAKE
variable {l : Launch} {D : va_G} {cy : Nat → ClassId} {d mc ms : Nat} {mi : MI} {A : Nat → Prop} {Post : PST} {cells slots pc n : Nat} {lv : LV} {st rest : List Value} {L : List Nat} {Sh : Nat → Shp} {M : Mem} {J : Mej}
theorem E_new {ci idx : Nat} (hd : decode mi.2.1 pc = .ok (.new idx, 3)) (hci : ci < 5) (hw : Cond.classLink mi.1.cls idx (fr_RR ci) ∈ lwg) (hin : Cond.instantiable (fr_RR ci) (fr_nf ci) ∈ lwg) (hini : Cond.initialized (fr_RR ci) ∈ lwg) (hc : cells + 1 ≤ mc) (hs : slots + fr_nf ci ≤ ms) (hn : pc + 3 = n) (K : ∀ a, a ∉ L → EE l D cy d mc ms mi A Post (cells + 1) (slots + fr_nf ci) n lv (.ref a :: rest) (L ++ [a]) (sR Sh a (.inl (ci, fun _ => none))) (zM M a) (zJ J a)) : EE l D cy d mc ms mi A Post cells slots pc lv rest L Sh M J := by
  subst hn
  intro p e s m args below meth c H locs ls X hP hD hS hl
  have hwd : ∀ w, w ∈ lwg → w.before args s = true := fun w h => X.2.2.2.2.1 _ (lwg_ws mi h)
  refine va_new (C := fr_RR ci) (T := fr_TT ci) (N := fr_nf ci) (ci := ci) (fs := fr_F ci (fun _ => none) (fun _ => 0)) (Ts := fr_ws mi) X.1 X.2.1 X.2.2.2.2.1 (fun w h => lwg_ws mi (fr_lay hci w h)) (fr_ty ci) (fr_tyok hci) X.2.2.2.2.2.1 (hwd _ hw) (hwd _ hin) (hwd _ hini) X.2.2.2.2.2.2.2.2.1 hP hD hS X.2.2.2.2.2.2.2.2.2.2 (fr_cl hci) (fun j hj => ?_) hc hs hd (fun a H1 hP1 hD1 hS1 => ?_)
  · rw [fr_df hci j hj]
    show _ = (fr_F ci (fun _ => none) (fun _ => 0)).getD j .null
    rw [List.getD_eq_getElem?_getD, fr_F_get _ _ hj]
    rfl
  · have ha := fr_fresh hD1
    rw [va_pl_push ha, fr_U_newo] at hP1 hD1
    exact K a ha _ _ _ _ _ _ _ _ _ _ _ X hP1 hD1 hS1 hl
theorem E_newi {N : Nat} (hd : decode mi.2.1 pc = .ok (.newarray .int, 2)) (hN : N < 100000) (hc : cells + 1 ≤ mc) (hs : slots + N ≤ ms) (hn : pc + 2 = n) (K : ∀ a, a ∉ L → EE l D cy d mc ms mi A Post (cells + 1) (slots + N) n lv (.ref a :: rest) (L ++ [a]) (sR Sh a (.inr (.inl (0, N)))) (zM M a) (zJ J a)) : EE l D cy d mc ms mi A Post cells slots pc lv (.int (nI N) :: rest) L Sh M J := by
  subst hn
  intro p e s m args below meth c H locs ls X hP hD hS hl
  have hwd : ∀ w, w ∈ lwg → w.before args s = true := fun w h => X.2.2.2.2.1 _ (lwg_ws mi h)
  refine va_newa (atype := .int) (ty := .int) (N' := N) (a0 := (N, .inl (fun _ => 0))) X.1 X.2.1 (hwd _ wa_int) rfl X.2.2.2.2.2.2.2.2.1 hP hD hS X.2.2.2.2.2.2.2.2.2.2 (fun cA => rfl) (nI_pos (by omega)) (nI_clamp (by omega)) (by show N * 4 ≤ 536870912; omega) hc hs hd (fun a cA H1 hK1 hP1 hD1 hS1 => ?_)
  have e1 : s.vm.findClass ("[" ++ (FieldType.int).toString) = some cA := (hK1.2 4 (cA, .int) rfl).2
  have e2 : s.vm.findClass ("[" ++ (FieldType.int).toString) = some (cy 0) := (X.2.2.2.2.2.2.2.2.1.2 0 (cy 0, .int) rfl).2
  obtain rfl : cA = cy 0 := Option.some.inj (e1.symm.trans e2)
  have ha := fr_fresh hD1
  rw [va_pl_push ha, fr_U_newi (by decide)] at hP1 hD1
  exact K a ha _ _ _ _ _ _ _ _ _ _ _ X hP1 hD1 hS1 hl
theorem E_newz {N : Nat} (hd : decode mi.2.1 pc = .ok (.newarray .boolean, 2)) (hN : N < 100000) (hc : cells + 1 ≤ mc) (hs : slots + N ≤ ms) (hn : pc + 2 = n) (K : ∀ a, a ∉ L → EE l D cy d mc ms mi A Post (cells + 1) (slots + N) n lv (.ref a :: rest) (L ++ [a]) (sR Sh a (.inr (.inl (1, N)))) (zM M a) (zJ J a)) : EE l D cy d mc ms mi A Post cells slots pc lv (.int (nI N) :: rest) L Sh M J := by
  subst hn
  intro p e s m args below meth c H locs ls X hP hD hS hl
  have hwd : ∀ w, w ∈ lwg → w.before args s = true := fun w h => X.2.2.2.2.1 _ (lwg_ws mi h)
  refine va_newa (atype := .boolean) (ty := .boolean) (N' := N) (a0 := (N, .inl (fun _ => 0))) X.1 X.2.1 (hwd _ wa_boolean) rfl X.2.2.2.2.2.2.2.2.1 hP hD hS X.2.2.2.2.2.2.2.2.2.2 (fun cA => rfl) (nI_pos (by omega)) (nI_clamp (by omega)) (by show N * 1 ≤ 536870912; omega) hc hs hd (fun a cA H1 hK1 hP1 hD1 hS1 => ?_)
  have e1 : s.vm.findClass ("[" ++ (FieldType.boolean).toString) = some cA := (hK1.2 4 (cA, .boolean) rfl).2
  have e2 : s.vm.findClass ("[" ++ (FieldType.boolean).toString) = some (cy 1) := (X.2.2.2.2.2.2.2.2.1.2 1 (cy 1, .boolean) rfl).2
  obtain rfl : cA = cy 1 := Option.some.inj (e1.symm.trans e2)
  have ha := fr_fresh hD1
  rw [va_pl_push ha, fr_U_newi (by decide)] at hP1 hD1
  exact K a ha _ _ _ _ _ _ _ _ _ _ _ X hP1 hD1 hS1 hl
theorem E_newj {N : Nat} (hd : decode mi.2.1 pc = .ok (.newarray .long, 2)) (hN : N < 100000) (hc : cells + 1 ≤ mc) (hs : slots + N ≤ ms) (hn : pc + 2 = n) (K : ∀ a, a ∉ L → EE l D cy d mc ms mi A Post (cells + 1) (slots + N) n lv (.ref a :: rest) (L ++ [a]) (sR Sh a (.inr (.inl (2, N)))) (zM M a) (zJ J a)) : EE l D cy d mc ms mi A Post cells slots pc lv (.int (nI N) :: rest) L Sh M J := by
  subst hn
  intro p e s m args below meth c H locs ls X hP hD hS hl
  have hwd : ∀ w, w ∈ lwg → w.before args s = true := fun w h => X.2.2.2.2.1 _ (lwg_ws mi h)
  refine va_newa (atype := .long) (ty := .long) (N' := N) (a0 := (N, .inr (.inl (fun _ => 0)))) X.1 X.2.1 (hwd _ wa_long) rfl X.2.2.2.2.2.2.2.2.1 hP hD hS X.2.2.2.2.2.2.2.2.2.2 (fun cA => rfl) (nI_pos (by omega)) (nI_clamp (by omega)) (by show N * 8 ≤ 536870912; omega) hc hs hd (fun a cA H1 hK1 hP1 hD1 hS1 => ?_)
  have e1 : s.vm.findClass ("[" ++ (FieldType.long).toString) = some cA := (hK1.2 4 (cA, .long) rfl).2
  have e2 : s.vm.findClass ("[" ++ (FieldType.long).toString) = some (cy 2) := (X.2.2.2.2.2.2.2.2.1.2 2 (cy 2, .long) rfl).2
  obtain rfl : cA = cy 2 := Option.some.inj (e1.symm.trans e2)
  have ha := fr_fresh hD1
  rw [va_pl_push ha, fr_U_newj] at hP1 hD1
  exact K a ha _ _ _ _ _ _ _ _ _ _ _ X hP1 hD1 hS1 hl
theorem E_newq {N idx : Nat} (hd : decode mi.2.1 pc = .ok (.anewarray idx, 3)) (hw : Cond.classLink mi.1.cls idx (fr_RR 0) ∈ lwg) (hN : N < 100000) (hc : cells + 1 ≤ mc) (hs : slots + N ≤ ms) (hn : pc + 3 = n) (K : ∀ a, a ∉ L → EE l D cy d mc ms mi A Post (cells + 1) (slots + N) n lv (.ref a :: rest) (L ++ [a]) (sR Sh a (.inr (.inr (N, fun _ => none)))) (zM M a) (zJ J a)) : EE l D cy d mc ms mi A Post cells slots pc lv (.int (nI N) :: rest) L Sh M J := by
  subst hn
  intro p e s m args below meth c H locs ls X hP hD hS hl
  have hwd : ∀ w, w ∈ lwg → w.before args s = true := fun w h => X.2.2.2.2.1 _ (lwg_ws mi h)
  refine va_newq (C := RX0) (N' := N) X.1 X.2.1 X.2.2.2.2.2.1 (hwd _ hw) X.2.2.2.2.2.2.2.2.2.1.2.2 X.2.2.2.2.2.2.2.2.1 hP hD hS X.2.2.2.2.2.2.2.2.2.2 (nI_pos (by omega)) (nI_clamp (by omega)) (by omega) hc hs hd (fun a cA H1 hK1 hP1 hD1 hS1 => ?_)
  obtain ⟨k1, c1, -, -, -, e1⟩ := (hK1.2 4 (cA, .object RX0) rfl).2
  obtain ⟨k2, c2, -, -, -, e2⟩ := (X.2.2.2.2.2.2.2.2.1.2 3 (cy 3, .object "HomeRings$Household") rfl).2
  obtain rfl : cA = cy 3 := Option.some.inj (e1.symm.trans e2)
  have ha := fr_fresh hD1
  rw [va_pl_push ha, fr_U_newq] at hP1 hD1
  exact K a ha _ _ _ _ _ _ _ _ _ _ _ X hP1 hD1 hS1 hl
theorem E_aast {a N j r : Nat} {rf rv : Nat → Option Nat} (hd : decode mi.2.1 pc = .ok (.aastore, 1)) (ha : fr_at L Sh a (.inr (.inr (N, rf)))) (hr : fr_at L Sh r (.inl (0, rv))) (hj : j < N) (hN : N < 2 ^ 31) (hn : pc + 1 = n) (K : EE l D cy d mc ms mi A Post cells slots n lv rest L (sR Sh a (.inr (.inr (N, va_up rf j (some r))))) M J) : EE l D cy d mc ms mi A Post cells slots pc lv (.ref r :: .int (nI j) :: .ref a :: rest) L Sh M J := by
  subst hn
  intro p e s m args below meth c H locs ls X hP hD hS hl
  obtain ⟨q, hq⟩ := fr_place (cy := cy) (Sh := Sh) (M := M) (J := J) ha.1
  have hset : ∀ e : va_E, (va_pl L (fr_E cy Sh M J)).set q (a, e) = va_pl L (va_up (fr_E cy Sh M J) a e) := fun e => va_pl_set (X := []) hD ha.1 hq
  rw [fr_E_a ha.2] at hq
  obtain ⟨qk, hqk⟩ := fr_place (cy := cy) (Sh := Sh) (M := M) (J := J) hr.1
  rw [fr_E_obj hr.2] at hqk
  obtain ⟨h1, h2⟩ := fr_vin hj hN
  refine va_astq X.1 X.2.1 X.2.2.2.2.2.2.2.2.1 hP hD hS q 3 qk 0 hq rfl hqk (fr_cl (by decide)) h1 hd (fun H1 locs1 hP1 hD1 hS1 => ?_)
  rw [h2, hset, fr_U_a ha.2] at hP1 hD1
  exact K _ _ _ _ _ _ _ _ _ _ _ X hP1 hD1 hS1 hl
end MAKE
section GMAKE
variable {l : Launch} {D : va_G} {cy : Nat → ClassId} {R : Room} {mi : MI} {Ts : List Cond} {A : State → Nat → Prop} {Xt : GXt} {Q : GQt} {cells slots pc n : Nat} {lv : LV} {st rest : List Value} {L : List Nat} {Sh : Nat → Shp} {M : Mem} {J : Mej}
theorem G_new {ci idx : Nat} (hd : decode mi.2.1 pc = .ok (.new idx, 3)) (hci : ci < 5) (hw : Cond.classLink mi.1.cls idx (fr_RR ci) ∈ lwg) (hin : Cond.instantiable (fr_RR ci) (fr_nf ci) ∈ lwg) (hini : Cond.initialized (fr_RR ci) ∈ lwg) (hc : cells + 1 ≤ R.cells) (hs : slots + fr_nf ci ≤ R.slots) (hn : pc + 3 = n) (K : ∀ a, a ∉ L → EG l D cy R mi Ts A Xt Q (cells + 1) (slots + fr_nf ci) n lv (.ref a :: rest) (L ++ [a]) (sR Sh a (.inl (ci, fun _ => none))) (zM M a) (zJ J a)) : EG l D cy R mi Ts A Xt Q cells slots pc lv rest L Sh M J := by
  subst hn
  intro p e s m args below meth c H locs ls X hP hD hS hl
  have hwd : ∀ w, w ∈ lwg → w.before args s = true := fun w h => X.1.2.2.2.2.1 _ (X.1.2.2.2.2.2.2.2.1 _ h)
  refine va_new (C := fr_RR ci) (T := fr_TT ci) (N := fr_nf ci) (ci := ci) (fs := fr_F ci (fun _ => none) (fun _ => 0)) (Ts := Ts) X.1.1 X.1.2.1 X.1.2.2.2.2.1 (fun w h => X.1.2.2.2.2.2.2.2.1 _ (fr_lay hci w h)) (fr_ty ci) (fr_tyok hci) X.1.2.2.2.2.2.1 (hwd _ hw) (hwd _ hin) (hwd _ hini) X.1.2.2.2.2.2.2.2.2.1 hP hD hS X.1.2.2.2.2.2.2.2.2.2.2 (fr_cl hci) (fun j hj => ?_) hc hs hd (fun a H1 hP1 hD1 hS1 => ?_)
  · rw [fr_df hci j hj]
    show _ = (fr_F ci (fun _ => none) (fun _ => 0)).getD j .null
    rw [List.getD_eq_getElem?_getD, fr_F_get _ _ hj]
    rfl
  · have ha := fr_fresh hD1
    rw [va_pl_push ha, fr_U_newo] at hP1 hD1
    exact K a ha _ _ _ _ _ _ _ _ _ _ _ X hP1 hD1 hS1 hl
theorem G_newj {N : Nat} (hd : decode mi.2.1 pc = .ok (.newarray .long, 2)) (hN : N < 100000) (hc : cells + 1 ≤ R.cells) (hs : slots + N ≤ R.slots) (hn : pc + 2 = n) (K : ∀ a, a ∉ L → EG l D cy R mi Ts A Xt Q (cells + 1) (slots + N) n lv (.ref a :: rest) (L ++ [a]) (sR Sh a (.inr (.inl (2, N)))) (zM M a) (zJ J a)) : EG l D cy R mi Ts A Xt Q cells slots pc lv (.int (nI N) :: rest) L Sh M J := by
  subst hn
  intro p e s m args below meth c H locs ls X hP hD hS hl
  have hwd : ∀ w, w ∈ lwg → w.before args s = true := fun w h => X.1.2.2.2.2.1 _ (X.1.2.2.2.2.2.2.2.1 _ h)
  refine va_newa (atype := .long) (ty := .long) (N' := N) (a0 := (N, .inr (.inl (fun _ => 0)))) X.1.1 X.1.2.1 (hwd _ wa_long) rfl X.1.2.2.2.2.2.2.2.2.1 hP hD hS X.1.2.2.2.2.2.2.2.2.2.2 (fun cA => rfl) (nI_pos (by omega)) (nI_clamp (by omega)) (by show N * 8 ≤ 536870912; omega) hc hs hd (fun a cA H1 hK1 hP1 hD1 hS1 => ?_)
  have e1 : s.vm.findClass ("[" ++ (FieldType.long).toString) = some cA := (hK1.2 4 (cA, .long) rfl).2
  have e2 : s.vm.findClass ("[" ++ (FieldType.long).toString) = some (cy 2) := (X.1.2.2.2.2.2.2.2.2.1.2 2 (cy 2, .long) rfl).2
  obtain rfl : cA = cy 2 := Option.some.inj (e1.symm.trans e2)
  have ha := fr_fresh hD1
  rw [va_pl_push ha, fr_U_newj] at hP1 hD1
  exact K a ha _ _ _ _ _ _ _ _ _ _ _ X hP1 hD1 hS1 hl
theorem G_callI {mj : MI} {b idx na d1 mc1 ms1 : Nat} (As : List Value) {Post1 : PST} (hd : decode mi.2.1 pc = .ok (.invokespecial idx, 3)) (hw : fr_ilink mi.1.cls idx mj na) (hst : As.reverse ++ .ref b :: rest = st) (hlen : As.length = na) (hroom : (rest.map fun v => v.category).sum ≤ 8)
    (hM : Cn l D cy d1 mc1 ms1 mj (.ref b :: As) L Sh M J Post1) (hd1 : d1 + 1 ≤ R.frames) (hlo : 100 * d1 + 99 ≤ R.locals) (hc : cells + mc1 ≤ R.cells) (hs : slots + ms1 ≤ R.slots) (hn : pc + 3 = n)
    (K : ∀ r L1 Sh1 M1 J1, Post1 r L1 Sh1 M1 J1 → EG l D cy R mi Ts A Xt Q (cells + mc1) (slots + ms1) n lv (r.toList ++ rest) L1 Sh1 M1 J1) : EG l D cy R mi Ts A Xt Q cells slots pc lv st L Sh M J := by
  subst hn
  subst hst
  intro p e s m args below meth c H locs ls X hP hD hS hl
  have hF := fr_free hD hS X.1.2.2.2.2.2.2.2.2.2.2
  obtain ⟨hlk, hin, hini, hcode, hnm, hret, hds, h80⟩ := hw
  have hPre : PreS s H (fr_Pc D cy (.ref b :: As) L Sh M J H.size) (.ref b :: As) := ⟨fr_blind, fun U hU hW => ⟨rfl, by rw [hU], by rw [hU]; exact hP, va_K.moved hW.alike X.1.2.2.2.2.2.2.2.2.1, hD.weaken (fun _ _ _ _ => trivial), fr_NW.warm hW X.1.2.2.2.2.2.2.2.2.2.1⟩⟩
  have hwd : ∀ w, w ∈ lwg → w.before args s = true := fun w h => X.1.2.2.2.2.1 _ (X.1.2.2.2.2.2.2.2.1 _ h)
  have hwk : fr_ws mj = Cond.code mj.1 mj.2.1 mj.2.2.1 none :: lwg := by rw [fr_ws, hret]
  rcases hlk with hk | ⟨host, hk⟩
  · refine fr_call (va_runI (As := As) (rest := rest) (Ts := Ts) ⟨X.1.1, X.1.2.1, X.1.2.2.2.1, X.1.2.2.2.2.2.1, X.1.2.2.2.2.1⟩ (hM H.size) (cwI na X.1.2.2.2.2.1 (g_good X.1.2.2.2.2.2.2.2.1 (g_ws hcode)) hwk rfl rfl (hwd _ hini) (hwd _ hk) (hwd _ hin) hnm hds (g_room hd1 hlo h80)) hPre rfl hlen hl.1 rfl (lv_room hroom) hd ⟨hc, hs⟩) hS (fun q _ h => hF q h) hF (fun r L1 Sh1 M1 J1 t H1 locs1 ht hvm hp1 hP1 hD1 hz1 hk1 hS1 => ?_)
    exact K r L1 Sh1 M1 J1 hp1 _ _ _ _ _ _ _ _ _ _ _ X hP1 (hD1.weaken (fun k q _ h => hF q.1 h)) hS1 hl
  · refine fr_call (va_runIN (As := As) (rest := rest) (Ts := Ts) ⟨X.1.1, X.1.2.1, X.1.2.2.2.1, X.1.2.2.2.2.2.1, X.1.2.2.2.2.1⟩ (hM H.size) ⟨va_cnB na X.1.2.2.2.2.1 (g_good X.1.2.2.2.2.2.2.2.1 (g_ws hcode)) hwk rfl rfl (X.1.2.2.2.2.2.2.2.2.2.1.2.1 _ hk) (hwd _ hini) hds (g_room hd1 hlo h80), hnm, hwd _ hin⟩ hPre rfl hlen hl.1 rfl (lv_room hroom) hd ⟨hc, hs⟩) hS (fun q _ h => hF q h) hF (fun r L1 Sh1 M1 J1 t H1 locs1 ht hvm hp1 hP1 hD1 hz1 hk1 hS1 => ?_)
    exact K r L1 Sh1 M1 J1 hp1 _ _ _ _ _ _ _ _ _ _ _ X hP1 (hD1.weaken (fun k q _ h => hF q.1 h)) hS1 hl
end GMAKE
