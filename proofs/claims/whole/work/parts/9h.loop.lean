/-! The law's loop, and its start. -/
theorem cmp6 {a c : Nat} (ha : a < 2 ^ 20) (hc : c < 2 ^ 20) : nI a - nI 6 < nI c ↔ a < c + 6 := by
  rw [Int32.lt_iff_toInt_lt, pk_sub_toInt (by omega) (by decide), nI_toInt (by omega)]
  omega
section LOOP
variable {l : Launch} {D : va_G} {cy : Nat → ClassId} {b Ls : Nat} {xs : Nat → Int32} {sa : Nat → Nat} {L : List Nat} {Sh : Nat → Shp} {q qi : Nat → Nat}
set_option maxRecDepth 100000 in
theorem lw_sw {cells slots i0 : Nat} {S : GS} {N : Mem} {K : Mej} (htr : l.stackTraces = false) (hout : fr_at L Sh (q 99) outS) (hW : WOK L Sh q qi) (I : Inv S N K) (hi : i0 + 5 < Ls) (hL : Ls ≤ 3072) (hc : cells ≤ 700) (hs : slots ≤ 30000) (nx : NX l D cy b Ls xs sa cells slots i0 L Sh q qi) (v : Int32) : EL l D cy b Ls xs sa cells slots 40 (lv0 b q i0) [.int v] L Sh (km qi N) (kj qi K) := by
  by_cases e0 : v = nI 0
  · subst e0
    refine G_tswI (off := 116) (tgt := 156) dL_law_40 (by decide) (by decide) (by decide) (by decide) ?_
    exact lw_c0 hW I hi hL hc hs nx
  by_cases e1 : v = nI 1
  · subst e1
    refine G_tswI (off := 193) (tgt := 233) dL_law_40 (by decide) (by decide) (by decide) (by decide) ?_
    exact lw_c1 hW I hi hL hc hs nx
  by_cases e2 : v = nI 2
  · subst e2
    refine G_tswI (off := 254) (tgt := 294) dL_law_40 (by decide) (by decide) (by decide) (by decide) ?_
    exact lw_c2 hW I hi hL hc hs nx
  by_cases e3 : v = nI 3
  · subst e3
    refine G_tswI (off := 291) (tgt := 331) dL_law_40 (by decide) (by decide) (by decide) (by decide) ?_
    exact lw_c3 hW I hi hL hc hs nx
  by_cases e4 : v = nI 4
  · subst e4
    refine G_tswI (off := 364) (tgt := 404) dL_law_40 (by decide) (by decide) (by decide) (by decide) ?_
    exact lw_c4 hW I hi hL hc hs nx
  by_cases e5 : v = nI 5
  · subst e5
    refine G_tswI (off := 429) (tgt := 469) dL_law_40 (by decide) (by decide) (by decide) (by decide) ?_
    exact lw_c5 hW I hi hL hc hs nx
  by_cases e6 : v = nI 6
  · subst e6
    refine G_tswI (off := 482) (tgt := 522) dL_law_40 (by decide) (by decide) (by decide) (by decide) ?_
    exact lw_c6 hW I hi hL hc hs nx
  by_cases e7 : v = nI 7
  · subst e7
    refine G_tswI (off := 519) (tgt := 559) dL_law_40 (by decide) (by decide) (by decide) (by decide) ?_
    exact lw_c7 hW I hi hL hc hs nx
  by_cases e8 : v = nI 8
  · subst e8
    refine G_tswI (off := 544) (tgt := 584) dL_law_40 (by decide) (by decide) (by decide) (by decide) ?_
    exact lw_c8 htr hout hW I hi hL hc hs nx
  by_cases e9 : v = nI 9
  · subst e9
    refine G_tswI (off := 612) (tgt := 652) dL_law_40 (by decide) (by decide) (by decide) (by decide) ?_
    exact lw_c9 hW I hi hL hc hs nx
  by_cases e10 : v = nI 10
  · subst e10
    refine G_tswI (off := 649) (tgt := 689) dL_law_40 (by decide) (by decide) (by decide) (by decide) ?_
    exact lw_c10 hW I hi hL hc hs nx
  by_cases e11 : v = nI 11
  · subst e11
    refine G_tswI (off := 686) (tgt := 726) dL_law_40 (by decide) (by decide) (by decide) (by decide) ?_
    exact lw_c11 hW I hi hL hc hs nx
  by_cases e12 : v = nI 12
  · subst e12
    refine G_tswI (off := 723) (tgt := 763) dL_law_40 (by decide) (by decide) (by decide) (by decide) ?_
    exact lw_c12 hW I hi hL hc hs nx
  by_cases e13 : v = nI 13
  · subst e13
    refine G_tswI (off := 760) (tgt := 800) dL_law_40 (by decide) (by decide) (by decide) (by decide) ?_
    exact lw_c13 hW I hi hL hc hs nx
  by_cases e14 : v = nI 14
  · subst e14
    refine G_tswI (off := 773) (tgt := 813) dL_law_40 (by decide) (by decide) (by decide) (by decide) ?_
    exact lw_c14 hW I hi hL hc hs nx
  by_cases e15 : v = nI 15
  · subst e15
    refine G_tswI (off := 786) (tgt := 826) dL_law_40 (by decide) (by decide) (by decide) (by decide) ?_
    exact lw_c15 hW I hi hL hc hs nx
  by_cases e16 : v = nI 16
  · subst e16
    refine G_tswI (off := 799) (tgt := 839) dL_law_40 (by decide) (by decide) (by decide) (by decide) ?_
    exact lw_c16 hW I hi hL hc hs nx
  by_cases e17 : v = nI 17
  · subst e17
    refine G_tswI (off := 812) (tgt := 852) dL_law_40 (by decide) (by decide) (by decide) (by decide) ?_
    exact lw_c17 hW I hi hL hc hs nx
  by_cases e18 : v = nI 18
  · subst e18
    refine G_tswI (off := 825) (tgt := 865) dL_law_40 (by decide) (by decide) (by decide) (by decide) ?_
    exact lw_c18 hW I hi hL hc hs nx
  by_cases e19 : v = nI 19
  · subst e19
    refine G_tswI (off := 850) (tgt := 890) dL_law_40 (by decide) (by decide) (by decide) (by decide) ?_
    exact lw_c19 hW I hi hL hc hs nx
  by_cases e20 : v = nI 20
  · subst e20
    refine G_tswI (off := 875) (tgt := 915) dL_law_40 (by decide) (by decide) (by decide) (by decide) ?_
    exact lw_c20 hW I hi hL hc hs nx
  by_cases e21 : v = nI 21
  · subst e21
    refine G_tswI (off := 888) (tgt := 928) dL_law_40 (by decide) (by decide) (by decide) (by decide) ?_
    exact lw_c21 hW I hi hL hc hs nx
  by_cases e22 : v = nI 22
  · subst e22
    refine G_tswI (off := 901) (tgt := 941) dL_law_40 (by decide) (by decide) (by decide) (by decide) ?_
    exact lw_c22 hW I hi hL hc hs nx
  by_cases e23 : v = nI 23
  · subst e23
    refine G_tswI (off := 938) (tgt := 978) dL_law_40 (by decide) (by decide) (by decide) (by decide) ?_
    exact lw_c23 hW I hi hL hc hs nx
  by_cases e24 : v = nI 24
  · subst e24
    refine G_tswI (off := 951) (tgt := 991) dL_law_40 (by decide) (by decide) (by decide) (by decide) ?_
    exact lw_c24 htr hout hW I hi hL hc hs nx
  refine G_tswO (tgt := 1047) dL_law_40 ?_ (by decide) (G_widen (by omega) (by omega) (nx S N K I))
  refine sw_out (x := v) 24 (by decide) (fun j hj => ?_)
  rcases (show j = 0 ∨ j = 1 ∨ j = 2 ∨ j = 3 ∨ j = 4 ∨ j = 5 ∨ j = 6 ∨ j = 7 ∨ j = 8 ∨ j = 9 ∨ j = 10 ∨ j = 11 ∨ j = 12 ∨ j = 13 ∨ j = 14 ∨ j = 15 ∨ j = 16 ∨ j = 17 ∨ j = 18 ∨ j = 19 ∨ j = 20 ∨ j = 21 ∨ j = 22 ∨ j = 23 ∨ j = 24 by omega) with rfl | rfl | rfl | rfl | rfl | rfl | rfl | rfl | rfl | rfl | rfl | rfl | rfl | rfl | rfl | rfl | rfl | rfl | rfl | rfl | rfl | rfl | rfl | rfl | rfl <;> assumption
set_option maxRecDepth 100000 in
theorem lw_loop (htr : l.stackTraces = false) (hout : fr_at L Sh (q 99) outS) (hW : WOK L Sh q qi) (hL : Ls ≤ 3072) : ∀ (m k : Nat) (S : GS) (N : Mem) (K : Mej), Ls < 6 * k + 6 * m + 6 → 6 * k ≤ Ls → Inv S N K → EL l D cy b Ls xs sa (100 + k) (20000 + 6 * k) 23 (lv0 b q (6 * k)) [] L Sh (km qi N) (kj qi K)
  | m, k, S, N, K, hm, hk, I => by
    refine G_iload dL_law_23 rfl rfl ?_
    refine G_aload_n dL_law_25 rfl rfl ?_
    refine L_slen dL_law_26 rfl ?_
    refine G_bipush (v := nI 6) dL_law_27 (by decide) rfl ?_
    refine G_isub dL_law_29 rfl ?_
    refine G_icmp_gt (tgt := 1053) dL_law_30 (by decide) rfl (fun c30 => ?_) (fun c30 => ?_)
    · refine G_iconst (v := 1) dL_law_1053 (by decide) rfl ?_
      exact L_ret dL_law_1054 (by omega) (by omega)
    · rw [cmp6 (by omega) (by omega)] at c30
      match m, hm with
      | 0, hm => omega
      | m + 1, hm =>
        refine G_aload_n dL_law_33 rfl rfl ?_
        refine G_iload dL_law_34 rfl rfl ?_
        refine L_sld dL_law_36 (by omega) hL rfl ?_
        refine G_bipush (v := nI 31) dL_law_37 (by decide) rfl ?_
        refine G_iand dL_law_39 rfl ?_
        refine lw_sw htr hout hW I (by omega) hL (by omega) (by omega) (fun S1 N1 K1 I1 => ?_) _
        refine G_iinc (v := nI (6 * (k + 1))) (lv' := lv0 b q (6 * (k + 1))) dL_law_1047 rfl (nI_add (6 * k) 6) (by decide) rfl rfl ?_
        refine G_goto (tgt := 23) dL_law_1050 (by decide) ?_
        exact G_widen (by omega) (by omega) (lw_loop htr hout hW hL m (k + 1) S1 N1 K1 (by omega) (by omega) I1)
end LOOP
set_option maxRecDepth 100000 in
theorem lw_run {l : Launch} (htr : l.stackTraces = false) {D : va_G} {cy : Nat → ClassId} {b Ls : Nat} {xs : Nat → Int32} {sa : Nat → Nat} (hL : Ls ≤ 3072) {Sh : Nat → Shp} {M : Mem} {J : Mej} : EL l D cy b Ls xs sa 0 0 0 [(0, .ref b)] [] [] Sh M J := by
  refine G_new (ci := 3) dL_law_0 (by decide) wl_L_8 wn_X3 wi_R3 (by decide) (by decide) rfl (fun a1 ha1 => ?_)
  have hA0 : AOK 0 (fun _ => 0) T00 (fun _ _ => 0) (fun _ _ => 0) [] Sh M J := ⟨fun i hi => absurd hi (Nat.not_lt_zero i), fun i j hi => absurd hi (Nat.not_lt_zero i)⟩
  have hA1 := hA0.new ha1 (x := .inl (3, fun _ => none)) (fun _ => rfl)
  refine G_dup dL_law_3 rfl rfl ?_
  refine G_callI (d1 := 60) (mc1 := 35) (ms1 := 8691) (rest := [.ref a1]) [] dL_law_4 ml_L_19 rfl rfl (Nat.le_of_ble_eq_true rfl) (c_X3_init (by decide) (T := sR T00 0 (.inl (3, fun _ => none))) rfl l D cy _ _ _ _ _ hA1) (by decide) (by decide) (by decide) (by decide) rfl ?_
  rintro r L1 Sh1 M1 J1 ⟨rfl, q2, n2, T2, N2, K2, hag2, -, hA2, rfl, rfl, rfl, hK2⟩
  have e2 : q2 0 = a1 := (hag2 0 (by decide)).trans (va_up_self _ _ _)
  refine G_st (st' := [.ref a1]) rfl rfl ?_
  refine G_astore_n (lv' := [(0, .ref b), (1, .ref a1)]) dL_law_7 (by decide) rfl rfl ?_
  refine G_new (ci := 4) dL_law_8 (by decide) wl_L_20 wn_X4 wi_R4 (by decide) (by decide) rfl (fun a2 ha2 => ?_)
  have hA3 := hA2.new ha2 (x := .inl (4, fun _ => none)) (fun _ => rfl)
  have e36 : va_up q2 36 a2 36 = a2 := va_up_self _ _ _
  refine G_dup dL_law_11 rfl rfl ?_
  have hM4 := c_X4_init (d := 60) (by decide) (T := sR (Tc (T3i (sR T00 0 (.inl (3, fun _ => none)))) 10) 36 (.inl (4, fun _ => none))) rfl l D cy _ _ _ _ _ hA3
  rw [show List.map (tv (va_up q2 36 a2)) [.ref 36] = [.ref a2] from congrArg (fun z => [Value.ref z]) e36] at hM4
  refine G_callI (d1 := 60) (mc1 := 22) (ms1 := 990) (rest := [.ref a2]) [] dL_law_12 ml_L_22 rfl rfl (Nat.le_of_ble_eq_true rfl) hM4 (by decide) (by decide) (by decide) (by decide) rfl ?_
  rintro r L4 Sh4 M4 J4 ⟨rfl, q4, n4, T4, N4, K4, hag4, -, hA4, rfl, rfl, rfl, rfl⟩
  have e40 : q4 0 = a1 := (hag4 0 (by decide)).trans ((va_up_ne _ _ (by decide)).trans e2)
  have e436 : q4 36 = a2 := (hag4 36 (by decide)).trans e36
  refine G_st (st' := [.ref a2]) rfl rfl ?_
  refine G_astore_n (lv' := [(0, .ref b), (1, .ref a1), (2, .ref a2)]) dL_law_15 (by decide) rfl rfl ?_
  refine G_iconst (v := nI 1) dL_law_16 (by decide) rfl ?_
  refine G_newj dL_law_17 (by decide) (by decide) (by decide) rfl (fun a3 ha3 => ?_)
  have hA5 := hA4.new ha3 (x := .inr (.inl (2, 1))) (fun _ => rfl)
  refine G_astore_n (lv' := [(0, .ref b), (1, .ref a1), (2, .ref a2), (3, .ref a3)]) dL_law_19 (by decide) rfl rfl ?_
  refine G_iconst (v := nI 0) dL_law_20 (by decide) rfl ?_
  refine G_istore (lv' := [(0, .ref b), (1, .ref a1), (2, .ref a2), (3, .ref a3), (4, .int (nI 0))]) dL_law_21 (by decide) rfl rfl ?_
  obtain ⟨g, qi, N', K', hW, hout, eM, eJ, I, g0, g40, g99⟩ := start_of (K := K2) hA5 hK2
  rw [← eM, ← eJ]
  have f0 : g 0 = a1 := g0.trans ((va_up_ne _ _ (by decide)).trans e40)
  have f40 : g 40 = a2 := g40.trans ((va_up_ne _ _ (by decide)).trans e436)
  have f99 : g 99 = a3 := g99.trans (va_up_self _ _ _)
  have elv : ([(0, .ref b), (1, .ref a1), (2, .ref a2), (3, .ref a3), (4, .int (nI 0))] : LV) = lv0 b g (6 * 0) := by
    show _ = [(0, Value.ref b), (1, Value.ref (g 0)), (2, Value.ref (g 40)), (3, Value.ref (g 99)), (4, Value.int (nI (6 * 0)))]
    rw [f0, f40, f99]
  refine G_st rfl elv ?_
  exact G_widen (k1 := 100 + 0) (k2 := 20000 + 6 * 0) (by decide) (by decide) (lw_loop htr hout hW hL 513 0 S0 N' K' (by omega) (by omega) I)
