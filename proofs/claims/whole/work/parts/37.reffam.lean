theorem famG_n (S : GS) (k b p : Nat) (pet : Bool) : s_n (famG S k b p pet) = s_n S + 1 := rfl
theorem famG_kd (S : GS) (k b p : Nat) (pet : Bool) (f : Nat) : s_kd (famG S k b p pet) f = if f = s_n S then k else s_kd S f := by
  by_cases e : f = s_n S <;> simp [s_kd, famG, gN, gB, e]
theorem famG_bd (S : GS) (k b p : Nat) (pet : Bool) (f : Nat) : s_bd (famG S k b p pet) f = if f = s_n S then b else s_bd S f := by
  by_cases e : f = s_n S <;> simp [s_bd, famG, gN, gB, e]
theorem famG_ps (S : GS) (k b p : Nat) (pet : Bool) (f : Nat) : s_ps (famG S k b p pet) f = if f = s_n S then p else s_ps S f := by
  by_cases e : f = s_n S <;> simp [s_ps, famG, gN, gB, e]
theorem famG_pt (S : GS) (k b p : Nat) (pet : Bool) (f : Nat) : s_pt (famG S k b p pet) f = if f = s_n S then pet else s_pt S f := by
  by_cases e : f = s_n S <;> simp [s_pt, famG, gN, gB, e]
theorem famG_wl (S : GS) (k b p : Nat) (pet : Bool) (f : Nat) : s_wl (famG S k b p pet) f = s_wl S f := by
  unfold famG
  rw [wl_gN (by decide)]
  show s_wl (gN (gN (gN S 1 (s_n S) k) 2 (s_n S) b) 3 (s_n S) p) f = _
  rw [wl_gN (by decide), wl_gN (by decide), wl_gN (by decide)]
theorem RY.fam {S : GS} {N N1 : Mem} (R : RY S N) (w : WF S) (hn : s_n S < 10) {k b p : Nat} {pet : Bool} (h40 : ∀ j, j ≠ 1 → N1 40 j = N 40 j) (h1 : N1 40 1 = nI (s_n S + 1)) (hrow : ∀ r, r = 50 ∨ r = 52 ∨ r = 53 ∨ r = 54 ∨ r = 70 ∨ r = 75 → N1 r = N r) (hold : ∀ r f, 42 ≤ r → r ≤ 55 → f ≠ s_n S → N1 r f = N r f)
    (hnew : N1 42 (s_n S) = nI k ∧ N1 43 (s_n S) = nI b ∧ N1 44 (s_n S) = nI p ∧ N1 45 (s_n S) = bI pet ∧ N1 46 (s_n S) = nI 0 ∧ N1 47 (s_n S) = nI 51 ∧ N1 48 (s_n S) = nI 0 ∧ N1 49 (s_n S) = nI 51 ∧ N1 51 (s_n S) = bI true ∧ N1 55 (s_n S) = oI none) : RY (famG S k b p pet) N1 := by
  refine ⟨?_, fun f hf => ?_, fun f hf => ?_, fun y f hy hf => ?_, fun i hi => ?_⟩
  · obtain ⟨a1, a2, a3, a4, a5, a6, a7⟩ := R.1
    exact ⟨h1, (h40 16 (by decide)).trans a2, (h40 17 (by decide)).trans a3, (h40 18 (by decide)).trans a4, (h40 19 (by decide)).trans a5, (h40 29 (by decide)).trans a6, (h40 34 (by decide)).trans a7⟩
  · rw [famG_n] at hf
    rw [famG_kd, famG_bd, famG_ps, famG_pt]
    rcases Nat.lt_succ_iff_lt_or_eq.mp hf with h | rfl
    · obtain ⟨b1, b2, b3, b4, b5, b6, b7, b8, b9, b10⟩ := R.2.1 f h
      have ne : f ≠ s_n S := by omega
      rw [if_neg ne, if_neg ne, if_neg ne, if_neg ne, hold 42 f (by decide) (by decide) ne, hold 43 f (by decide) (by decide) ne, hold 44 f (by decide) (by decide) ne, hold 45 f (by decide) (by decide) ne, hold 46 f (by decide) (by decide) ne, hold 47 f (by decide) (by decide) ne, hold 48 f (by decide) (by decide) ne, hold 49 f (by decide) (by decide) ne, hold 51 f (by decide) (by decide) ne, hold 55 f (by decide) (by decide) ne]
      exact ⟨b1, b2, b3, b4, b5, b6, b7, b8, b9.trans (by simp [s_pr, famG, gN, gB]), b10⟩
    · obtain ⟨q1, q2, q3, q4, q5, q6, q7, q8, q9, q10⟩ := hnew
      obtain ⟨v1, v2, v3, v4, v5, v6, v7, v8, v9⟩ := w.2.2.1 (s_n S) (Nat.le_refl _) hn
      rw [if_pos rfl, if_pos rfl, if_pos rfl, if_pos rfl]
      exact ⟨q1, q2, q3, q4, q5.trans (congrArg nI v2.symm), q6.trans (congrArg nI v3.symm), q7.trans (congrArg nI v4.symm), q8.trans (congrArg nI v5.symm), q9.trans (congrArg bI v6.symm), q10.trans (congrArg oI v7.symm)⟩
  · rw [hrow 50 (by decide), hrow 52 (by decide), hrow 53 (by decide), hrow 54 (by decide), famG_wl]
    obtain ⟨c1, c2, c3, c4⟩ := R.2.2.1 f hf
    exact ⟨c1, c2, c3, fun g hg => (c4 g hg).trans (by simp [s_br, famG, gN, gB])⟩
  · rw [hrow 75 (by decide)]
    exact R.2.2.2.1 y f hy hf
  · rw [hrow 70 (by decide)]
    exact R.2.2.2.2 i hi
theorem famOk_k {k : Int32} : (¬ k < 0 ∧ ¬ nI 3 < k) ↔ (¬ k < 0 ∧ ¬ nI 4 ≤ k) := by
  have h3 : (nI 3).toInt = 3 := by decide
  have h4 : (nI 4).toInt = 4 := by decide
  rw [Int32.lt_iff_toInt_lt, Int32.lt_iff_toInt_lt, Int32.le_iff_toInt_le, h3, h4]
  omega
set_option maxRecDepth 100000 in
set_option maxHeartbeats 4000000 in
theorem c_X4_family {d : Nat} (hd : 1 ≤ d) {S : GS} {N : Mem} {K : Mej} (R : RY S N) (w : WF S) {k b p : Int32} {pet : Bool} : CK d mX4_family [.ref 40, .int k, .int b, .int p, .int (bI pet)] N K (PRY (o_family S k b p pet).1 (o_family S k b p pet).2 N K) := by
  have hn := w.1.1
  have R0 := R.c0
  generalize hN0 : sM (sM N 40 0 (nI 0)) 40 19 (nI 0) = M0 at R0
  have F0 : FY N M0 := by rw [← hN0]; exact FY.c0 N
  have h7 : M0 40 1 = nI (s_n S) := R0.1.1
  have l1 : CK (d - 1) mX4_lies [.long k.toInt64, .long 0, .long 3] M0 K (PX (some (.int (bI (decide (¬ k < 0 ∧ ¬ nI 3 < k))))) M0 K) := c_li 0 (nI 3) (by decide) (by decide)
  have l2 : CK (d - 1) mX4_lies [.long b.toInt64, .long 1, .long 9] M0 K (PX (some (.int (bI (decide (¬ b < nI 1 ∧ ¬ nI 9 < b))))) M0 K) := c_li (nI 1) (nI 9) (by decide) (by decide)
  have l3 : CK (d - 1) mX4_lies [.long p.toInt64, .long 1, .long 9] M0 K (PX (some (.int (bI (decide (¬ p < nI 1 ∧ ¬ nI 9 < p))))) M0 K) := c_li (nI 1) (nI 9) (by decide) (by decide)
  by_cases hok : ¬ k < 0 ∧ ¬ nI 4 ≤ k ∧ (¬ b < nI 1 ∧ ¬ nI 9 < b) ∧ (¬ p < nI 1 ∧ ¬ nI 9 < p) ∧ s_n S < 10
  · obtain ⟨hk0, hk4, hb, hp, hn9⟩ := id hok
    have ek := nI_back hk0
    have eb := nI_back (nlt0 (by decide) hb.1)
    have ep := nI_back (nlt0 (by decide) hp.1)
    rw [decide_eq_true (famOk_k.mpr ⟨hk0, hk4⟩)] at l1
    rw [decide_eq_true hb] at l2
    rw [decide_eq_true hp] at l3
    have e1 : (o_family S k b p pet) = (nI (s_n S), famG (gC S) k.toNatClampNeg b.toNatClampNeg p.toNatClampNeg pet) := by rw [o_family, show famOk S k b p = true from decide_eq_true hok, if_pos rfl]
    rw [e1]
    refine CK.start [(0, _), (1, _), (2, _), (3, _), (4, _)] (plainFor_of_name (by decide)) (Nat.le_of_ble_eq_true rfl) rfl ?_
    refine K_aload_n dX4_family_0 rfl rfl ?_
    refine K_iconst (v := nI 0) dX4_family_1 (by decide) rfl ?_
    refine K_putI dX4_family_2 fl_X4_84 (by first | rfl | exact sk_rk (by omega) | exact sk_hh (by omega)) rfl rfl rfl rfl ?_
    refine K_aload_n dX4_family_5 rfl rfl ?_
    refine K_iconst (v := nI 0) dX4_family_6 (by decide) rfl ?_
    refine K_putI dX4_family_7 fl_X4_98 (by first | rfl | exact sk_rk (by omega) | exact sk_hh (by omega)) rfl rfl rfl rfl ?_
    rw [hN0]
    refine K_iload_n dX4_family_10 rfl rfl ?_
    refine K_i2l dX4_family_11 rfl ?_
    refine K_lconst (v := 0) dX4_family_12 (by decide) rfl ?_
    refine K_ldc2 dX4_family_13 kl_X4_101 rfl ?_
    refine K_sv (d1 := d - 1) [_, _, _] dX4_family_16 ml_X4_90 rfl rfl (Nat.le_of_ble_eq_true rfl) l1 (by omega) rfl ?_
    refine K_if_eqB (tgt := 55) dX4_family_19 (by decide) rfl (fun c19 => ?_) (fun c19 => ?_)
    · cases c19
    · refine K_iload_n dX4_family_22 rfl rfl ?_
      refine K_i2l dX4_family_23 rfl ?_
      refine K_lconst (v := 1) dX4_family_24 (by decide) rfl ?_
      refine K_ldc2 dX4_family_25 kl_X4_103 rfl ?_
      refine K_sv (d1 := d - 1) [_, _, _] dX4_family_28 ml_X4_90 rfl rfl (Nat.le_of_ble_eq_true rfl) l2 (by omega) rfl ?_
      refine K_if_eqB (tgt := 55) dX4_family_31 (by decide) rfl (fun c31 => ?_) (fun c31 => ?_)
      · cases c31
      · refine K_iload_n dX4_family_34 rfl rfl ?_
        refine K_i2l dX4_family_35 rfl ?_
        refine K_lconst (v := 1) dX4_family_36 (by decide) rfl ?_
        refine K_ldc2 dX4_family_37 kl_X4_103 rfl ?_
        refine K_sv (d1 := d - 1) [_, _, _] dX4_family_40 ml_X4_90 rfl rfl (Nat.le_of_ble_eq_true rfl) l3 (by omega) rfl ?_
        refine K_if_eqB (tgt := 55) dX4_family_43 (by decide) rfl (fun c43 => ?_) (fun c43 => ?_)
        · cases c43
        · refine K_aload_n dX4_family_46 rfl rfl ?_
          refine K_getI dX4_family_47 fl_X4_87 (by first | rfl | exact sk_rk (by omega) | exact sk_hh (by omega)) rfl (by first | assumption | rfl) rfl ?_
          refine K_bipush (v := nI 10) dX4_family_50 (by decide) rfl ?_
          refine K_icmp_neN (tgt := 57) dX4_family_52 (by decide) rfl (by first | omega | fail) (by first | omega | fail) (fun c52 => ?_) (fun c52 => ?_)
          · refine K_aload_n dX4_family_57 rfl rfl ?_
            refine K_getI dX4_family_58 fl_X4_87 (by first | rfl | exact sk_rk (by omega) | exact sk_hh (by omega)) rfl (by first | assumption | rfl) rfl ?_
            refine K_istore (lv' := [(0, _), (1, _), (2, _), (3, _), (4, _), (5, _)]) dX4_family_61 (by decide) rfl rfl ?_
            refine K_aload_n dX4_family_63 rfl rfl ?_
            refine K_dup dX4_family_64 rfl rfl ?_
            refine K_getI dX4_family_65 fl_X4_87 (by first | rfl | exact sk_rk (by omega) | exact sk_hh (by omega)) rfl (by first | assumption | rfl) rfl ?_
            refine K_iconst (v := nI 1) dX4_family_68 (by decide) rfl ?_
            refine K_addN dX4_family_69 rfl ?_
            refine K_putI dX4_family_70 fl_X4_87 (by first | rfl | exact sk_rk (by omega) | exact sk_hh (by omega)) rfl rfl rfl rfl ?_
            refine K_aload_n dX4_family_73 rfl rfl ?_
            refine K_getR (r := 42) dX4_family_74 fl_X4_9 rfl rfl rfl rfl ?_
            refine K_iload dX4_family_77 rfl rfl ?_
            refine K_iload_n dX4_family_79 rfl rfl ?_
            refine K_iast dX4_family_80 (by first | rfl | exact sk_rk (by omega) | exact sk_hh (by omega)) (by first | omega | fail) (by decide) rfl ?_
            refine K_aload_n dX4_family_81 rfl rfl ?_
            refine K_getR (r := 43) dX4_family_82 fl_X4_13 rfl rfl rfl rfl ?_
            refine K_iload dX4_family_85 rfl rfl ?_
            refine K_iload_n dX4_family_87 rfl rfl ?_
            refine K_iast dX4_family_88 (by first | rfl | exact sk_rk (by omega) | exact sk_hh (by omega)) (by first | omega | fail) (by decide) rfl ?_
            refine K_aload_n dX4_family_89 rfl rfl ?_
            refine K_getR (r := 44) dX4_family_90 fl_X4_16 rfl rfl rfl rfl ?_
            refine K_iload dX4_family_93 rfl rfl ?_
            refine K_iload_n dX4_family_95 rfl rfl ?_
            refine K_iast dX4_family_96 (by first | rfl | exact sk_rk (by omega) | exact sk_hh (by omega)) (by first | omega | fail) (by decide) rfl ?_
            refine K_aload_n dX4_family_97 rfl rfl ?_
            refine K_getR (r := 45) dX4_family_98 fl_X4_19 rfl rfl rfl rfl ?_
            refine K_iload dX4_family_101 rfl rfl ?_
            refine K_iload dX4_family_103 rfl rfl ?_
            refine K_zast dX4_family_105 (by first | rfl | exact sk_rk (by omega) | exact sk_hh (by omega)) (by first | omega | fail) (by decide) (by first | exact bI_01 _ | exact Or.inl rfl | exact Or.inr rfl | assumption) rfl ?_
            refine K_aload_n dX4_family_106 rfl rfl ?_
            refine K_getR (r := 46) dX4_family_107 fl_X4_23 rfl rfl rfl rfl ?_
            refine K_iload dX4_family_110 rfl rfl ?_
            refine K_iconst (v := nI 0) dX4_family_112 (by decide) rfl ?_
            refine K_iast dX4_family_113 (by first | rfl | exact sk_rk (by omega) | exact sk_hh (by omega)) (by first | omega | fail) (by decide) rfl ?_
            refine K_aload_n dX4_family_114 rfl rfl ?_
            refine K_getR (r := 47) dX4_family_115 fl_X4_26 rfl rfl rfl rfl ?_
            refine K_iload dX4_family_118 rfl rfl ?_
            refine K_bipush (v := nI 51) dX4_family_120 (by decide) rfl ?_
            refine K_iast dX4_family_122 (by first | rfl | exact sk_rk (by omega) | exact sk_hh (by omega)) (by first | omega | fail) (by decide) rfl ?_
            refine K_aload_n dX4_family_123 rfl rfl ?_
            refine K_getR (r := 48) dX4_family_124 fl_X4_29 rfl rfl rfl rfl ?_
            refine K_iload dX4_family_127 rfl rfl ?_
            refine K_iconst (v := nI 0) dX4_family_129 (by decide) rfl ?_
            refine K_iast dX4_family_130 (by first | rfl | exact sk_rk (by omega) | exact sk_hh (by omega)) (by first | omega | fail) (by decide) rfl ?_
            refine K_aload_n dX4_family_131 rfl rfl ?_
            refine K_getR (r := 49) dX4_family_132 fl_X4_32 rfl rfl rfl rfl ?_
            refine K_iload dX4_family_135 rfl rfl ?_
            refine K_bipush (v := nI 51) dX4_family_137 (by decide) rfl ?_
            refine K_iast dX4_family_139 (by first | rfl | exact sk_rk (by omega) | exact sk_hh (by omega)) (by first | omega | fail) (by decide) rfl ?_
            refine K_aload_n dX4_family_140 rfl rfl ?_
            refine K_getR (r := 51) dX4_family_141 fl_X4_38 rfl rfl rfl rfl ?_
            refine K_iload dX4_family_144 rfl rfl ?_
            refine K_iconst (v := nI 1) dX4_family_146 (by decide) rfl ?_
            refine K_zast dX4_family_147 (by first | rfl | exact sk_rk (by omega) | exact sk_hh (by omega)) (by first | omega | fail) (by decide) (by first | exact bI_01 _ | exact Or.inl rfl | exact Or.inr rfl | assumption) rfl ?_
            refine K_aload_n dX4_family_148 rfl rfl ?_
            refine K_getR (r := 55) dX4_family_149 fl_X4_50 rfl rfl rfl rfl ?_
            refine K_iload dX4_family_152 rfl rfl ?_
            refine K_iconst (v := (-1)) dX4_family_154 (by decide) rfl ?_
            refine K_iast dX4_family_155 (by first | rfl | exact sk_rk (by omega) | exact sk_hh (by omega)) (by first | omega | fail) (by decide) rfl ?_
            refine K_iload dX4_family_156 rfl rfl ?_
            refine K_iret dX4_family_158 rfl ?_
            refine ⟨rfl, R0.fam w.c0 hn9 (fun j hj => ?_) ?_ (fun r hr => ?_) (fun r f h1 h2 hf => ?_) ?_, (((((((((((F0.set (by decide)).set (by decide)).set (by decide)).set (by decide)).set (by decide)).set (by decide)).set (by decide)).set (by decide)).set (by decide)).set (by decide)).set (by decide)), rfl⟩
            · simp [sM_at, hj]
            · simp [sM_at]
              rfl
            · funext j
              rcases hr with rfl | rfl | rfl | rfl | rfl | rfl <;> simp [sM_at]
            · have hf' : f ≠ s_n S := hf
              simp [sM_at, hf', show r ≠ 40 by omega]
            · rw [ek, eb, ep]
              refine ⟨?_, ?_, ?_, ?_, ?_, ?_, ?_, ?_, ?_, ?_⟩ <;> simp [sM_at, show s_n (gC S) = s_n S from rfl] <;> rfl
          · omega
  · have hf : famOk S k b p = false := decide_eq_false hok
    rw [o_family, hf]
    refine CK.start [(0, _), (1, _), (2, _), (3, _), (4, _)] (plainFor_of_name (by decide)) (Nat.le_of_ble_eq_true rfl) rfl ?_
    refine K_aload_n dX4_family_0 rfl rfl ?_
    refine K_iconst (v := nI 0) dX4_family_1 (by decide) rfl ?_
    refine K_putI dX4_family_2 fl_X4_84 (by first | rfl | exact sk_rk (by omega) | exact sk_hh (by omega)) rfl rfl rfl rfl ?_
    refine K_aload_n dX4_family_5 rfl rfl ?_
    refine K_iconst (v := nI 0) dX4_family_6 (by decide) rfl ?_
    refine K_putI dX4_family_7 fl_X4_98 (by first | rfl | exact sk_rk (by omega) | exact sk_hh (by omega)) rfl rfl rfl rfl ?_
    rw [hN0]
    refine K_iload_n dX4_family_10 rfl rfl ?_
    refine K_i2l dX4_family_11 rfl ?_
    refine K_lconst (v := 0) dX4_family_12 (by decide) rfl ?_
    refine K_ldc2 dX4_family_13 kl_X4_101 rfl ?_
    refine K_sv (d1 := d - 1) [_, _, _] dX4_family_16 ml_X4_90 rfl rfl (Nat.le_of_ble_eq_true rfl) l1 (by omega) rfl ?_
    refine K_if_eqB (tgt := 55) dX4_family_19 (by decide) rfl (fun c19 => ?_) (fun c19 => ?_)
    · refine K_iconst (v := (-1)) dX4_family_55 (by decide) rfl ?_
      refine K_iret dX4_family_56 rfl ?_
      exact ⟨rfl, R0, F0, rfl⟩
    · refine K_iload_n dX4_family_22 rfl rfl ?_
      refine K_i2l dX4_family_23 rfl ?_
      refine K_lconst (v := 1) dX4_family_24 (by decide) rfl ?_
      refine K_ldc2 dX4_family_25 kl_X4_103 rfl ?_
      refine K_sv (d1 := d - 1) [_, _, _] dX4_family_28 ml_X4_90 rfl rfl (Nat.le_of_ble_eq_true rfl) l2 (by omega) rfl ?_
      refine K_if_eqB (tgt := 55) dX4_family_31 (by decide) rfl (fun c31 => ?_) (fun c31 => ?_)
      · refine K_iconst (v := (-1)) dX4_family_55 (by decide) rfl ?_
        refine K_iret dX4_family_56 rfl ?_
        exact ⟨rfl, R0, F0, rfl⟩
      · refine K_iload_n dX4_family_34 rfl rfl ?_
        refine K_i2l dX4_family_35 rfl ?_
        refine K_lconst (v := 1) dX4_family_36 (by decide) rfl ?_
        refine K_ldc2 dX4_family_37 kl_X4_103 rfl ?_
        refine K_sv (d1 := d - 1) [_, _, _] dX4_family_40 ml_X4_90 rfl rfl (Nat.le_of_ble_eq_true rfl) l3 (by omega) rfl ?_
        refine K_if_eqB (tgt := 55) dX4_family_43 (by decide) rfl (fun c43 => ?_) (fun c43 => ?_)
        · refine K_iconst (v := (-1)) dX4_family_55 (by decide) rfl ?_
          refine K_iret dX4_family_56 rfl ?_
          exact ⟨rfl, R0, F0, rfl⟩
        · refine K_aload_n dX4_family_46 rfl rfl ?_
          refine K_getI dX4_family_47 fl_X4_87 (by first | rfl | exact sk_rk (by omega) | exact sk_hh (by omega)) rfl (by first | assumption | rfl) rfl ?_
          refine K_bipush (v := nI 10) dX4_family_50 (by decide) rfl ?_
          refine K_icmp_neN (tgt := 57) dX4_family_52 (by decide) rfl (by first | omega | fail) (by first | omega | fail) (fun c52 => ?_) (fun c52 => ?_)
          · exact absurd ⟨(famOk_k.mp (of_decide_eq_true c19)).1, (famOk_k.mp (of_decide_eq_true c19)).2, of_decide_eq_true c31, of_decide_eq_true c43, by omega⟩ hok
          · refine K_iconst (v := (-1)) dX4_family_55 (by decide) rfl ?_
            refine K_iret dX4_family_56 rfl ?_
            exact ⟨rfl, R0, F0, rfl⟩
