set_option maxRecDepth 100000 in
set_option maxHeartbeats 4000000 in
theorem c_X4_set {d : Nat} (hd : 1 ≤ d) {S : GS} {N : Mem} {K : Mej} (R : RY S N) (w : WF S) {x v : Int32} : CK d mX4_set [.ref 40, .int x, .int v] N K (PRY (o_set S x v).1 (o_set S x v).2 N K) := by
  have R0 := R.c0
  generalize hN0 : sM (sM N 40 0 (nI 0)) 40 19 (nI 0) = M0 at R0
  have F0 : FY N M0 := by rw [← hN0]; exact FY.c0 N
  have h16 : M0 40 16 = nI (s_st S) := R0.1.2.1
  have h17 : M0 40 17 = nI (s_mo S) := R0.1.2.2.1
  have h18 : M0 40 18 = nI (s_li S) := R0.1.2.2.2.1
  have l1 : CK (d - 1) mX4_lies [.long v.toInt64, .long 1, .long 8] M0 K (PX (some (.int (bI (decide (¬ v < nI 1 ∧ ¬ nI 8 < v))))) M0 K) := c_li (nI 1) (nI 8) (by decide) (by decide)
  have l2 : CK (d - 1) mX4_lies [.long v.toInt64, .long 2, .long 10] M0 K (PX (some (.int (bI (decide (¬ v < nI 2 ∧ ¬ nI 10 < v))))) M0 K) := c_li (nI 2) (nI 10) (by decide) (by decide)
  have l3 : CK (d - 1) mX4_lies [.long v.toInt64, .long 0, .long 500] M0 K (PX (some (.int (bI (decide (¬ v < 0 ∧ ¬ nI 500 < v))))) M0 K) := c_li 0 (nI 500) (by decide) (by decide)
  have q1 : ∀ {u : Int32}, ¬ u < nI 1 → nI u.toNatClampNeg = u := fun h => nI_back (nlt0 (by decide) h)
  have q2 : ∀ {u : Int32}, ¬ u < nI 2 → nI u.toNatClampNeg = u := fun h => nI_back (nlt0 (by decide) h)
  have r1 := R0.sc16 v.toNatClampNeg
  have r2 := R0.sc17 v.toNatClampNeg
  have r3 := R0.sc18 v.toNatClampNeg
  have n01 : ∀ {u : Int32}, u = 0 → u = nI 1 → False := fun h1 h2 => absurd (h1.symm.trans h2) (by decide)
  have n02 : ∀ {u : Int32}, u = 0 → u = nI 2 → False := fun h1 h2 => absurd (h1.symm.trans h2) (by decide)
  have n12 : ∀ {u : Int32}, u = nI 1 → u = nI 2 → False := fun h1 h2 => absurd (h1.symm.trans h2) (by decide)
  refine CK.start [(0, _), (1, _), (2, _)] (plainFor_of_name (by decide)) (Nat.le_of_ble_eq_true rfl) rfl ?_
  refine K_aload_n dX4_set_0 rfl rfl ?_
  refine K_iconst (v := nI 0) dX4_set_1 (by decide) rfl ?_
  refine K_putI dX4_set_2 fl_X4_84 (by first | rfl | exact sk_rk (by omega) | exact sk_hh (by omega)) rfl rfl rfl rfl ?_
  refine K_aload_n dX4_set_5 rfl rfl ?_
  refine K_iconst (v := nI 0) dX4_set_6 (by decide) rfl ?_
  refine K_putI dX4_set_7 fl_X4_98 (by first | rfl | exact sk_rk (by omega) | exact sk_hh (by omega)) rfl rfl rfl rfl ?_
  rw [hN0]
  refine K_iload_n dX4_set_10 rfl rfl ?_
  refine K_if_ne (tgt := 21) dX4_set_11 (by decide) rfl (fun c11 => ?_) (fun c11 => ?_)
  · refine K_iload_n dX4_set_21 rfl rfl ?_
    refine K_iconst (v := nI 1) dX4_set_22 (by decide) rfl ?_
    refine K_icmp_ne (tgt := 33) dX4_set_23 (by decide) rfl (fun c23 => ?_) (fun c23 => ?_)
    · refine K_aload_n dX4_set_33 rfl rfl ?_
      refine K_getI dX4_set_34 fl_X4_121 (by first | rfl | exact sk_rk (by omega) | exact sk_hh (by omega)) rfl (by first | assumption | rfl) rfl ?_
      refine K_istore_n (lv' := [(0, _), (1, _), (2, _), (3, _)]) dX4_set_37 (by decide) rfl rfl ?_
      refine K_iload_n dX4_set_38 rfl rfl ?_
      refine K_if_ne (tgt := 62) dX4_set_39 (by decide) rfl (fun c39 => ?_) (fun c39 => ?_)
      · refine K_iload_n dX4_set_62 rfl rfl ?_
        refine K_iconst (v := nI 1) dX4_set_63 (by decide) rfl ?_
        refine K_icmp_ne (tgt := 89) dX4_set_64 (by decide) rfl (fun c64 => ?_) (fun c64 => ?_)
        · refine K_iload_n dX4_set_89 rfl rfl ?_
          refine K_iconst (v := nI 2) dX4_set_90 (by decide) rfl ?_
          refine K_icmp_ne (tgt := 114) dX4_set_91 (by decide) rfl (fun c91 => ?_) (fun c91 => ?_)
          · refine K_iconst (v := (-1)) dX4_set_114 (by decide) rfl ?_
            refine K_iret dX4_set_115 rfl ?_
            first | exact absurd c11 c39 | exact absurd c39 c11 | exact absurd c23 c64 | exact absurd c64 c23 | exact (n01 c39 c64).elim | exact (n02 c39 c91).elim | exact (n12 c64 c91).elim | (have z := of_decide_eq_true c51; rw [o_set, if_pos ⟨c39, z⟩]; rw [q1 z.1] at r1; exact ⟨rfl, r1, F0.set (by decide), rfl⟩) | (have z := of_decide_eq_true c78; rw [o_set, if_neg (fun h => n01 h.1 c64), if_pos ⟨c64, z⟩]; rw [q2 z.1] at r2; exact ⟨rfl, r2, F0.set (by decide), rfl⟩) | (have z := of_decide_eq_true c103; rw [o_set, if_neg (fun h => n02 h.1 c91), if_neg (fun h => n12 h.1 c91), if_pos ⟨c91, z⟩]; rw [nI_back z.1] at r3; exact ⟨rfl, r3, F0.set (by decide), rfl⟩) | (rw [o_set, if_neg (fun h => by first | exact c39 h.1 | exact absurd h.2 (of_decide_eq_false c51)), if_neg (fun h => by first | exact c64 h.1 | exact absurd h.2 (of_decide_eq_false c78)), if_neg (fun h => by first | exact c91 h.1 | exact absurd h.2 (of_decide_eq_false c103))]; exact ⟨rfl, R0, F0, rfl⟩)
          · refine K_iload_n dX4_set_94 rfl rfl ?_
            refine K_i2l dX4_set_95 rfl ?_
            refine K_lconst (v := 0) dX4_set_96 (by decide) rfl ?_
            refine K_ldc2 dX4_set_97 kl_X4_128 rfl ?_
            refine K_sv (d1 := d - 1) [_, _, _] dX4_set_100 ml_X4_90 rfl rfl (Nat.le_of_ble_eq_true rfl) l3 (by omega) rfl ?_
            refine K_if_eqB (tgt := 114) dX4_set_103 (by decide) rfl (fun c103 => ?_) (fun c103 => ?_)
            · refine K_iconst (v := (-1)) dX4_set_114 (by decide) rfl ?_
              refine K_iret dX4_set_115 rfl ?_
              first | exact absurd c11 c39 | exact absurd c39 c11 | exact absurd c23 c64 | exact absurd c64 c23 | exact (n01 c39 c64).elim | exact (n02 c39 c91).elim | exact (n12 c64 c91).elim | (have z := of_decide_eq_true c51; rw [o_set, if_pos ⟨c39, z⟩]; rw [q1 z.1] at r1; exact ⟨rfl, r1, F0.set (by decide), rfl⟩) | (have z := of_decide_eq_true c78; rw [o_set, if_neg (fun h => n01 h.1 c64), if_pos ⟨c64, z⟩]; rw [q2 z.1] at r2; exact ⟨rfl, r2, F0.set (by decide), rfl⟩) | (have z := of_decide_eq_true c103; rw [o_set, if_neg (fun h => n02 h.1 c91), if_neg (fun h => n12 h.1 c91), if_pos ⟨c91, z⟩]; rw [nI_back z.1] at r3; exact ⟨rfl, r3, F0.set (by decide), rfl⟩) | (rw [o_set, if_neg (fun h => by first | exact c39 h.1 | exact absurd h.2 (of_decide_eq_false c51)), if_neg (fun h => by first | exact c64 h.1 | exact absurd h.2 (of_decide_eq_false c78)), if_neg (fun h => by first | exact c91 h.1 | exact absurd h.2 (of_decide_eq_false c103))]; exact ⟨rfl, R0, F0, rfl⟩)
            · refine K_aload_n dX4_set_106 rfl rfl ?_
              refine K_iload_n dX4_set_107 rfl rfl ?_
              refine K_putI dX4_set_108 fl_X4_121 (by first | rfl | exact sk_rk (by omega) | exact sk_hh (by omega)) rfl rfl rfl rfl ?_
              refine K_goto (tgt := 116) dX4_set_111 (by decide) ?_
              refine K_iload_n dX4_set_116 rfl rfl ?_
              refine K_iret dX4_set_117 rfl ?_
              first | exact absurd c11 c39 | exact absurd c39 c11 | exact absurd c23 c64 | exact absurd c64 c23 | exact (n01 c39 c64).elim | exact (n02 c39 c91).elim | exact (n12 c64 c91).elim | (have z := of_decide_eq_true c51; rw [o_set, if_pos ⟨c39, z⟩]; rw [q1 z.1] at r1; exact ⟨rfl, r1, F0.set (by decide), rfl⟩) | (have z := of_decide_eq_true c78; rw [o_set, if_neg (fun h => n01 h.1 c64), if_pos ⟨c64, z⟩]; rw [q2 z.1] at r2; exact ⟨rfl, r2, F0.set (by decide), rfl⟩) | (have z := of_decide_eq_true c103; rw [o_set, if_neg (fun h => n02 h.1 c91), if_neg (fun h => n12 h.1 c91), if_pos ⟨c91, z⟩]; rw [nI_back z.1] at r3; exact ⟨rfl, r3, F0.set (by decide), rfl⟩) | (rw [o_set, if_neg (fun h => by first | exact c39 h.1 | exact absurd h.2 (of_decide_eq_false c51)), if_neg (fun h => by first | exact c64 h.1 | exact absurd h.2 (of_decide_eq_false c78)), if_neg (fun h => by first | exact c91 h.1 | exact absurd h.2 (of_decide_eq_false c103))]; exact ⟨rfl, R0, F0, rfl⟩)
        · refine K_iload_n dX4_set_67 rfl rfl ?_
          refine K_i2l dX4_set_68 rfl ?_
          refine K_ldc2 dX4_set_69 kl_X4_119 rfl ?_
          refine K_ldc2 dX4_set_72 kl_X4_126 rfl ?_
          refine K_sv (d1 := d - 1) [_, _, _] dX4_set_75 ml_X4_90 rfl rfl (Nat.le_of_ble_eq_true rfl) l2 (by omega) rfl ?_
          refine K_if_eqB (tgt := 89) dX4_set_78 (by decide) rfl (fun c78 => ?_) (fun c78 => ?_)
          · refine K_iload_n dX4_set_89 rfl rfl ?_
            refine K_iconst (v := nI 2) dX4_set_90 (by decide) rfl ?_
            refine K_icmp_ne (tgt := 114) dX4_set_91 (by decide) rfl (fun c91 => ?_) (fun c91 => ?_)
            · refine K_iconst (v := (-1)) dX4_set_114 (by decide) rfl ?_
              refine K_iret dX4_set_115 rfl ?_
              first | exact absurd c11 c39 | exact absurd c39 c11 | exact absurd c23 c64 | exact absurd c64 c23 | exact (n01 c39 c64).elim | exact (n02 c39 c91).elim | exact (n12 c64 c91).elim | (have z := of_decide_eq_true c51; rw [o_set, if_pos ⟨c39, z⟩]; rw [q1 z.1] at r1; exact ⟨rfl, r1, F0.set (by decide), rfl⟩) | (have z := of_decide_eq_true c78; rw [o_set, if_neg (fun h => n01 h.1 c64), if_pos ⟨c64, z⟩]; rw [q2 z.1] at r2; exact ⟨rfl, r2, F0.set (by decide), rfl⟩) | (have z := of_decide_eq_true c103; rw [o_set, if_neg (fun h => n02 h.1 c91), if_neg (fun h => n12 h.1 c91), if_pos ⟨c91, z⟩]; rw [nI_back z.1] at r3; exact ⟨rfl, r3, F0.set (by decide), rfl⟩) | (rw [o_set, if_neg (fun h => by first | exact c39 h.1 | exact absurd h.2 (of_decide_eq_false c51)), if_neg (fun h => by first | exact c64 h.1 | exact absurd h.2 (of_decide_eq_false c78)), if_neg (fun h => by first | exact c91 h.1 | exact absurd h.2 (of_decide_eq_false c103))]; exact ⟨rfl, R0, F0, rfl⟩)
            · refine K_iload_n dX4_set_94 rfl rfl ?_
              refine K_i2l dX4_set_95 rfl ?_
              refine K_lconst (v := 0) dX4_set_96 (by decide) rfl ?_
              refine K_ldc2 dX4_set_97 kl_X4_128 rfl ?_
              refine K_sv (d1 := d - 1) [_, _, _] dX4_set_100 ml_X4_90 rfl rfl (Nat.le_of_ble_eq_true rfl) l3 (by omega) rfl ?_
              refine K_if_eqB (tgt := 114) dX4_set_103 (by decide) rfl (fun c103 => ?_) (fun c103 => ?_)
              · refine K_iconst (v := (-1)) dX4_set_114 (by decide) rfl ?_
                refine K_iret dX4_set_115 rfl ?_
                first | exact absurd c11 c39 | exact absurd c39 c11 | exact absurd c23 c64 | exact absurd c64 c23 | exact (n01 c39 c64).elim | exact (n02 c39 c91).elim | exact (n12 c64 c91).elim | (have z := of_decide_eq_true c51; rw [o_set, if_pos ⟨c39, z⟩]; rw [q1 z.1] at r1; exact ⟨rfl, r1, F0.set (by decide), rfl⟩) | (have z := of_decide_eq_true c78; rw [o_set, if_neg (fun h => n01 h.1 c64), if_pos ⟨c64, z⟩]; rw [q2 z.1] at r2; exact ⟨rfl, r2, F0.set (by decide), rfl⟩) | (have z := of_decide_eq_true c103; rw [o_set, if_neg (fun h => n02 h.1 c91), if_neg (fun h => n12 h.1 c91), if_pos ⟨c91, z⟩]; rw [nI_back z.1] at r3; exact ⟨rfl, r3, F0.set (by decide), rfl⟩) | (rw [o_set, if_neg (fun h => by first | exact c39 h.1 | exact absurd h.2 (of_decide_eq_false c51)), if_neg (fun h => by first | exact c64 h.1 | exact absurd h.2 (of_decide_eq_false c78)), if_neg (fun h => by first | exact c91 h.1 | exact absurd h.2 (of_decide_eq_false c103))]; exact ⟨rfl, R0, F0, rfl⟩)
              · refine K_aload_n dX4_set_106 rfl rfl ?_
                refine K_iload_n dX4_set_107 rfl rfl ?_
                refine K_putI dX4_set_108 fl_X4_121 (by first | rfl | exact sk_rk (by omega) | exact sk_hh (by omega)) rfl rfl rfl rfl ?_
                refine K_goto (tgt := 116) dX4_set_111 (by decide) ?_
                refine K_iload_n dX4_set_116 rfl rfl ?_
                refine K_iret dX4_set_117 rfl ?_
                first | exact absurd c11 c39 | exact absurd c39 c11 | exact absurd c23 c64 | exact absurd c64 c23 | exact (n01 c39 c64).elim | exact (n02 c39 c91).elim | exact (n12 c64 c91).elim | (have z := of_decide_eq_true c51; rw [o_set, if_pos ⟨c39, z⟩]; rw [q1 z.1] at r1; exact ⟨rfl, r1, F0.set (by decide), rfl⟩) | (have z := of_decide_eq_true c78; rw [o_set, if_neg (fun h => n01 h.1 c64), if_pos ⟨c64, z⟩]; rw [q2 z.1] at r2; exact ⟨rfl, r2, F0.set (by decide), rfl⟩) | (have z := of_decide_eq_true c103; rw [o_set, if_neg (fun h => n02 h.1 c91), if_neg (fun h => n12 h.1 c91), if_pos ⟨c91, z⟩]; rw [nI_back z.1] at r3; exact ⟨rfl, r3, F0.set (by decide), rfl⟩) | (rw [o_set, if_neg (fun h => by first | exact c39 h.1 | exact absurd h.2 (of_decide_eq_false c51)), if_neg (fun h => by first | exact c64 h.1 | exact absurd h.2 (of_decide_eq_false c78)), if_neg (fun h => by first | exact c91 h.1 | exact absurd h.2 (of_decide_eq_false c103))]; exact ⟨rfl, R0, F0, rfl⟩)
          · refine K_aload_n dX4_set_81 rfl rfl ?_
            refine K_iload_n dX4_set_82 rfl rfl ?_
            refine K_putI dX4_set_83 fl_X4_57 (by first | rfl | exact sk_rk (by omega) | exact sk_hh (by omega)) rfl rfl rfl rfl ?_
            refine K_goto (tgt := 116) dX4_set_86 (by decide) ?_
            refine K_iload_n dX4_set_116 rfl rfl ?_
            refine K_iret dX4_set_117 rfl ?_
            first | exact absurd c11 c39 | exact absurd c39 c11 | exact absurd c23 c64 | exact absurd c64 c23 | exact (n01 c39 c64).elim | exact (n02 c39 c91).elim | exact (n12 c64 c91).elim | (have z := of_decide_eq_true c51; rw [o_set, if_pos ⟨c39, z⟩]; rw [q1 z.1] at r1; exact ⟨rfl, r1, F0.set (by decide), rfl⟩) | (have z := of_decide_eq_true c78; rw [o_set, if_neg (fun h => n01 h.1 c64), if_pos ⟨c64, z⟩]; rw [q2 z.1] at r2; exact ⟨rfl, r2, F0.set (by decide), rfl⟩) | (have z := of_decide_eq_true c103; rw [o_set, if_neg (fun h => n02 h.1 c91), if_neg (fun h => n12 h.1 c91), if_pos ⟨c91, z⟩]; rw [nI_back z.1] at r3; exact ⟨rfl, r3, F0.set (by decide), rfl⟩) | (rw [o_set, if_neg (fun h => by first | exact c39 h.1 | exact absurd h.2 (of_decide_eq_false c51)), if_neg (fun h => by first | exact c64 h.1 | exact absurd h.2 (of_decide_eq_false c78)), if_neg (fun h => by first | exact c91 h.1 | exact absurd h.2 (of_decide_eq_false c103))]; exact ⟨rfl, R0, F0, rfl⟩)
      · refine K_iload_n dX4_set_42 rfl rfl ?_
        refine K_i2l dX4_set_43 rfl ?_
        refine K_lconst (v := 1) dX4_set_44 (by decide) rfl ?_
        refine K_ldc2 dX4_set_45 kl_X4_124 rfl ?_
        refine K_sv (d1 := d - 1) [_, _, _] dX4_set_48 ml_X4_90 rfl rfl (Nat.le_of_ble_eq_true rfl) l1 (by omega) rfl ?_
        refine K_if_eqB (tgt := 62) dX4_set_51 (by decide) rfl (fun c51 => ?_) (fun c51 => ?_)
        · refine K_iload_n dX4_set_62 rfl rfl ?_
          refine K_iconst (v := nI 1) dX4_set_63 (by decide) rfl ?_
          refine K_icmp_ne (tgt := 89) dX4_set_64 (by decide) rfl (fun c64 => ?_) (fun c64 => ?_)
          · refine K_iload_n dX4_set_89 rfl rfl ?_
            refine K_iconst (v := nI 2) dX4_set_90 (by decide) rfl ?_
            refine K_icmp_ne (tgt := 114) dX4_set_91 (by decide) rfl (fun c91 => ?_) (fun c91 => ?_)
            · refine K_iconst (v := (-1)) dX4_set_114 (by decide) rfl ?_
              refine K_iret dX4_set_115 rfl ?_
              first | exact absurd c11 c39 | exact absurd c39 c11 | exact absurd c23 c64 | exact absurd c64 c23 | exact (n01 c39 c64).elim | exact (n02 c39 c91).elim | exact (n12 c64 c91).elim | (have z := of_decide_eq_true c51; rw [o_set, if_pos ⟨c39, z⟩]; rw [q1 z.1] at r1; exact ⟨rfl, r1, F0.set (by decide), rfl⟩) | (have z := of_decide_eq_true c78; rw [o_set, if_neg (fun h => n01 h.1 c64), if_pos ⟨c64, z⟩]; rw [q2 z.1] at r2; exact ⟨rfl, r2, F0.set (by decide), rfl⟩) | (have z := of_decide_eq_true c103; rw [o_set, if_neg (fun h => n02 h.1 c91), if_neg (fun h => n12 h.1 c91), if_pos ⟨c91, z⟩]; rw [nI_back z.1] at r3; exact ⟨rfl, r3, F0.set (by decide), rfl⟩) | (rw [o_set, if_neg (fun h => by first | exact c39 h.1 | exact absurd h.2 (of_decide_eq_false c51)), if_neg (fun h => by first | exact c64 h.1 | exact absurd h.2 (of_decide_eq_false c78)), if_neg (fun h => by first | exact c91 h.1 | exact absurd h.2 (of_decide_eq_false c103))]; exact ⟨rfl, R0, F0, rfl⟩)
            · refine K_iload_n dX4_set_94 rfl rfl ?_
              refine K_i2l dX4_set_95 rfl ?_
              refine K_lconst (v := 0) dX4_set_96 (by decide) rfl ?_
              refine K_ldc2 dX4_set_97 kl_X4_128 rfl ?_
              refine K_sv (d1 := d - 1) [_, _, _] dX4_set_100 ml_X4_90 rfl rfl (Nat.le_of_ble_eq_true rfl) l3 (by omega) rfl ?_
              refine K_if_eqB (tgt := 114) dX4_set_103 (by decide) rfl (fun c103 => ?_) (fun c103 => ?_)
              · refine K_iconst (v := (-1)) dX4_set_114 (by decide) rfl ?_
                refine K_iret dX4_set_115 rfl ?_
                first | exact absurd c11 c39 | exact absurd c39 c11 | exact absurd c23 c64 | exact absurd c64 c23 | exact (n01 c39 c64).elim | exact (n02 c39 c91).elim | exact (n12 c64 c91).elim | (have z := of_decide_eq_true c51; rw [o_set, if_pos ⟨c39, z⟩]; rw [q1 z.1] at r1; exact ⟨rfl, r1, F0.set (by decide), rfl⟩) | (have z := of_decide_eq_true c78; rw [o_set, if_neg (fun h => n01 h.1 c64), if_pos ⟨c64, z⟩]; rw [q2 z.1] at r2; exact ⟨rfl, r2, F0.set (by decide), rfl⟩) | (have z := of_decide_eq_true c103; rw [o_set, if_neg (fun h => n02 h.1 c91), if_neg (fun h => n12 h.1 c91), if_pos ⟨c91, z⟩]; rw [nI_back z.1] at r3; exact ⟨rfl, r3, F0.set (by decide), rfl⟩) | (rw [o_set, if_neg (fun h => by first | exact c39 h.1 | exact absurd h.2 (of_decide_eq_false c51)), if_neg (fun h => by first | exact c64 h.1 | exact absurd h.2 (of_decide_eq_false c78)), if_neg (fun h => by first | exact c91 h.1 | exact absurd h.2 (of_decide_eq_false c103))]; exact ⟨rfl, R0, F0, rfl⟩)
              · refine K_aload_n dX4_set_106 rfl rfl ?_
                refine K_iload_n dX4_set_107 rfl rfl ?_
                refine K_putI dX4_set_108 fl_X4_121 (by first | rfl | exact sk_rk (by omega) | exact sk_hh (by omega)) rfl rfl rfl rfl ?_
                refine K_goto (tgt := 116) dX4_set_111 (by decide) ?_
                refine K_iload_n dX4_set_116 rfl rfl ?_
                refine K_iret dX4_set_117 rfl ?_
                first | exact absurd c11 c39 | exact absurd c39 c11 | exact absurd c23 c64 | exact absurd c64 c23 | exact (n01 c39 c64).elim | exact (n02 c39 c91).elim | exact (n12 c64 c91).elim | (have z := of_decide_eq_true c51; rw [o_set, if_pos ⟨c39, z⟩]; rw [q1 z.1] at r1; exact ⟨rfl, r1, F0.set (by decide), rfl⟩) | (have z := of_decide_eq_true c78; rw [o_set, if_neg (fun h => n01 h.1 c64), if_pos ⟨c64, z⟩]; rw [q2 z.1] at r2; exact ⟨rfl, r2, F0.set (by decide), rfl⟩) | (have z := of_decide_eq_true c103; rw [o_set, if_neg (fun h => n02 h.1 c91), if_neg (fun h => n12 h.1 c91), if_pos ⟨c91, z⟩]; rw [nI_back z.1] at r3; exact ⟨rfl, r3, F0.set (by decide), rfl⟩) | (rw [o_set, if_neg (fun h => by first | exact c39 h.1 | exact absurd h.2 (of_decide_eq_false c51)), if_neg (fun h => by first | exact c64 h.1 | exact absurd h.2 (of_decide_eq_false c78)), if_neg (fun h => by first | exact c91 h.1 | exact absurd h.2 (of_decide_eq_false c103))]; exact ⟨rfl, R0, F0, rfl⟩)
          · refine K_iload_n dX4_set_67 rfl rfl ?_
            refine K_i2l dX4_set_68 rfl ?_
            refine K_ldc2 dX4_set_69 kl_X4_119 rfl ?_
            refine K_ldc2 dX4_set_72 kl_X4_126 rfl ?_
            refine K_sv (d1 := d - 1) [_, _, _] dX4_set_75 ml_X4_90 rfl rfl (Nat.le_of_ble_eq_true rfl) l2 (by omega) rfl ?_
            refine K_if_eqB (tgt := 89) dX4_set_78 (by decide) rfl (fun c78 => ?_) (fun c78 => ?_)
            · refine K_iload_n dX4_set_89 rfl rfl ?_
              refine K_iconst (v := nI 2) dX4_set_90 (by decide) rfl ?_
              refine K_icmp_ne (tgt := 114) dX4_set_91 (by decide) rfl (fun c91 => ?_) (fun c91 => ?_)
              · refine K_iconst (v := (-1)) dX4_set_114 (by decide) rfl ?_
                refine K_iret dX4_set_115 rfl ?_
                first | exact absurd c11 c39 | exact absurd c39 c11 | exact absurd c23 c64 | exact absurd c64 c23 | exact (n01 c39 c64).elim | exact (n02 c39 c91).elim | exact (n12 c64 c91).elim | (have z := of_decide_eq_true c51; rw [o_set, if_pos ⟨c39, z⟩]; rw [q1 z.1] at r1; exact ⟨rfl, r1, F0.set (by decide), rfl⟩) | (have z := of_decide_eq_true c78; rw [o_set, if_neg (fun h => n01 h.1 c64), if_pos ⟨c64, z⟩]; rw [q2 z.1] at r2; exact ⟨rfl, r2, F0.set (by decide), rfl⟩) | (have z := of_decide_eq_true c103; rw [o_set, if_neg (fun h => n02 h.1 c91), if_neg (fun h => n12 h.1 c91), if_pos ⟨c91, z⟩]; rw [nI_back z.1] at r3; exact ⟨rfl, r3, F0.set (by decide), rfl⟩) | (rw [o_set, if_neg (fun h => by first | exact c39 h.1 | exact absurd h.2 (of_decide_eq_false c51)), if_neg (fun h => by first | exact c64 h.1 | exact absurd h.2 (of_decide_eq_false c78)), if_neg (fun h => by first | exact c91 h.1 | exact absurd h.2 (of_decide_eq_false c103))]; exact ⟨rfl, R0, F0, rfl⟩)
              · refine K_iload_n dX4_set_94 rfl rfl ?_
                refine K_i2l dX4_set_95 rfl ?_
                refine K_lconst (v := 0) dX4_set_96 (by decide) rfl ?_
                refine K_ldc2 dX4_set_97 kl_X4_128 rfl ?_
                refine K_sv (d1 := d - 1) [_, _, _] dX4_set_100 ml_X4_90 rfl rfl (Nat.le_of_ble_eq_true rfl) l3 (by omega) rfl ?_
                refine K_if_eqB (tgt := 114) dX4_set_103 (by decide) rfl (fun c103 => ?_) (fun c103 => ?_)
                · refine K_iconst (v := (-1)) dX4_set_114 (by decide) rfl ?_
                  refine K_iret dX4_set_115 rfl ?_
                  first | exact absurd c11 c39 | exact absurd c39 c11 | exact absurd c23 c64 | exact absurd c64 c23 | exact (n01 c39 c64).elim | exact (n02 c39 c91).elim | exact (n12 c64 c91).elim | (have z := of_decide_eq_true c51; rw [o_set, if_pos ⟨c39, z⟩]; rw [q1 z.1] at r1; exact ⟨rfl, r1, F0.set (by decide), rfl⟩) | (have z := of_decide_eq_true c78; rw [o_set, if_neg (fun h => n01 h.1 c64), if_pos ⟨c64, z⟩]; rw [q2 z.1] at r2; exact ⟨rfl, r2, F0.set (by decide), rfl⟩) | (have z := of_decide_eq_true c103; rw [o_set, if_neg (fun h => n02 h.1 c91), if_neg (fun h => n12 h.1 c91), if_pos ⟨c91, z⟩]; rw [nI_back z.1] at r3; exact ⟨rfl, r3, F0.set (by decide), rfl⟩) | (rw [o_set, if_neg (fun h => by first | exact c39 h.1 | exact absurd h.2 (of_decide_eq_false c51)), if_neg (fun h => by first | exact c64 h.1 | exact absurd h.2 (of_decide_eq_false c78)), if_neg (fun h => by first | exact c91 h.1 | exact absurd h.2 (of_decide_eq_false c103))]; exact ⟨rfl, R0, F0, rfl⟩)
                · refine K_aload_n dX4_set_106 rfl rfl ?_
                  refine K_iload_n dX4_set_107 rfl rfl ?_
                  refine K_putI dX4_set_108 fl_X4_121 (by first | rfl | exact sk_rk (by omega) | exact sk_hh (by omega)) rfl rfl rfl rfl ?_
                  refine K_goto (tgt := 116) dX4_set_111 (by decide) ?_
                  refine K_iload_n dX4_set_116 rfl rfl ?_
                  refine K_iret dX4_set_117 rfl ?_
                  first | exact absurd c11 c39 | exact absurd c39 c11 | exact absurd c23 c64 | exact absurd c64 c23 | exact (n01 c39 c64).elim | exact (n02 c39 c91).elim | exact (n12 c64 c91).elim | (have z := of_decide_eq_true c51; rw [o_set, if_pos ⟨c39, z⟩]; rw [q1 z.1] at r1; exact ⟨rfl, r1, F0.set (by decide), rfl⟩) | (have z := of_decide_eq_true c78; rw [o_set, if_neg (fun h => n01 h.1 c64), if_pos ⟨c64, z⟩]; rw [q2 z.1] at r2; exact ⟨rfl, r2, F0.set (by decide), rfl⟩) | (have z := of_decide_eq_true c103; rw [o_set, if_neg (fun h => n02 h.1 c91), if_neg (fun h => n12 h.1 c91), if_pos ⟨c91, z⟩]; rw [nI_back z.1] at r3; exact ⟨rfl, r3, F0.set (by decide), rfl⟩) | (rw [o_set, if_neg (fun h => by first | exact c39 h.1 | exact absurd h.2 (of_decide_eq_false c51)), if_neg (fun h => by first | exact c64 h.1 | exact absurd h.2 (of_decide_eq_false c78)), if_neg (fun h => by first | exact c91 h.1 | exact absurd h.2 (of_decide_eq_false c103))]; exact ⟨rfl, R0, F0, rfl⟩)
            · refine K_aload_n dX4_set_81 rfl rfl ?_
              refine K_iload_n dX4_set_82 rfl rfl ?_
              refine K_putI dX4_set_83 fl_X4_57 (by first | rfl | exact sk_rk (by omega) | exact sk_hh (by omega)) rfl rfl rfl rfl ?_
              refine K_goto (tgt := 116) dX4_set_86 (by decide) ?_
              refine K_iload_n dX4_set_116 rfl rfl ?_
              refine K_iret dX4_set_117 rfl ?_
              first | exact absurd c11 c39 | exact absurd c39 c11 | exact absurd c23 c64 | exact absurd c64 c23 | exact (n01 c39 c64).elim | exact (n02 c39 c91).elim | exact (n12 c64 c91).elim | (have z := of_decide_eq_true c51; rw [o_set, if_pos ⟨c39, z⟩]; rw [q1 z.1] at r1; exact ⟨rfl, r1, F0.set (by decide), rfl⟩) | (have z := of_decide_eq_true c78; rw [o_set, if_neg (fun h => n01 h.1 c64), if_pos ⟨c64, z⟩]; rw [q2 z.1] at r2; exact ⟨rfl, r2, F0.set (by decide), rfl⟩) | (have z := of_decide_eq_true c103; rw [o_set, if_neg (fun h => n02 h.1 c91), if_neg (fun h => n12 h.1 c91), if_pos ⟨c91, z⟩]; rw [nI_back z.1] at r3; exact ⟨rfl, r3, F0.set (by decide), rfl⟩) | (rw [o_set, if_neg (fun h => by first | exact c39 h.1 | exact absurd h.2 (of_decide_eq_false c51)), if_neg (fun h => by first | exact c64 h.1 | exact absurd h.2 (of_decide_eq_false c78)), if_neg (fun h => by first | exact c91 h.1 | exact absurd h.2 (of_decide_eq_false c103))]; exact ⟨rfl, R0, F0, rfl⟩)
        · refine K_aload_n dX4_set_54 rfl rfl ?_
          refine K_iload_n dX4_set_55 rfl rfl ?_
          refine K_putI dX4_set_56 fl_X4_53 (by first | rfl | exact sk_rk (by omega) | exact sk_hh (by omega)) rfl rfl rfl rfl ?_
          refine K_goto (tgt := 116) dX4_set_59 (by decide) ?_
          refine K_iload_n dX4_set_116 rfl rfl ?_
          refine K_iret dX4_set_117 rfl ?_
          first | exact absurd c11 c39 | exact absurd c39 c11 | exact absurd c23 c64 | exact absurd c64 c23 | exact (n01 c39 c64).elim | exact (n02 c39 c91).elim | exact (n12 c64 c91).elim | (have z := of_decide_eq_true c51; rw [o_set, if_pos ⟨c39, z⟩]; rw [q1 z.1] at r1; exact ⟨rfl, r1, F0.set (by decide), rfl⟩) | (have z := of_decide_eq_true c78; rw [o_set, if_neg (fun h => n01 h.1 c64), if_pos ⟨c64, z⟩]; rw [q2 z.1] at r2; exact ⟨rfl, r2, F0.set (by decide), rfl⟩) | (have z := of_decide_eq_true c103; rw [o_set, if_neg (fun h => n02 h.1 c91), if_neg (fun h => n12 h.1 c91), if_pos ⟨c91, z⟩]; rw [nI_back z.1] at r3; exact ⟨rfl, r3, F0.set (by decide), rfl⟩) | (rw [o_set, if_neg (fun h => by first | exact c39 h.1 | exact absurd h.2 (of_decide_eq_false c51)), if_neg (fun h => by first | exact c64 h.1 | exact absurd h.2 (of_decide_eq_false c78)), if_neg (fun h => by first | exact c91 h.1 | exact absurd h.2 (of_decide_eq_false c103))]; exact ⟨rfl, R0, F0, rfl⟩)
    · refine K_aload_n dX4_set_26 rfl rfl ?_
      refine K_getI dX4_set_27 fl_X4_57 (by first | rfl | exact sk_rk (by omega) | exact sk_hh (by omega)) rfl (by first | assumption | rfl) rfl ?_
      refine K_goto (tgt := 37) dX4_set_30 (by decide) ?_
      refine K_istore_n (lv' := [(0, _), (1, _), (2, _), (3, _)]) dX4_set_37 (by decide) rfl rfl ?_
      refine K_iload_n dX4_set_38 rfl rfl ?_
      refine K_if_ne (tgt := 62) dX4_set_39 (by decide) rfl (fun c39 => ?_) (fun c39 => ?_)
      · refine K_iload_n dX4_set_62 rfl rfl ?_
        refine K_iconst (v := nI 1) dX4_set_63 (by decide) rfl ?_
        refine K_icmp_ne (tgt := 89) dX4_set_64 (by decide) rfl (fun c64 => ?_) (fun c64 => ?_)
        · refine K_iload_n dX4_set_89 rfl rfl ?_
          refine K_iconst (v := nI 2) dX4_set_90 (by decide) rfl ?_
          refine K_icmp_ne (tgt := 114) dX4_set_91 (by decide) rfl (fun c91 => ?_) (fun c91 => ?_)
          · refine K_iconst (v := (-1)) dX4_set_114 (by decide) rfl ?_
            refine K_iret dX4_set_115 rfl ?_
            first | exact absurd c11 c39 | exact absurd c39 c11 | exact absurd c23 c64 | exact absurd c64 c23 | exact (n01 c39 c64).elim | exact (n02 c39 c91).elim | exact (n12 c64 c91).elim | (have z := of_decide_eq_true c51; rw [o_set, if_pos ⟨c39, z⟩]; rw [q1 z.1] at r1; exact ⟨rfl, r1, F0.set (by decide), rfl⟩) | (have z := of_decide_eq_true c78; rw [o_set, if_neg (fun h => n01 h.1 c64), if_pos ⟨c64, z⟩]; rw [q2 z.1] at r2; exact ⟨rfl, r2, F0.set (by decide), rfl⟩) | (have z := of_decide_eq_true c103; rw [o_set, if_neg (fun h => n02 h.1 c91), if_neg (fun h => n12 h.1 c91), if_pos ⟨c91, z⟩]; rw [nI_back z.1] at r3; exact ⟨rfl, r3, F0.set (by decide), rfl⟩) | (rw [o_set, if_neg (fun h => by first | exact c39 h.1 | exact absurd h.2 (of_decide_eq_false c51)), if_neg (fun h => by first | exact c64 h.1 | exact absurd h.2 (of_decide_eq_false c78)), if_neg (fun h => by first | exact c91 h.1 | exact absurd h.2 (of_decide_eq_false c103))]; exact ⟨rfl, R0, F0, rfl⟩)
          · refine K_iload_n dX4_set_94 rfl rfl ?_
            refine K_i2l dX4_set_95 rfl ?_
            refine K_lconst (v := 0) dX4_set_96 (by decide) rfl ?_
            refine K_ldc2 dX4_set_97 kl_X4_128 rfl ?_
            refine K_sv (d1 := d - 1) [_, _, _] dX4_set_100 ml_X4_90 rfl rfl (Nat.le_of_ble_eq_true rfl) l3 (by omega) rfl ?_
            refine K_if_eqB (tgt := 114) dX4_set_103 (by decide) rfl (fun c103 => ?_) (fun c103 => ?_)
            · refine K_iconst (v := (-1)) dX4_set_114 (by decide) rfl ?_
              refine K_iret dX4_set_115 rfl ?_
              first | exact absurd c11 c39 | exact absurd c39 c11 | exact absurd c23 c64 | exact absurd c64 c23 | exact (n01 c39 c64).elim | exact (n02 c39 c91).elim | exact (n12 c64 c91).elim | (have z := of_decide_eq_true c51; rw [o_set, if_pos ⟨c39, z⟩]; rw [q1 z.1] at r1; exact ⟨rfl, r1, F0.set (by decide), rfl⟩) | (have z := of_decide_eq_true c78; rw [o_set, if_neg (fun h => n01 h.1 c64), if_pos ⟨c64, z⟩]; rw [q2 z.1] at r2; exact ⟨rfl, r2, F0.set (by decide), rfl⟩) | (have z := of_decide_eq_true c103; rw [o_set, if_neg (fun h => n02 h.1 c91), if_neg (fun h => n12 h.1 c91), if_pos ⟨c91, z⟩]; rw [nI_back z.1] at r3; exact ⟨rfl, r3, F0.set (by decide), rfl⟩) | (rw [o_set, if_neg (fun h => by first | exact c39 h.1 | exact absurd h.2 (of_decide_eq_false c51)), if_neg (fun h => by first | exact c64 h.1 | exact absurd h.2 (of_decide_eq_false c78)), if_neg (fun h => by first | exact c91 h.1 | exact absurd h.2 (of_decide_eq_false c103))]; exact ⟨rfl, R0, F0, rfl⟩)
            · refine K_aload_n dX4_set_106 rfl rfl ?_
              refine K_iload_n dX4_set_107 rfl rfl ?_
              refine K_putI dX4_set_108 fl_X4_121 (by first | rfl | exact sk_rk (by omega) | exact sk_hh (by omega)) rfl rfl rfl rfl ?_
              refine K_goto (tgt := 116) dX4_set_111 (by decide) ?_
              refine K_iload_n dX4_set_116 rfl rfl ?_
              refine K_iret dX4_set_117 rfl ?_
              first | exact absurd c11 c39 | exact absurd c39 c11 | exact absurd c23 c64 | exact absurd c64 c23 | exact (n01 c39 c64).elim | exact (n02 c39 c91).elim | exact (n12 c64 c91).elim | (have z := of_decide_eq_true c51; rw [o_set, if_pos ⟨c39, z⟩]; rw [q1 z.1] at r1; exact ⟨rfl, r1, F0.set (by decide), rfl⟩) | (have z := of_decide_eq_true c78; rw [o_set, if_neg (fun h => n01 h.1 c64), if_pos ⟨c64, z⟩]; rw [q2 z.1] at r2; exact ⟨rfl, r2, F0.set (by decide), rfl⟩) | (have z := of_decide_eq_true c103; rw [o_set, if_neg (fun h => n02 h.1 c91), if_neg (fun h => n12 h.1 c91), if_pos ⟨c91, z⟩]; rw [nI_back z.1] at r3; exact ⟨rfl, r3, F0.set (by decide), rfl⟩) | (rw [o_set, if_neg (fun h => by first | exact c39 h.1 | exact absurd h.2 (of_decide_eq_false c51)), if_neg (fun h => by first | exact c64 h.1 | exact absurd h.2 (of_decide_eq_false c78)), if_neg (fun h => by first | exact c91 h.1 | exact absurd h.2 (of_decide_eq_false c103))]; exact ⟨rfl, R0, F0, rfl⟩)
        · refine K_iload_n dX4_set_67 rfl rfl ?_
          refine K_i2l dX4_set_68 rfl ?_
          refine K_ldc2 dX4_set_69 kl_X4_119 rfl ?_
          refine K_ldc2 dX4_set_72 kl_X4_126 rfl ?_
          refine K_sv (d1 := d - 1) [_, _, _] dX4_set_75 ml_X4_90 rfl rfl (Nat.le_of_ble_eq_true rfl) l2 (by omega) rfl ?_
          refine K_if_eqB (tgt := 89) dX4_set_78 (by decide) rfl (fun c78 => ?_) (fun c78 => ?_)
          · refine K_iload_n dX4_set_89 rfl rfl ?_
            refine K_iconst (v := nI 2) dX4_set_90 (by decide) rfl ?_
            refine K_icmp_ne (tgt := 114) dX4_set_91 (by decide) rfl (fun c91 => ?_) (fun c91 => ?_)
            · refine K_iconst (v := (-1)) dX4_set_114 (by decide) rfl ?_
              refine K_iret dX4_set_115 rfl ?_
              first | exact absurd c11 c39 | exact absurd c39 c11 | exact absurd c23 c64 | exact absurd c64 c23 | exact (n01 c39 c64).elim | exact (n02 c39 c91).elim | exact (n12 c64 c91).elim | (have z := of_decide_eq_true c51; rw [o_set, if_pos ⟨c39, z⟩]; rw [q1 z.1] at r1; exact ⟨rfl, r1, F0.set (by decide), rfl⟩) | (have z := of_decide_eq_true c78; rw [o_set, if_neg (fun h => n01 h.1 c64), if_pos ⟨c64, z⟩]; rw [q2 z.1] at r2; exact ⟨rfl, r2, F0.set (by decide), rfl⟩) | (have z := of_decide_eq_true c103; rw [o_set, if_neg (fun h => n02 h.1 c91), if_neg (fun h => n12 h.1 c91), if_pos ⟨c91, z⟩]; rw [nI_back z.1] at r3; exact ⟨rfl, r3, F0.set (by decide), rfl⟩) | (rw [o_set, if_neg (fun h => by first | exact c39 h.1 | exact absurd h.2 (of_decide_eq_false c51)), if_neg (fun h => by first | exact c64 h.1 | exact absurd h.2 (of_decide_eq_false c78)), if_neg (fun h => by first | exact c91 h.1 | exact absurd h.2 (of_decide_eq_false c103))]; exact ⟨rfl, R0, F0, rfl⟩)
            · refine K_iload_n dX4_set_94 rfl rfl ?_
              refine K_i2l dX4_set_95 rfl ?_
              refine K_lconst (v := 0) dX4_set_96 (by decide) rfl ?_
              refine K_ldc2 dX4_set_97 kl_X4_128 rfl ?_
              refine K_sv (d1 := d - 1) [_, _, _] dX4_set_100 ml_X4_90 rfl rfl (Nat.le_of_ble_eq_true rfl) l3 (by omega) rfl ?_
              refine K_if_eqB (tgt := 114) dX4_set_103 (by decide) rfl (fun c103 => ?_) (fun c103 => ?_)
              · refine K_iconst (v := (-1)) dX4_set_114 (by decide) rfl ?_
                refine K_iret dX4_set_115 rfl ?_
                first | exact absurd c11 c39 | exact absurd c39 c11 | exact absurd c23 c64 | exact absurd c64 c23 | exact (n01 c39 c64).elim | exact (n02 c39 c91).elim | exact (n12 c64 c91).elim | (have z := of_decide_eq_true c51; rw [o_set, if_pos ⟨c39, z⟩]; rw [q1 z.1] at r1; exact ⟨rfl, r1, F0.set (by decide), rfl⟩) | (have z := of_decide_eq_true c78; rw [o_set, if_neg (fun h => n01 h.1 c64), if_pos ⟨c64, z⟩]; rw [q2 z.1] at r2; exact ⟨rfl, r2, F0.set (by decide), rfl⟩) | (have z := of_decide_eq_true c103; rw [o_set, if_neg (fun h => n02 h.1 c91), if_neg (fun h => n12 h.1 c91), if_pos ⟨c91, z⟩]; rw [nI_back z.1] at r3; exact ⟨rfl, r3, F0.set (by decide), rfl⟩) | (rw [o_set, if_neg (fun h => by first | exact c39 h.1 | exact absurd h.2 (of_decide_eq_false c51)), if_neg (fun h => by first | exact c64 h.1 | exact absurd h.2 (of_decide_eq_false c78)), if_neg (fun h => by first | exact c91 h.1 | exact absurd h.2 (of_decide_eq_false c103))]; exact ⟨rfl, R0, F0, rfl⟩)
              · refine K_aload_n dX4_set_106 rfl rfl ?_
                refine K_iload_n dX4_set_107 rfl rfl ?_
                refine K_putI dX4_set_108 fl_X4_121 (by first | rfl | exact sk_rk (by omega) | exact sk_hh (by omega)) rfl rfl rfl rfl ?_
                refine K_goto (tgt := 116) dX4_set_111 (by decide) ?_
                refine K_iload_n dX4_set_116 rfl rfl ?_
                refine K_iret dX4_set_117 rfl ?_
                first | exact absurd c11 c39 | exact absurd c39 c11 | exact absurd c23 c64 | exact absurd c64 c23 | exact (n01 c39 c64).elim | exact (n02 c39 c91).elim | exact (n12 c64 c91).elim | (have z := of_decide_eq_true c51; rw [o_set, if_pos ⟨c39, z⟩]; rw [q1 z.1] at r1; exact ⟨rfl, r1, F0.set (by decide), rfl⟩) | (have z := of_decide_eq_true c78; rw [o_set, if_neg (fun h => n01 h.1 c64), if_pos ⟨c64, z⟩]; rw [q2 z.1] at r2; exact ⟨rfl, r2, F0.set (by decide), rfl⟩) | (have z := of_decide_eq_true c103; rw [o_set, if_neg (fun h => n02 h.1 c91), if_neg (fun h => n12 h.1 c91), if_pos ⟨c91, z⟩]; rw [nI_back z.1] at r3; exact ⟨rfl, r3, F0.set (by decide), rfl⟩) | (rw [o_set, if_neg (fun h => by first | exact c39 h.1 | exact absurd h.2 (of_decide_eq_false c51)), if_neg (fun h => by first | exact c64 h.1 | exact absurd h.2 (of_decide_eq_false c78)), if_neg (fun h => by first | exact c91 h.1 | exact absurd h.2 (of_decide_eq_false c103))]; exact ⟨rfl, R0, F0, rfl⟩)
          · refine K_aload_n dX4_set_81 rfl rfl ?_
            refine K_iload_n dX4_set_82 rfl rfl ?_
            refine K_putI dX4_set_83 fl_X4_57 (by first | rfl | exact sk_rk (by omega) | exact sk_hh (by omega)) rfl rfl rfl rfl ?_
            refine K_goto (tgt := 116) dX4_set_86 (by decide) ?_
            refine K_iload_n dX4_set_116 rfl rfl ?_
            refine K_iret dX4_set_117 rfl ?_
            first | exact absurd c11 c39 | exact absurd c39 c11 | exact absurd c23 c64 | exact absurd c64 c23 | exact (n01 c39 c64).elim | exact (n02 c39 c91).elim | exact (n12 c64 c91).elim | (have z := of_decide_eq_true c51; rw [o_set, if_pos ⟨c39, z⟩]; rw [q1 z.1] at r1; exact ⟨rfl, r1, F0.set (by decide), rfl⟩) | (have z := of_decide_eq_true c78; rw [o_set, if_neg (fun h => n01 h.1 c64), if_pos ⟨c64, z⟩]; rw [q2 z.1] at r2; exact ⟨rfl, r2, F0.set (by decide), rfl⟩) | (have z := of_decide_eq_true c103; rw [o_set, if_neg (fun h => n02 h.1 c91), if_neg (fun h => n12 h.1 c91), if_pos ⟨c91, z⟩]; rw [nI_back z.1] at r3; exact ⟨rfl, r3, F0.set (by decide), rfl⟩) | (rw [o_set, if_neg (fun h => by first | exact c39 h.1 | exact absurd h.2 (of_decide_eq_false c51)), if_neg (fun h => by first | exact c64 h.1 | exact absurd h.2 (of_decide_eq_false c78)), if_neg (fun h => by first | exact c91 h.1 | exact absurd h.2 (of_decide_eq_false c103))]; exact ⟨rfl, R0, F0, rfl⟩)
      · refine K_iload_n dX4_set_42 rfl rfl ?_
        refine K_i2l dX4_set_43 rfl ?_
        refine K_lconst (v := 1) dX4_set_44 (by decide) rfl ?_
        refine K_ldc2 dX4_set_45 kl_X4_124 rfl ?_
        refine K_sv (d1 := d - 1) [_, _, _] dX4_set_48 ml_X4_90 rfl rfl (Nat.le_of_ble_eq_true rfl) l1 (by omega) rfl ?_
        refine K_if_eqB (tgt := 62) dX4_set_51 (by decide) rfl (fun c51 => ?_) (fun c51 => ?_)
        · refine K_iload_n dX4_set_62 rfl rfl ?_
          refine K_iconst (v := nI 1) dX4_set_63 (by decide) rfl ?_
          refine K_icmp_ne (tgt := 89) dX4_set_64 (by decide) rfl (fun c64 => ?_) (fun c64 => ?_)
          · refine K_iload_n dX4_set_89 rfl rfl ?_
            refine K_iconst (v := nI 2) dX4_set_90 (by decide) rfl ?_
            refine K_icmp_ne (tgt := 114) dX4_set_91 (by decide) rfl (fun c91 => ?_) (fun c91 => ?_)
            · refine K_iconst (v := (-1)) dX4_set_114 (by decide) rfl ?_
              refine K_iret dX4_set_115 rfl ?_
              first | exact absurd c11 c39 | exact absurd c39 c11 | exact absurd c23 c64 | exact absurd c64 c23 | exact (n01 c39 c64).elim | exact (n02 c39 c91).elim | exact (n12 c64 c91).elim | (have z := of_decide_eq_true c51; rw [o_set, if_pos ⟨c39, z⟩]; rw [q1 z.1] at r1; exact ⟨rfl, r1, F0.set (by decide), rfl⟩) | (have z := of_decide_eq_true c78; rw [o_set, if_neg (fun h => n01 h.1 c64), if_pos ⟨c64, z⟩]; rw [q2 z.1] at r2; exact ⟨rfl, r2, F0.set (by decide), rfl⟩) | (have z := of_decide_eq_true c103; rw [o_set, if_neg (fun h => n02 h.1 c91), if_neg (fun h => n12 h.1 c91), if_pos ⟨c91, z⟩]; rw [nI_back z.1] at r3; exact ⟨rfl, r3, F0.set (by decide), rfl⟩) | (rw [o_set, if_neg (fun h => by first | exact c39 h.1 | exact absurd h.2 (of_decide_eq_false c51)), if_neg (fun h => by first | exact c64 h.1 | exact absurd h.2 (of_decide_eq_false c78)), if_neg (fun h => by first | exact c91 h.1 | exact absurd h.2 (of_decide_eq_false c103))]; exact ⟨rfl, R0, F0, rfl⟩)
            · refine K_iload_n dX4_set_94 rfl rfl ?_
              refine K_i2l dX4_set_95 rfl ?_
              refine K_lconst (v := 0) dX4_set_96 (by decide) rfl ?_
              refine K_ldc2 dX4_set_97 kl_X4_128 rfl ?_
              refine K_sv (d1 := d - 1) [_, _, _] dX4_set_100 ml_X4_90 rfl rfl (Nat.le_of_ble_eq_true rfl) l3 (by omega) rfl ?_
              refine K_if_eqB (tgt := 114) dX4_set_103 (by decide) rfl (fun c103 => ?_) (fun c103 => ?_)
              · refine K_iconst (v := (-1)) dX4_set_114 (by decide) rfl ?_
                refine K_iret dX4_set_115 rfl ?_
                first | exact absurd c11 c39 | exact absurd c39 c11 | exact absurd c23 c64 | exact absurd c64 c23 | exact (n01 c39 c64).elim | exact (n02 c39 c91).elim | exact (n12 c64 c91).elim | (have z := of_decide_eq_true c51; rw [o_set, if_pos ⟨c39, z⟩]; rw [q1 z.1] at r1; exact ⟨rfl, r1, F0.set (by decide), rfl⟩) | (have z := of_decide_eq_true c78; rw [o_set, if_neg (fun h => n01 h.1 c64), if_pos ⟨c64, z⟩]; rw [q2 z.1] at r2; exact ⟨rfl, r2, F0.set (by decide), rfl⟩) | (have z := of_decide_eq_true c103; rw [o_set, if_neg (fun h => n02 h.1 c91), if_neg (fun h => n12 h.1 c91), if_pos ⟨c91, z⟩]; rw [nI_back z.1] at r3; exact ⟨rfl, r3, F0.set (by decide), rfl⟩) | (rw [o_set, if_neg (fun h => by first | exact c39 h.1 | exact absurd h.2 (of_decide_eq_false c51)), if_neg (fun h => by first | exact c64 h.1 | exact absurd h.2 (of_decide_eq_false c78)), if_neg (fun h => by first | exact c91 h.1 | exact absurd h.2 (of_decide_eq_false c103))]; exact ⟨rfl, R0, F0, rfl⟩)
              · refine K_aload_n dX4_set_106 rfl rfl ?_
                refine K_iload_n dX4_set_107 rfl rfl ?_
                refine K_putI dX4_set_108 fl_X4_121 (by first | rfl | exact sk_rk (by omega) | exact sk_hh (by omega)) rfl rfl rfl rfl ?_
                refine K_goto (tgt := 116) dX4_set_111 (by decide) ?_
                refine K_iload_n dX4_set_116 rfl rfl ?_
                refine K_iret dX4_set_117 rfl ?_
                first | exact absurd c11 c39 | exact absurd c39 c11 | exact absurd c23 c64 | exact absurd c64 c23 | exact (n01 c39 c64).elim | exact (n02 c39 c91).elim | exact (n12 c64 c91).elim | (have z := of_decide_eq_true c51; rw [o_set, if_pos ⟨c39, z⟩]; rw [q1 z.1] at r1; exact ⟨rfl, r1, F0.set (by decide), rfl⟩) | (have z := of_decide_eq_true c78; rw [o_set, if_neg (fun h => n01 h.1 c64), if_pos ⟨c64, z⟩]; rw [q2 z.1] at r2; exact ⟨rfl, r2, F0.set (by decide), rfl⟩) | (have z := of_decide_eq_true c103; rw [o_set, if_neg (fun h => n02 h.1 c91), if_neg (fun h => n12 h.1 c91), if_pos ⟨c91, z⟩]; rw [nI_back z.1] at r3; exact ⟨rfl, r3, F0.set (by decide), rfl⟩) | (rw [o_set, if_neg (fun h => by first | exact c39 h.1 | exact absurd h.2 (of_decide_eq_false c51)), if_neg (fun h => by first | exact c64 h.1 | exact absurd h.2 (of_decide_eq_false c78)), if_neg (fun h => by first | exact c91 h.1 | exact absurd h.2 (of_decide_eq_false c103))]; exact ⟨rfl, R0, F0, rfl⟩)
          · refine K_iload_n dX4_set_67 rfl rfl ?_
            refine K_i2l dX4_set_68 rfl ?_
            refine K_ldc2 dX4_set_69 kl_X4_119 rfl ?_
            refine K_ldc2 dX4_set_72 kl_X4_126 rfl ?_
            refine K_sv (d1 := d - 1) [_, _, _] dX4_set_75 ml_X4_90 rfl rfl (Nat.le_of_ble_eq_true rfl) l2 (by omega) rfl ?_
            refine K_if_eqB (tgt := 89) dX4_set_78 (by decide) rfl (fun c78 => ?_) (fun c78 => ?_)
            · refine K_iload_n dX4_set_89 rfl rfl ?_
              refine K_iconst (v := nI 2) dX4_set_90 (by decide) rfl ?_
              refine K_icmp_ne (tgt := 114) dX4_set_91 (by decide) rfl (fun c91 => ?_) (fun c91 => ?_)
              · refine K_iconst (v := (-1)) dX4_set_114 (by decide) rfl ?_
                refine K_iret dX4_set_115 rfl ?_
                first | exact absurd c11 c39 | exact absurd c39 c11 | exact absurd c23 c64 | exact absurd c64 c23 | exact (n01 c39 c64).elim | exact (n02 c39 c91).elim | exact (n12 c64 c91).elim | (have z := of_decide_eq_true c51; rw [o_set, if_pos ⟨c39, z⟩]; rw [q1 z.1] at r1; exact ⟨rfl, r1, F0.set (by decide), rfl⟩) | (have z := of_decide_eq_true c78; rw [o_set, if_neg (fun h => n01 h.1 c64), if_pos ⟨c64, z⟩]; rw [q2 z.1] at r2; exact ⟨rfl, r2, F0.set (by decide), rfl⟩) | (have z := of_decide_eq_true c103; rw [o_set, if_neg (fun h => n02 h.1 c91), if_neg (fun h => n12 h.1 c91), if_pos ⟨c91, z⟩]; rw [nI_back z.1] at r3; exact ⟨rfl, r3, F0.set (by decide), rfl⟩) | (rw [o_set, if_neg (fun h => by first | exact c39 h.1 | exact absurd h.2 (of_decide_eq_false c51)), if_neg (fun h => by first | exact c64 h.1 | exact absurd h.2 (of_decide_eq_false c78)), if_neg (fun h => by first | exact c91 h.1 | exact absurd h.2 (of_decide_eq_false c103))]; exact ⟨rfl, R0, F0, rfl⟩)
              · refine K_iload_n dX4_set_94 rfl rfl ?_
                refine K_i2l dX4_set_95 rfl ?_
                refine K_lconst (v := 0) dX4_set_96 (by decide) rfl ?_
                refine K_ldc2 dX4_set_97 kl_X4_128 rfl ?_
                refine K_sv (d1 := d - 1) [_, _, _] dX4_set_100 ml_X4_90 rfl rfl (Nat.le_of_ble_eq_true rfl) l3 (by omega) rfl ?_
                refine K_if_eqB (tgt := 114) dX4_set_103 (by decide) rfl (fun c103 => ?_) (fun c103 => ?_)
                · refine K_iconst (v := (-1)) dX4_set_114 (by decide) rfl ?_
                  refine K_iret dX4_set_115 rfl ?_
                  first | exact absurd c11 c39 | exact absurd c39 c11 | exact absurd c23 c64 | exact absurd c64 c23 | exact (n01 c39 c64).elim | exact (n02 c39 c91).elim | exact (n12 c64 c91).elim | (have z := of_decide_eq_true c51; rw [o_set, if_pos ⟨c39, z⟩]; rw [q1 z.1] at r1; exact ⟨rfl, r1, F0.set (by decide), rfl⟩) | (have z := of_decide_eq_true c78; rw [o_set, if_neg (fun h => n01 h.1 c64), if_pos ⟨c64, z⟩]; rw [q2 z.1] at r2; exact ⟨rfl, r2, F0.set (by decide), rfl⟩) | (have z := of_decide_eq_true c103; rw [o_set, if_neg (fun h => n02 h.1 c91), if_neg (fun h => n12 h.1 c91), if_pos ⟨c91, z⟩]; rw [nI_back z.1] at r3; exact ⟨rfl, r3, F0.set (by decide), rfl⟩) | (rw [o_set, if_neg (fun h => by first | exact c39 h.1 | exact absurd h.2 (of_decide_eq_false c51)), if_neg (fun h => by first | exact c64 h.1 | exact absurd h.2 (of_decide_eq_false c78)), if_neg (fun h => by first | exact c91 h.1 | exact absurd h.2 (of_decide_eq_false c103))]; exact ⟨rfl, R0, F0, rfl⟩)
                · refine K_aload_n dX4_set_106 rfl rfl ?_
                  refine K_iload_n dX4_set_107 rfl rfl ?_
                  refine K_putI dX4_set_108 fl_X4_121 (by first | rfl | exact sk_rk (by omega) | exact sk_hh (by omega)) rfl rfl rfl rfl ?_
                  refine K_goto (tgt := 116) dX4_set_111 (by decide) ?_
                  refine K_iload_n dX4_set_116 rfl rfl ?_
                  refine K_iret dX4_set_117 rfl ?_
                  first | exact absurd c11 c39 | exact absurd c39 c11 | exact absurd c23 c64 | exact absurd c64 c23 | exact (n01 c39 c64).elim | exact (n02 c39 c91).elim | exact (n12 c64 c91).elim | (have z := of_decide_eq_true c51; rw [o_set, if_pos ⟨c39, z⟩]; rw [q1 z.1] at r1; exact ⟨rfl, r1, F0.set (by decide), rfl⟩) | (have z := of_decide_eq_true c78; rw [o_set, if_neg (fun h => n01 h.1 c64), if_pos ⟨c64, z⟩]; rw [q2 z.1] at r2; exact ⟨rfl, r2, F0.set (by decide), rfl⟩) | (have z := of_decide_eq_true c103; rw [o_set, if_neg (fun h => n02 h.1 c91), if_neg (fun h => n12 h.1 c91), if_pos ⟨c91, z⟩]; rw [nI_back z.1] at r3; exact ⟨rfl, r3, F0.set (by decide), rfl⟩) | (rw [o_set, if_neg (fun h => by first | exact c39 h.1 | exact absurd h.2 (of_decide_eq_false c51)), if_neg (fun h => by first | exact c64 h.1 | exact absurd h.2 (of_decide_eq_false c78)), if_neg (fun h => by first | exact c91 h.1 | exact absurd h.2 (of_decide_eq_false c103))]; exact ⟨rfl, R0, F0, rfl⟩)
            · refine K_aload_n dX4_set_81 rfl rfl ?_
              refine K_iload_n dX4_set_82 rfl rfl ?_
              refine K_putI dX4_set_83 fl_X4_57 (by first | rfl | exact sk_rk (by omega) | exact sk_hh (by omega)) rfl rfl rfl rfl ?_
              refine K_goto (tgt := 116) dX4_set_86 (by decide) ?_
              refine K_iload_n dX4_set_116 rfl rfl ?_
              refine K_iret dX4_set_117 rfl ?_
              first | exact absurd c11 c39 | exact absurd c39 c11 | exact absurd c23 c64 | exact absurd c64 c23 | exact (n01 c39 c64).elim | exact (n02 c39 c91).elim | exact (n12 c64 c91).elim | (have z := of_decide_eq_true c51; rw [o_set, if_pos ⟨c39, z⟩]; rw [q1 z.1] at r1; exact ⟨rfl, r1, F0.set (by decide), rfl⟩) | (have z := of_decide_eq_true c78; rw [o_set, if_neg (fun h => n01 h.1 c64), if_pos ⟨c64, z⟩]; rw [q2 z.1] at r2; exact ⟨rfl, r2, F0.set (by decide), rfl⟩) | (have z := of_decide_eq_true c103; rw [o_set, if_neg (fun h => n02 h.1 c91), if_neg (fun h => n12 h.1 c91), if_pos ⟨c91, z⟩]; rw [nI_back z.1] at r3; exact ⟨rfl, r3, F0.set (by decide), rfl⟩) | (rw [o_set, if_neg (fun h => by first | exact c39 h.1 | exact absurd h.2 (of_decide_eq_false c51)), if_neg (fun h => by first | exact c64 h.1 | exact absurd h.2 (of_decide_eq_false c78)), if_neg (fun h => by first | exact c91 h.1 | exact absurd h.2 (of_decide_eq_false c103))]; exact ⟨rfl, R0, F0, rfl⟩)
        · refine K_aload_n dX4_set_54 rfl rfl ?_
          refine K_iload_n dX4_set_55 rfl rfl ?_
          refine K_putI dX4_set_56 fl_X4_53 (by first | rfl | exact sk_rk (by omega) | exact sk_hh (by omega)) rfl rfl rfl rfl ?_
          refine K_goto (tgt := 116) dX4_set_59 (by decide) ?_
          refine K_iload_n dX4_set_116 rfl rfl ?_
          refine K_iret dX4_set_117 rfl ?_
          first | exact absurd c11 c39 | exact absurd c39 c11 | exact absurd c23 c64 | exact absurd c64 c23 | exact (n01 c39 c64).elim | exact (n02 c39 c91).elim | exact (n12 c64 c91).elim | (have z := of_decide_eq_true c51; rw [o_set, if_pos ⟨c39, z⟩]; rw [q1 z.1] at r1; exact ⟨rfl, r1, F0.set (by decide), rfl⟩) | (have z := of_decide_eq_true c78; rw [o_set, if_neg (fun h => n01 h.1 c64), if_pos ⟨c64, z⟩]; rw [q2 z.1] at r2; exact ⟨rfl, r2, F0.set (by decide), rfl⟩) | (have z := of_decide_eq_true c103; rw [o_set, if_neg (fun h => n02 h.1 c91), if_neg (fun h => n12 h.1 c91), if_pos ⟨c91, z⟩]; rw [nI_back z.1] at r3; exact ⟨rfl, r3, F0.set (by decide), rfl⟩) | (rw [o_set, if_neg (fun h => by first | exact c39 h.1 | exact absurd h.2 (of_decide_eq_false c51)), if_neg (fun h => by first | exact c64 h.1 | exact absurd h.2 (of_decide_eq_false c78)), if_neg (fun h => by first | exact c91 h.1 | exact absurd h.2 (of_decide_eq_false c103))]; exact ⟨rfl, R0, F0, rfl⟩)
  · refine K_aload_n dX4_set_14 rfl rfl ?_
    refine K_getI dX4_set_15 fl_X4_53 (by first | rfl | exact sk_rk (by omega) | exact sk_hh (by omega)) rfl (by first | assumption | rfl) rfl ?_
    refine K_goto (tgt := 37) dX4_set_18 (by decide) ?_
    refine K_istore_n (lv' := [(0, _), (1, _), (2, _), (3, _)]) dX4_set_37 (by decide) rfl rfl ?_
    refine K_iload_n dX4_set_38 rfl rfl ?_
    refine K_if_ne (tgt := 62) dX4_set_39 (by decide) rfl (fun c39 => ?_) (fun c39 => ?_)
    · refine K_iload_n dX4_set_62 rfl rfl ?_
      refine K_iconst (v := nI 1) dX4_set_63 (by decide) rfl ?_
      refine K_icmp_ne (tgt := 89) dX4_set_64 (by decide) rfl (fun c64 => ?_) (fun c64 => ?_)
      · refine K_iload_n dX4_set_89 rfl rfl ?_
        refine K_iconst (v := nI 2) dX4_set_90 (by decide) rfl ?_
        refine K_icmp_ne (tgt := 114) dX4_set_91 (by decide) rfl (fun c91 => ?_) (fun c91 => ?_)
        · refine K_iconst (v := (-1)) dX4_set_114 (by decide) rfl ?_
          refine K_iret dX4_set_115 rfl ?_
          first | exact absurd c11 c39 | exact absurd c39 c11 | exact absurd c23 c64 | exact absurd c64 c23 | exact (n01 c39 c64).elim | exact (n02 c39 c91).elim | exact (n12 c64 c91).elim | (have z := of_decide_eq_true c51; rw [o_set, if_pos ⟨c39, z⟩]; rw [q1 z.1] at r1; exact ⟨rfl, r1, F0.set (by decide), rfl⟩) | (have z := of_decide_eq_true c78; rw [o_set, if_neg (fun h => n01 h.1 c64), if_pos ⟨c64, z⟩]; rw [q2 z.1] at r2; exact ⟨rfl, r2, F0.set (by decide), rfl⟩) | (have z := of_decide_eq_true c103; rw [o_set, if_neg (fun h => n02 h.1 c91), if_neg (fun h => n12 h.1 c91), if_pos ⟨c91, z⟩]; rw [nI_back z.1] at r3; exact ⟨rfl, r3, F0.set (by decide), rfl⟩) | (rw [o_set, if_neg (fun h => by first | exact c39 h.1 | exact absurd h.2 (of_decide_eq_false c51)), if_neg (fun h => by first | exact c64 h.1 | exact absurd h.2 (of_decide_eq_false c78)), if_neg (fun h => by first | exact c91 h.1 | exact absurd h.2 (of_decide_eq_false c103))]; exact ⟨rfl, R0, F0, rfl⟩)
        · refine K_iload_n dX4_set_94 rfl rfl ?_
          refine K_i2l dX4_set_95 rfl ?_
          refine K_lconst (v := 0) dX4_set_96 (by decide) rfl ?_
          refine K_ldc2 dX4_set_97 kl_X4_128 rfl ?_
          refine K_sv (d1 := d - 1) [_, _, _] dX4_set_100 ml_X4_90 rfl rfl (Nat.le_of_ble_eq_true rfl) l3 (by omega) rfl ?_
          refine K_if_eqB (tgt := 114) dX4_set_103 (by decide) rfl (fun c103 => ?_) (fun c103 => ?_)
          · refine K_iconst (v := (-1)) dX4_set_114 (by decide) rfl ?_
            refine K_iret dX4_set_115 rfl ?_
            first | exact absurd c11 c39 | exact absurd c39 c11 | exact absurd c23 c64 | exact absurd c64 c23 | exact (n01 c39 c64).elim | exact (n02 c39 c91).elim | exact (n12 c64 c91).elim | (have z := of_decide_eq_true c51; rw [o_set, if_pos ⟨c39, z⟩]; rw [q1 z.1] at r1; exact ⟨rfl, r1, F0.set (by decide), rfl⟩) | (have z := of_decide_eq_true c78; rw [o_set, if_neg (fun h => n01 h.1 c64), if_pos ⟨c64, z⟩]; rw [q2 z.1] at r2; exact ⟨rfl, r2, F0.set (by decide), rfl⟩) | (have z := of_decide_eq_true c103; rw [o_set, if_neg (fun h => n02 h.1 c91), if_neg (fun h => n12 h.1 c91), if_pos ⟨c91, z⟩]; rw [nI_back z.1] at r3; exact ⟨rfl, r3, F0.set (by decide), rfl⟩) | (rw [o_set, if_neg (fun h => by first | exact c39 h.1 | exact absurd h.2 (of_decide_eq_false c51)), if_neg (fun h => by first | exact c64 h.1 | exact absurd h.2 (of_decide_eq_false c78)), if_neg (fun h => by first | exact c91 h.1 | exact absurd h.2 (of_decide_eq_false c103))]; exact ⟨rfl, R0, F0, rfl⟩)
          · refine K_aload_n dX4_set_106 rfl rfl ?_
            refine K_iload_n dX4_set_107 rfl rfl ?_
            refine K_putI dX4_set_108 fl_X4_121 (by first | rfl | exact sk_rk (by omega) | exact sk_hh (by omega)) rfl rfl rfl rfl ?_
            refine K_goto (tgt := 116) dX4_set_111 (by decide) ?_
            refine K_iload_n dX4_set_116 rfl rfl ?_
            refine K_iret dX4_set_117 rfl ?_
            first | exact absurd c11 c39 | exact absurd c39 c11 | exact absurd c23 c64 | exact absurd c64 c23 | exact (n01 c39 c64).elim | exact (n02 c39 c91).elim | exact (n12 c64 c91).elim | (have z := of_decide_eq_true c51; rw [o_set, if_pos ⟨c39, z⟩]; rw [q1 z.1] at r1; exact ⟨rfl, r1, F0.set (by decide), rfl⟩) | (have z := of_decide_eq_true c78; rw [o_set, if_neg (fun h => n01 h.1 c64), if_pos ⟨c64, z⟩]; rw [q2 z.1] at r2; exact ⟨rfl, r2, F0.set (by decide), rfl⟩) | (have z := of_decide_eq_true c103; rw [o_set, if_neg (fun h => n02 h.1 c91), if_neg (fun h => n12 h.1 c91), if_pos ⟨c91, z⟩]; rw [nI_back z.1] at r3; exact ⟨rfl, r3, F0.set (by decide), rfl⟩) | (rw [o_set, if_neg (fun h => by first | exact c39 h.1 | exact absurd h.2 (of_decide_eq_false c51)), if_neg (fun h => by first | exact c64 h.1 | exact absurd h.2 (of_decide_eq_false c78)), if_neg (fun h => by first | exact c91 h.1 | exact absurd h.2 (of_decide_eq_false c103))]; exact ⟨rfl, R0, F0, rfl⟩)
      · refine K_iload_n dX4_set_67 rfl rfl ?_
        refine K_i2l dX4_set_68 rfl ?_
        refine K_ldc2 dX4_set_69 kl_X4_119 rfl ?_
        refine K_ldc2 dX4_set_72 kl_X4_126 rfl ?_
        refine K_sv (d1 := d - 1) [_, _, _] dX4_set_75 ml_X4_90 rfl rfl (Nat.le_of_ble_eq_true rfl) l2 (by omega) rfl ?_
        refine K_if_eqB (tgt := 89) dX4_set_78 (by decide) rfl (fun c78 => ?_) (fun c78 => ?_)
        · refine K_iload_n dX4_set_89 rfl rfl ?_
          refine K_iconst (v := nI 2) dX4_set_90 (by decide) rfl ?_
          refine K_icmp_ne (tgt := 114) dX4_set_91 (by decide) rfl (fun c91 => ?_) (fun c91 => ?_)
          · refine K_iconst (v := (-1)) dX4_set_114 (by decide) rfl ?_
            refine K_iret dX4_set_115 rfl ?_
            first | exact absurd c11 c39 | exact absurd c39 c11 | exact absurd c23 c64 | exact absurd c64 c23 | exact (n01 c39 c64).elim | exact (n02 c39 c91).elim | exact (n12 c64 c91).elim | (have z := of_decide_eq_true c51; rw [o_set, if_pos ⟨c39, z⟩]; rw [q1 z.1] at r1; exact ⟨rfl, r1, F0.set (by decide), rfl⟩) | (have z := of_decide_eq_true c78; rw [o_set, if_neg (fun h => n01 h.1 c64), if_pos ⟨c64, z⟩]; rw [q2 z.1] at r2; exact ⟨rfl, r2, F0.set (by decide), rfl⟩) | (have z := of_decide_eq_true c103; rw [o_set, if_neg (fun h => n02 h.1 c91), if_neg (fun h => n12 h.1 c91), if_pos ⟨c91, z⟩]; rw [nI_back z.1] at r3; exact ⟨rfl, r3, F0.set (by decide), rfl⟩) | (rw [o_set, if_neg (fun h => by first | exact c39 h.1 | exact absurd h.2 (of_decide_eq_false c51)), if_neg (fun h => by first | exact c64 h.1 | exact absurd h.2 (of_decide_eq_false c78)), if_neg (fun h => by first | exact c91 h.1 | exact absurd h.2 (of_decide_eq_false c103))]; exact ⟨rfl, R0, F0, rfl⟩)
          · refine K_iload_n dX4_set_94 rfl rfl ?_
            refine K_i2l dX4_set_95 rfl ?_
            refine K_lconst (v := 0) dX4_set_96 (by decide) rfl ?_
            refine K_ldc2 dX4_set_97 kl_X4_128 rfl ?_
            refine K_sv (d1 := d - 1) [_, _, _] dX4_set_100 ml_X4_90 rfl rfl (Nat.le_of_ble_eq_true rfl) l3 (by omega) rfl ?_
            refine K_if_eqB (tgt := 114) dX4_set_103 (by decide) rfl (fun c103 => ?_) (fun c103 => ?_)
            · refine K_iconst (v := (-1)) dX4_set_114 (by decide) rfl ?_
              refine K_iret dX4_set_115 rfl ?_
              first | exact absurd c11 c39 | exact absurd c39 c11 | exact absurd c23 c64 | exact absurd c64 c23 | exact (n01 c39 c64).elim | exact (n02 c39 c91).elim | exact (n12 c64 c91).elim | (have z := of_decide_eq_true c51; rw [o_set, if_pos ⟨c39, z⟩]; rw [q1 z.1] at r1; exact ⟨rfl, r1, F0.set (by decide), rfl⟩) | (have z := of_decide_eq_true c78; rw [o_set, if_neg (fun h => n01 h.1 c64), if_pos ⟨c64, z⟩]; rw [q2 z.1] at r2; exact ⟨rfl, r2, F0.set (by decide), rfl⟩) | (have z := of_decide_eq_true c103; rw [o_set, if_neg (fun h => n02 h.1 c91), if_neg (fun h => n12 h.1 c91), if_pos ⟨c91, z⟩]; rw [nI_back z.1] at r3; exact ⟨rfl, r3, F0.set (by decide), rfl⟩) | (rw [o_set, if_neg (fun h => by first | exact c39 h.1 | exact absurd h.2 (of_decide_eq_false c51)), if_neg (fun h => by first | exact c64 h.1 | exact absurd h.2 (of_decide_eq_false c78)), if_neg (fun h => by first | exact c91 h.1 | exact absurd h.2 (of_decide_eq_false c103))]; exact ⟨rfl, R0, F0, rfl⟩)
            · refine K_aload_n dX4_set_106 rfl rfl ?_
              refine K_iload_n dX4_set_107 rfl rfl ?_
              refine K_putI dX4_set_108 fl_X4_121 (by first | rfl | exact sk_rk (by omega) | exact sk_hh (by omega)) rfl rfl rfl rfl ?_
              refine K_goto (tgt := 116) dX4_set_111 (by decide) ?_
              refine K_iload_n dX4_set_116 rfl rfl ?_
              refine K_iret dX4_set_117 rfl ?_
              first | exact absurd c11 c39 | exact absurd c39 c11 | exact absurd c23 c64 | exact absurd c64 c23 | exact (n01 c39 c64).elim | exact (n02 c39 c91).elim | exact (n12 c64 c91).elim | (have z := of_decide_eq_true c51; rw [o_set, if_pos ⟨c39, z⟩]; rw [q1 z.1] at r1; exact ⟨rfl, r1, F0.set (by decide), rfl⟩) | (have z := of_decide_eq_true c78; rw [o_set, if_neg (fun h => n01 h.1 c64), if_pos ⟨c64, z⟩]; rw [q2 z.1] at r2; exact ⟨rfl, r2, F0.set (by decide), rfl⟩) | (have z := of_decide_eq_true c103; rw [o_set, if_neg (fun h => n02 h.1 c91), if_neg (fun h => n12 h.1 c91), if_pos ⟨c91, z⟩]; rw [nI_back z.1] at r3; exact ⟨rfl, r3, F0.set (by decide), rfl⟩) | (rw [o_set, if_neg (fun h => by first | exact c39 h.1 | exact absurd h.2 (of_decide_eq_false c51)), if_neg (fun h => by first | exact c64 h.1 | exact absurd h.2 (of_decide_eq_false c78)), if_neg (fun h => by first | exact c91 h.1 | exact absurd h.2 (of_decide_eq_false c103))]; exact ⟨rfl, R0, F0, rfl⟩)
        · refine K_aload_n dX4_set_81 rfl rfl ?_
          refine K_iload_n dX4_set_82 rfl rfl ?_
          refine K_putI dX4_set_83 fl_X4_57 (by first | rfl | exact sk_rk (by omega) | exact sk_hh (by omega)) rfl rfl rfl rfl ?_
          refine K_goto (tgt := 116) dX4_set_86 (by decide) ?_
          refine K_iload_n dX4_set_116 rfl rfl ?_
          refine K_iret dX4_set_117 rfl ?_
          first | exact absurd c11 c39 | exact absurd c39 c11 | exact absurd c23 c64 | exact absurd c64 c23 | exact (n01 c39 c64).elim | exact (n02 c39 c91).elim | exact (n12 c64 c91).elim | (have z := of_decide_eq_true c51; rw [o_set, if_pos ⟨c39, z⟩]; rw [q1 z.1] at r1; exact ⟨rfl, r1, F0.set (by decide), rfl⟩) | (have z := of_decide_eq_true c78; rw [o_set, if_neg (fun h => n01 h.1 c64), if_pos ⟨c64, z⟩]; rw [q2 z.1] at r2; exact ⟨rfl, r2, F0.set (by decide), rfl⟩) | (have z := of_decide_eq_true c103; rw [o_set, if_neg (fun h => n02 h.1 c91), if_neg (fun h => n12 h.1 c91), if_pos ⟨c91, z⟩]; rw [nI_back z.1] at r3; exact ⟨rfl, r3, F0.set (by decide), rfl⟩) | (rw [o_set, if_neg (fun h => by first | exact c39 h.1 | exact absurd h.2 (of_decide_eq_false c51)), if_neg (fun h => by first | exact c64 h.1 | exact absurd h.2 (of_decide_eq_false c78)), if_neg (fun h => by first | exact c91 h.1 | exact absurd h.2 (of_decide_eq_false c103))]; exact ⟨rfl, R0, F0, rfl⟩)
    · refine K_iload_n dX4_set_42 rfl rfl ?_
      refine K_i2l dX4_set_43 rfl ?_
      refine K_lconst (v := 1) dX4_set_44 (by decide) rfl ?_
      refine K_ldc2 dX4_set_45 kl_X4_124 rfl ?_
      refine K_sv (d1 := d - 1) [_, _, _] dX4_set_48 ml_X4_90 rfl rfl (Nat.le_of_ble_eq_true rfl) l1 (by omega) rfl ?_
      refine K_if_eqB (tgt := 62) dX4_set_51 (by decide) rfl (fun c51 => ?_) (fun c51 => ?_)
      · refine K_iload_n dX4_set_62 rfl rfl ?_
        refine K_iconst (v := nI 1) dX4_set_63 (by decide) rfl ?_
        refine K_icmp_ne (tgt := 89) dX4_set_64 (by decide) rfl (fun c64 => ?_) (fun c64 => ?_)
        · refine K_iload_n dX4_set_89 rfl rfl ?_
          refine K_iconst (v := nI 2) dX4_set_90 (by decide) rfl ?_
          refine K_icmp_ne (tgt := 114) dX4_set_91 (by decide) rfl (fun c91 => ?_) (fun c91 => ?_)
          · refine K_iconst (v := (-1)) dX4_set_114 (by decide) rfl ?_
            refine K_iret dX4_set_115 rfl ?_
            first | exact absurd c11 c39 | exact absurd c39 c11 | exact absurd c23 c64 | exact absurd c64 c23 | exact (n01 c39 c64).elim | exact (n02 c39 c91).elim | exact (n12 c64 c91).elim | (have z := of_decide_eq_true c51; rw [o_set, if_pos ⟨c39, z⟩]; rw [q1 z.1] at r1; exact ⟨rfl, r1, F0.set (by decide), rfl⟩) | (have z := of_decide_eq_true c78; rw [o_set, if_neg (fun h => n01 h.1 c64), if_pos ⟨c64, z⟩]; rw [q2 z.1] at r2; exact ⟨rfl, r2, F0.set (by decide), rfl⟩) | (have z := of_decide_eq_true c103; rw [o_set, if_neg (fun h => n02 h.1 c91), if_neg (fun h => n12 h.1 c91), if_pos ⟨c91, z⟩]; rw [nI_back z.1] at r3; exact ⟨rfl, r3, F0.set (by decide), rfl⟩) | (rw [o_set, if_neg (fun h => by first | exact c39 h.1 | exact absurd h.2 (of_decide_eq_false c51)), if_neg (fun h => by first | exact c64 h.1 | exact absurd h.2 (of_decide_eq_false c78)), if_neg (fun h => by first | exact c91 h.1 | exact absurd h.2 (of_decide_eq_false c103))]; exact ⟨rfl, R0, F0, rfl⟩)
          · refine K_iload_n dX4_set_94 rfl rfl ?_
            refine K_i2l dX4_set_95 rfl ?_
            refine K_lconst (v := 0) dX4_set_96 (by decide) rfl ?_
            refine K_ldc2 dX4_set_97 kl_X4_128 rfl ?_
            refine K_sv (d1 := d - 1) [_, _, _] dX4_set_100 ml_X4_90 rfl rfl (Nat.le_of_ble_eq_true rfl) l3 (by omega) rfl ?_
            refine K_if_eqB (tgt := 114) dX4_set_103 (by decide) rfl (fun c103 => ?_) (fun c103 => ?_)
            · refine K_iconst (v := (-1)) dX4_set_114 (by decide) rfl ?_
              refine K_iret dX4_set_115 rfl ?_
              first | exact absurd c11 c39 | exact absurd c39 c11 | exact absurd c23 c64 | exact absurd c64 c23 | exact (n01 c39 c64).elim | exact (n02 c39 c91).elim | exact (n12 c64 c91).elim | (have z := of_decide_eq_true c51; rw [o_set, if_pos ⟨c39, z⟩]; rw [q1 z.1] at r1; exact ⟨rfl, r1, F0.set (by decide), rfl⟩) | (have z := of_decide_eq_true c78; rw [o_set, if_neg (fun h => n01 h.1 c64), if_pos ⟨c64, z⟩]; rw [q2 z.1] at r2; exact ⟨rfl, r2, F0.set (by decide), rfl⟩) | (have z := of_decide_eq_true c103; rw [o_set, if_neg (fun h => n02 h.1 c91), if_neg (fun h => n12 h.1 c91), if_pos ⟨c91, z⟩]; rw [nI_back z.1] at r3; exact ⟨rfl, r3, F0.set (by decide), rfl⟩) | (rw [o_set, if_neg (fun h => by first | exact c39 h.1 | exact absurd h.2 (of_decide_eq_false c51)), if_neg (fun h => by first | exact c64 h.1 | exact absurd h.2 (of_decide_eq_false c78)), if_neg (fun h => by first | exact c91 h.1 | exact absurd h.2 (of_decide_eq_false c103))]; exact ⟨rfl, R0, F0, rfl⟩)
            · refine K_aload_n dX4_set_106 rfl rfl ?_
              refine K_iload_n dX4_set_107 rfl rfl ?_
              refine K_putI dX4_set_108 fl_X4_121 (by first | rfl | exact sk_rk (by omega) | exact sk_hh (by omega)) rfl rfl rfl rfl ?_
              refine K_goto (tgt := 116) dX4_set_111 (by decide) ?_
              refine K_iload_n dX4_set_116 rfl rfl ?_
              refine K_iret dX4_set_117 rfl ?_
              first | exact absurd c11 c39 | exact absurd c39 c11 | exact absurd c23 c64 | exact absurd c64 c23 | exact (n01 c39 c64).elim | exact (n02 c39 c91).elim | exact (n12 c64 c91).elim | (have z := of_decide_eq_true c51; rw [o_set, if_pos ⟨c39, z⟩]; rw [q1 z.1] at r1; exact ⟨rfl, r1, F0.set (by decide), rfl⟩) | (have z := of_decide_eq_true c78; rw [o_set, if_neg (fun h => n01 h.1 c64), if_pos ⟨c64, z⟩]; rw [q2 z.1] at r2; exact ⟨rfl, r2, F0.set (by decide), rfl⟩) | (have z := of_decide_eq_true c103; rw [o_set, if_neg (fun h => n02 h.1 c91), if_neg (fun h => n12 h.1 c91), if_pos ⟨c91, z⟩]; rw [nI_back z.1] at r3; exact ⟨rfl, r3, F0.set (by decide), rfl⟩) | (rw [o_set, if_neg (fun h => by first | exact c39 h.1 | exact absurd h.2 (of_decide_eq_false c51)), if_neg (fun h => by first | exact c64 h.1 | exact absurd h.2 (of_decide_eq_false c78)), if_neg (fun h => by first | exact c91 h.1 | exact absurd h.2 (of_decide_eq_false c103))]; exact ⟨rfl, R0, F0, rfl⟩)
        · refine K_iload_n dX4_set_67 rfl rfl ?_
          refine K_i2l dX4_set_68 rfl ?_
          refine K_ldc2 dX4_set_69 kl_X4_119 rfl ?_
          refine K_ldc2 dX4_set_72 kl_X4_126 rfl ?_
          refine K_sv (d1 := d - 1) [_, _, _] dX4_set_75 ml_X4_90 rfl rfl (Nat.le_of_ble_eq_true rfl) l2 (by omega) rfl ?_
          refine K_if_eqB (tgt := 89) dX4_set_78 (by decide) rfl (fun c78 => ?_) (fun c78 => ?_)
          · refine K_iload_n dX4_set_89 rfl rfl ?_
            refine K_iconst (v := nI 2) dX4_set_90 (by decide) rfl ?_
            refine K_icmp_ne (tgt := 114) dX4_set_91 (by decide) rfl (fun c91 => ?_) (fun c91 => ?_)
            · refine K_iconst (v := (-1)) dX4_set_114 (by decide) rfl ?_
              refine K_iret dX4_set_115 rfl ?_
              first | exact absurd c11 c39 | exact absurd c39 c11 | exact absurd c23 c64 | exact absurd c64 c23 | exact (n01 c39 c64).elim | exact (n02 c39 c91).elim | exact (n12 c64 c91).elim | (have z := of_decide_eq_true c51; rw [o_set, if_pos ⟨c39, z⟩]; rw [q1 z.1] at r1; exact ⟨rfl, r1, F0.set (by decide), rfl⟩) | (have z := of_decide_eq_true c78; rw [o_set, if_neg (fun h => n01 h.1 c64), if_pos ⟨c64, z⟩]; rw [q2 z.1] at r2; exact ⟨rfl, r2, F0.set (by decide), rfl⟩) | (have z := of_decide_eq_true c103; rw [o_set, if_neg (fun h => n02 h.1 c91), if_neg (fun h => n12 h.1 c91), if_pos ⟨c91, z⟩]; rw [nI_back z.1] at r3; exact ⟨rfl, r3, F0.set (by decide), rfl⟩) | (rw [o_set, if_neg (fun h => by first | exact c39 h.1 | exact absurd h.2 (of_decide_eq_false c51)), if_neg (fun h => by first | exact c64 h.1 | exact absurd h.2 (of_decide_eq_false c78)), if_neg (fun h => by first | exact c91 h.1 | exact absurd h.2 (of_decide_eq_false c103))]; exact ⟨rfl, R0, F0, rfl⟩)
            · refine K_iload_n dX4_set_94 rfl rfl ?_
              refine K_i2l dX4_set_95 rfl ?_
              refine K_lconst (v := 0) dX4_set_96 (by decide) rfl ?_
              refine K_ldc2 dX4_set_97 kl_X4_128 rfl ?_
              refine K_sv (d1 := d - 1) [_, _, _] dX4_set_100 ml_X4_90 rfl rfl (Nat.le_of_ble_eq_true rfl) l3 (by omega) rfl ?_
              refine K_if_eqB (tgt := 114) dX4_set_103 (by decide) rfl (fun c103 => ?_) (fun c103 => ?_)
              · refine K_iconst (v := (-1)) dX4_set_114 (by decide) rfl ?_
                refine K_iret dX4_set_115 rfl ?_
                first | exact absurd c11 c39 | exact absurd c39 c11 | exact absurd c23 c64 | exact absurd c64 c23 | exact (n01 c39 c64).elim | exact (n02 c39 c91).elim | exact (n12 c64 c91).elim | (have z := of_decide_eq_true c51; rw [o_set, if_pos ⟨c39, z⟩]; rw [q1 z.1] at r1; exact ⟨rfl, r1, F0.set (by decide), rfl⟩) | (have z := of_decide_eq_true c78; rw [o_set, if_neg (fun h => n01 h.1 c64), if_pos ⟨c64, z⟩]; rw [q2 z.1] at r2; exact ⟨rfl, r2, F0.set (by decide), rfl⟩) | (have z := of_decide_eq_true c103; rw [o_set, if_neg (fun h => n02 h.1 c91), if_neg (fun h => n12 h.1 c91), if_pos ⟨c91, z⟩]; rw [nI_back z.1] at r3; exact ⟨rfl, r3, F0.set (by decide), rfl⟩) | (rw [o_set, if_neg (fun h => by first | exact c39 h.1 | exact absurd h.2 (of_decide_eq_false c51)), if_neg (fun h => by first | exact c64 h.1 | exact absurd h.2 (of_decide_eq_false c78)), if_neg (fun h => by first | exact c91 h.1 | exact absurd h.2 (of_decide_eq_false c103))]; exact ⟨rfl, R0, F0, rfl⟩)
              · refine K_aload_n dX4_set_106 rfl rfl ?_
                refine K_iload_n dX4_set_107 rfl rfl ?_
                refine K_putI dX4_set_108 fl_X4_121 (by first | rfl | exact sk_rk (by omega) | exact sk_hh (by omega)) rfl rfl rfl rfl ?_
                refine K_goto (tgt := 116) dX4_set_111 (by decide) ?_
                refine K_iload_n dX4_set_116 rfl rfl ?_
                refine K_iret dX4_set_117 rfl ?_
                first | exact absurd c11 c39 | exact absurd c39 c11 | exact absurd c23 c64 | exact absurd c64 c23 | exact (n01 c39 c64).elim | exact (n02 c39 c91).elim | exact (n12 c64 c91).elim | (have z := of_decide_eq_true c51; rw [o_set, if_pos ⟨c39, z⟩]; rw [q1 z.1] at r1; exact ⟨rfl, r1, F0.set (by decide), rfl⟩) | (have z := of_decide_eq_true c78; rw [o_set, if_neg (fun h => n01 h.1 c64), if_pos ⟨c64, z⟩]; rw [q2 z.1] at r2; exact ⟨rfl, r2, F0.set (by decide), rfl⟩) | (have z := of_decide_eq_true c103; rw [o_set, if_neg (fun h => n02 h.1 c91), if_neg (fun h => n12 h.1 c91), if_pos ⟨c91, z⟩]; rw [nI_back z.1] at r3; exact ⟨rfl, r3, F0.set (by decide), rfl⟩) | (rw [o_set, if_neg (fun h => by first | exact c39 h.1 | exact absurd h.2 (of_decide_eq_false c51)), if_neg (fun h => by first | exact c64 h.1 | exact absurd h.2 (of_decide_eq_false c78)), if_neg (fun h => by first | exact c91 h.1 | exact absurd h.2 (of_decide_eq_false c103))]; exact ⟨rfl, R0, F0, rfl⟩)
          · refine K_aload_n dX4_set_81 rfl rfl ?_
            refine K_iload_n dX4_set_82 rfl rfl ?_
            refine K_putI dX4_set_83 fl_X4_57 (by first | rfl | exact sk_rk (by omega) | exact sk_hh (by omega)) rfl rfl rfl rfl ?_
            refine K_goto (tgt := 116) dX4_set_86 (by decide) ?_
            refine K_iload_n dX4_set_116 rfl rfl ?_
            refine K_iret dX4_set_117 rfl ?_
            first | exact absurd c11 c39 | exact absurd c39 c11 | exact absurd c23 c64 | exact absurd c64 c23 | exact (n01 c39 c64).elim | exact (n02 c39 c91).elim | exact (n12 c64 c91).elim | (have z := of_decide_eq_true c51; rw [o_set, if_pos ⟨c39, z⟩]; rw [q1 z.1] at r1; exact ⟨rfl, r1, F0.set (by decide), rfl⟩) | (have z := of_decide_eq_true c78; rw [o_set, if_neg (fun h => n01 h.1 c64), if_pos ⟨c64, z⟩]; rw [q2 z.1] at r2; exact ⟨rfl, r2, F0.set (by decide), rfl⟩) | (have z := of_decide_eq_true c103; rw [o_set, if_neg (fun h => n02 h.1 c91), if_neg (fun h => n12 h.1 c91), if_pos ⟨c91, z⟩]; rw [nI_back z.1] at r3; exact ⟨rfl, r3, F0.set (by decide), rfl⟩) | (rw [o_set, if_neg (fun h => by first | exact c39 h.1 | exact absurd h.2 (of_decide_eq_false c51)), if_neg (fun h => by first | exact c64 h.1 | exact absurd h.2 (of_decide_eq_false c78)), if_neg (fun h => by first | exact c91 h.1 | exact absurd h.2 (of_decide_eq_false c103))]; exact ⟨rfl, R0, F0, rfl⟩)
      · refine K_aload_n dX4_set_54 rfl rfl ?_
        refine K_iload_n dX4_set_55 rfl rfl ?_
        refine K_putI dX4_set_56 fl_X4_53 (by first | rfl | exact sk_rk (by omega) | exact sk_hh (by omega)) rfl rfl rfl rfl ?_
        refine K_goto (tgt := 116) dX4_set_59 (by decide) ?_
        refine K_iload_n dX4_set_116 rfl rfl ?_
        refine K_iret dX4_set_117 rfl ?_
        first | exact absurd c11 c39 | exact absurd c39 c11 | exact absurd c23 c64 | exact absurd c64 c23 | exact (n01 c39 c64).elim | exact (n02 c39 c91).elim | exact (n12 c64 c91).elim | (have z := of_decide_eq_true c51; rw [o_set, if_pos ⟨c39, z⟩]; rw [q1 z.1] at r1; exact ⟨rfl, r1, F0.set (by decide), rfl⟩) | (have z := of_decide_eq_true c78; rw [o_set, if_neg (fun h => n01 h.1 c64), if_pos ⟨c64, z⟩]; rw [q2 z.1] at r2; exact ⟨rfl, r2, F0.set (by decide), rfl⟩) | (have z := of_decide_eq_true c103; rw [o_set, if_neg (fun h => n02 h.1 c91), if_neg (fun h => n12 h.1 c91), if_pos ⟨c91, z⟩]; rw [nI_back z.1] at r3; exact ⟨rfl, r3, F0.set (by decide), rfl⟩) | (rw [o_set, if_neg (fun h => by first | exact c39 h.1 | exact absurd h.2 (of_decide_eq_false c51)), if_neg (fun h => by first | exact c64 h.1 | exact absurd h.2 (of_decide_eq_false c78)), if_neg (fun h => by first | exact c91 h.1 | exact absurd h.2 (of_decide_eq_false c103))]; exact ⟨rfl, R0, F0, rfl⟩)
