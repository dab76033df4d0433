theorem RY.drop {S : GS} {N : Mem} (R : RY S N) (f : Nat) : RY (gN S 8 f 0) (sM N 52 f (nI 0)) := by
  refine ⟨R.1, R.2.1, fun f2 hf2 => ?_, R.2.2.2.1, R.2.2.2.2⟩
  obtain ⟨c1, c2, c3, c4⟩ := R.2.2.1 f2 hf2
  refine ⟨c1, ?_, fun k hk => ?_, c4⟩
  · rw [gN8_wc, sM_at]
    by_cases e : f2 = f
    · rw [if_pos ⟨rfl, e⟩, if_pos e]
    · rw [if_neg (fun z => e z.2), if_neg e]
      exact c2
  · rw [gN8_wc] at hk
    rw [wl_gN (by decide), sM_row (by decide)]
    by_cases e : f2 = f
    · rw [if_pos e] at hk
      omega
    · rw [if_neg e] at hk
      exact c3 k hk
theorem l_X4_wishes {d : Nat} (hd : 3 ≤ d) {N0 : Mem} {K : Mej} {f nn : Nat} {kd a st : Int32} {T : GS} (hnn : nn ≤ 20) (hk : ¬ kd = nI 2) : ∀ (k i : Nat) (S : GS) (N : Mem), i + k = nn → RY S N → WF S → f < s_n S → FY N0 N → cpF f (decide (kd = 0)) a st k i S = T → EK d mX4_wishes (PRY (nI (s_wc T f)) T N0 K) 60 [(0, .ref 40), (1, .int (nI f)), (2, .int kd), (3, .int (nI nn)), (4, .int a), (5, .int st), (6, .int (nI i))] [] N K
  | 0, i, S, N, h, R, w, hf, F, e => by
    obtain rfl : i = nn := by omega
    have e2 : S = T := e
    have hn := w.1.1
    have hw := (R.2.2.1 f (by omega)).2.1
    subst e2
    refine K_iload dX4_wishes_60 rfl rfl ?_
    refine K_iload_n dX4_wishes_62 rfl rfl ?_
    refine K_icmp_geN (tgt := 135) dX4_wishes_63 (by decide) rfl (by first | omega | fail) (by first | omega | fail) (fun c63 => ?_) (fun c63 => ?_)
    · refine K_aload_n dX4_wishes_135 rfl rfl ?_
      refine K_getR (r := 52) dX4_wishes_136 fl_X4_41 rfl rfl rfl rfl ?_
      refine K_iload_n dX4_wishes_139 rfl rfl ?_
      refine K_iald dX4_wishes_140 (by first | rfl | exact sk_rk (by omega) | exact sk_hh (by omega)) (by first | omega | fail) (by decide) (by first | assumption | rfl) rfl ?_
      refine K_iret dX4_wishes_141 rfl ?_
      exact ⟨rfl, R, F, rfl⟩
    · omega
  | k + 1, i, S, N, h, R, w, hf, F, e => by
    have hn := w.1.1
    have h7 := R.1.1
    have hw := (R.2.2.1 f (by omega)).2.1
    have hwc := w.wc (f := f) (by omega)
    have ih := fun S2 N2 => l_X4_wishes (N0 := N0) (K := K) (f := f) (kd := kd) (a := a) (st := st) (T := T) hd hnn hk k (i + 1) S2 N2 (by omega)
    have e2 : (if cbw S (nI f) (shv (decide (kd = 0)) a st i) = true then cpF f (decide (kd = 0)) a st k (i + 1) (addW S f (shv (decide (kd = 0)) a st i).toNatClampNeg) else S) = T := e
    have key : ∀ v, v = shv (decide (kd = 0)) a st i → EK d mX4_wishes (PRY (nI (s_wc T f)) T N0 K) 95 [(0, .ref 40), (1, .int (nI f)), (2, .int kd), (3, .int (nI nn)), (4, .int a), (5, .int st), (6, .int (nI i)), (7, .int v)] [] N K := by
      intro v hv
      rw [← hv] at e2
      cases ht : two (s_n S) (nI f) v with
      | false =>
        have hcb : cbw S (nI f) v = false := by rw [cbw, ht]; rfl
        rw [hcb] at e2
        have e3 : S = T := e2
        subst e3
        refine K_aload_n dX4_wishes_95 rfl rfl ?_
        refine K_iload_n dX4_wishes_96 rfl rfl ?_
        refine K_iload dX4_wishes_97 rfl rfl ?_
        refine K_cv (ci := 4) (d1 := d - 1) [_, _] dX4_wishes_99 ml_X4_107 (by decide) rfl rfl rfl (Nat.le_of_ble_eq_true rfl) (c_X4_areTwo (by omega) hn h7) (by omega) rfl ?_
        refine K_if_eqB (tgt := 115) dX4_wishes_102 (by decide) rfl (fun c102 => ?_) (fun c102 => ?_)
        · refine K_aload_n dX4_wishes_115 rfl rfl ?_
          refine K_getR (r := 52) dX4_wishes_116 fl_X4_41 rfl rfl rfl rfl ?_
          refine K_iload_n dX4_wishes_119 rfl rfl ?_
          refine K_iald dX4_wishes_120 (by first | rfl | exact sk_rk (by omega) | exact sk_hh (by omega)) (by first | omega | fail) (by decide) (by first | assumption | rfl) rfl ?_
          refine K_iret dX4_wishes_121 rfl ?_
          exact ⟨rfl, R, F, rfl⟩
        · rw [ht] at c102; cases c102
      | true =>
        obtain ⟨f2, g, z1, hg, hfg, z4, z5⟩ := (two_iff hn).mp ht
        rw [nI_eq (by omega) (by omega)] at z4
        subst z4
        subst z5
        have h9 := w.rk9 (f := f) (by omega) g
        have hcb : cbw S (nI f) (nI g) = decide (s_rk S f g = 0) := by rw [cbw, ht, nI_clamp (by omega), nI_clamp (by omega)]; rfl
        rw [hcb, nI_clamp (show g < 2 ^ 31 by omega)] at e2
        refine K_aload_n dX4_wishes_95 rfl rfl ?_
        refine K_iload_n dX4_wishes_96 rfl rfl ?_
        refine K_iload dX4_wishes_97 rfl rfl ?_
        refine K_cv (ci := 4) (d1 := d - 1) [_, _] dX4_wishes_99 ml_X4_107 (by decide) rfl rfl rfl (Nat.le_of_ble_eq_true rfl) (c_X4_areTwo (by omega) hn h7) (by omega) rfl ?_
        refine K_if_eqB (tgt := 115) dX4_wishes_102 (by decide) rfl (fun c102 => ?_) (fun c102 => ?_)
        · rw [ht] at c102; cases c102
        · refine K_aload_n dX4_wishes_105 rfl rfl ?_
          refine K_iload_n dX4_wishes_106 rfl rfl ?_
          refine K_iload dX4_wishes_107 rfl rfl ?_
          refine K_cv (ci := 4) (d1 := d - 1) [_, _] dX4_wishes_109 ml_X4_111 (by decide) rfl rfl rfl (Nat.le_of_ble_eq_true rfl) (c_X4_rankOf R w (by omega) (by omega)) (by omega) rfl ?_
          refine K_if_leN (tgt := 122) dX4_wishes_112 (by decide) rfl (by first | omega | fail) (fun c112 => ?_) (fun c112 => ?_)
          · refine K_aload_n dX4_wishes_122 rfl rfl ?_
            refine K_iload_n dX4_wishes_123 rfl rfl ?_
            refine K_iload dX4_wishes_124 rfl rfl ?_
            refine K_c0 (ci := 4) (d1 := d - 1) [_, _] dX4_wishes_126 ml_X4_115 (by decide) rfl rfl rfl (Nat.le_of_ble_eq_true rfl) (c_X4_wants (by omega) hwc hw) (by omega) rfl ?_
            first | refine K_incN (lv' := [(0, _), (1, _), (2, _), (3, _), (4, _), (5, _), (6, _), (7, _)]) dX4_wishes_129 rfl (by decide) rfl rfl ?_ | refine K_iinc (lv' := [(0, _), (1, _), (2, _), (3, _), (4, _), (5, _), (6, _), (7, _)]) dX4_wishes_129 rfl rfl (by decide) rfl rfl ?_
            refine K_goto (tgt := 60) dX4_wishes_132 (by decide) ?_
            rw [decide_eq_true c112, if_pos rfl] at e2
            refine K_pick [0, 1, 2, 3, 4, 5, 6] rfl ?_
            exact ih _ _ (R.wish (by omega) (fun q hq => w.wc hq)) (w.wish hf hg hfg c112) (by rw [addW_n]; exact hf) ((F.set (by decide)).set (by decide)) e2
          · refine K_aload_n dX4_wishes_115 rfl rfl ?_
            refine K_getR (r := 52) dX4_wishes_116 fl_X4_41 rfl rfl rfl rfl ?_
            refine K_iload_n dX4_wishes_119 rfl rfl ?_
            refine K_iald dX4_wishes_120 (by first | rfl | exact sk_rk (by omega) | exact sk_hh (by omega)) (by first | omega | fail) (by decide) (by first | assumption | rfl) rfl ?_
            refine K_iret dX4_wishes_121 rfl ?_
            rw [decide_eq_false (by omega)] at e2
            have e3 : S = T := e2
            subst e3
            exact ⟨rfl, R, F, rfl⟩
    by_cases hz : kd = 0
    · rw [decide_eq_true hz] at key
      refine K_iload dX4_wishes_60 rfl rfl ?_
      refine K_iload_n dX4_wishes_62 rfl rfl ?_
      refine K_icmp_geN (tgt := 135) dX4_wishes_63 (by decide) rfl (by first | omega | fail) (by first | omega | fail) (fun c63 => ?_) (fun c63 => ?_)
      · omega
      · refine K_iload_n dX4_wishes_66 rfl rfl ?_
        refine K_iconst (v := nI 2) dX4_wishes_67 (by decide) rfl ?_
        refine K_icmp_eq (tgt := 135) dX4_wishes_68 (by decide) rfl (fun c68 => ?_) (fun c68 => ?_)
        · exact absurd c68 hk
        · refine K_iload dX4_wishes_71 rfl rfl ?_
          refine K_iload dX4_wishes_73 rfl rfl ?_
          refine K_iload dX4_wishes_75 rfl rfl ?_
          refine K_imul dX4_wishes_77 rfl ?_
          refine K_iadd dX4_wishes_78 rfl ?_
          refine K_istore (lv' := [(0, _), (1, _), (2, _), (3, _), (4, _), (5, _), (6, _), (7, _)]) dX4_wishes_79 (by decide) rfl rfl ?_
          refine K_iload_n dX4_wishes_81 rfl rfl ?_
          refine K_if_ne (tgt := 91) dX4_wishes_82 (by decide) rfl (fun c82 => ?_) (fun c82 => ?_)
          · exact absurd hz c82
          · refine K_iload dX4_wishes_85 rfl rfl ?_
            refine K_i2b dX4_wishes_87 rfl ?_
            refine K_goto (tgt := 93) dX4_wishes_88 (by decide) ?_
            refine K_istore (lv' := [(0, _), (1, _), (2, _), (3, _), (4, _), (5, _), (6, _), (7, _)]) dX4_wishes_93 (by decide) rfl rfl ?_
            exact key _ rfl
    · rw [decide_eq_false hz] at key
      refine K_iload dX4_wishes_60 rfl rfl ?_
      refine K_iload_n dX4_wishes_62 rfl rfl ?_
      refine K_icmp_geN (tgt := 135) dX4_wishes_63 (by decide) rfl (by first | omega | fail) (by first | omega | fail) (fun c63 => ?_) (fun c63 => ?_)
      · omega
      · refine K_iload_n dX4_wishes_66 rfl rfl ?_
        refine K_iconst (v := nI 2) dX4_wishes_67 (by decide) rfl ?_
        refine K_icmp_eq (tgt := 135) dX4_wishes_68 (by decide) rfl (fun c68 => ?_) (fun c68 => ?_)
        · exact absurd c68 hk
        · refine K_iload dX4_wishes_71 rfl rfl ?_
          refine K_iload dX4_wishes_73 rfl rfl ?_
          refine K_iload dX4_wishes_75 rfl rfl ?_
          refine K_imul dX4_wishes_77 rfl ?_
          refine K_iadd dX4_wishes_78 rfl ?_
          refine K_istore (lv' := [(0, _), (1, _), (2, _), (3, _), (4, _), (5, _), (6, _), (7, _)]) dX4_wishes_79 (by decide) rfl rfl ?_
          refine K_iload_n dX4_wishes_81 rfl rfl ?_
          refine K_if_ne (tgt := 91) dX4_wishes_82 (by decide) rfl (fun c82 => ?_) (fun c82 => ?_)
          · refine K_iload dX4_wishes_91 rfl rfl ?_
            refine K_istore (lv' := [(0, _), (1, _), (2, _), (3, _), (4, _), (5, _), (6, _), (7, _)]) dX4_wishes_93 (by decide) rfl rfl ?_
            exact key _ rfl
          · exact absurd c82 hz
