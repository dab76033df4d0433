/-! the reference's rings, count -/
theorem li_X4_rings {d : Nat} {S : GS} {N : Mem} {K : Mej} {Post : PK} (R : RY S N) (w : WF S) (h0 : s_fc S = 0) {f c0 : Nat} (hf : f < s_n S) (hp : s_pl S f ≠ none)
    (next : EK d mX4_rings Post 75 [(0, .ref 40), (1, .int (nI c0)), (2, .int (nI f)), (3, .int (bI (s_lr S f))), (4, .int (nI f))] [] N K) :
    ∀ (k c : Nat) (b : Bool), c + k = s_rl S f → 1 ≤ c → s_lr S f = (b && lrF (s_pl S) f (s_rl S f - c) (itF (s_pl S) f (c - 1))) → EK d mX4_rings Post 41 [(0, .ref 40), (1, .int (nI c0)), (2, .int (nI f)), (3, .int (bI b)), (4, .int (nI (itF (s_pl S) f c)))] [] N K
  | 0, c, b, e, c1, hb => by
    have hn := w.1.1
    obtain ⟨r1, r2, r3⟩ := ring_len h0 w hf hp
    have hc : c = s_rl S f := by omega
    rw [show s_rl S f - c = 0 by omega] at hb
    have hb : s_lr S f = b := by rw [hb]; exact Bool.and_true b
    rw [hb] at next
    rw [hc, r2]
    refine K_iload dX4_rings_41 rfl rfl ?_
    refine K_iload_n dX4_rings_43 rfl rfl ?_
    refine K_icmp_eqN (tgt := 75) dX4_rings_44 (by decide) rfl (by first | omega | fail) (by first | omega | fail) (fun c44 => ?_) (fun c44 => ?_)
    · exact next
    · exact absurd rfl c44
  | k + 1, c, b, e, c1, hb => by
    have hn := w.1.1
    obtain ⟨r1, r2, r3⟩ := ring_len h0 w hf hp
    have hne := r3 c c1 (by omega)
    obtain ⟨i1, i2⟩ := it_ok h0 w hf hp c
    have h55 : N 55 (itF (s_pl S) f c) = nI (itF (s_pl S) f (c + 1)) := by
      have := (R.2.1 _ i1).2.2.2.2.2.2.2.2.2
      rw [i2] at this
      exact this
    have i3 := (it_ok h0 w hf hp (c - 1)).2
    rw [show c - 1 + 1 = c by omega] at i3
    have el : lrF (s_pl S) f (s_rl S f - c) (itF (s_pl S) f (c - 1)) = if itF (s_pl S) f c < f then false else lrF (s_pl S) f (s_rl S f - (c + 1)) (itF (s_pl S) f c) := by
      rw [show s_rl S f - c = (s_rl S f - (c + 1)) + 1 by omega]
      show (match s_pl S (itF (s_pl S) f (c - 1)) with | none => false | some b => if b < f then false else lrF (s_pl S) f (s_rl S f - (c + 1)) b) = _
      rw [i3]
    rw [el] at hb
    have nx := fun b2 hb2 => li_X4_rings (d := d) (K := K) R w h0 hf hp next k (c + 1) b2 (by omega) (by omega) hb2
    rw [show c + 1 - 1 = c by omega] at nx
    cases b with
    | false =>
      have n2 := nx false (by rw [hb]; rfl)
      refine K_iload dX4_rings_41 rfl rfl ?_
      refine K_iload_n dX4_rings_43 rfl rfl ?_
      refine K_icmp_eqN (tgt := 75) dX4_rings_44 (by decide) rfl (by first | omega | fail) (by first | omega | fail) (fun c44 => ?_) (fun c44 => ?_)
      · exact absurd c44 hne
      · refine K_iload_n dX4_rings_47 rfl rfl ?_
        refine K_if_eqB (tgt := 61) dX4_rings_48 (by decide) rfl (fun c48 => ?_) (fun c48 => ?_)
        · refine K_iconst (v := nI 0) dX4_rings_61 (by decide) rfl ?_
          refine K_istore_n (lv' := [(0, _), (1, _), (2, _), (3, _), (4, _)]) dX4_rings_62 (by decide) rfl rfl ?_
          refine K_aload_n dX4_rings_63 rfl rfl ?_
          refine K_getR (r := 55) dX4_rings_64 fl_X4_50 rfl rfl rfl rfl ?_
          refine K_iload dX4_rings_67 rfl rfl ?_
          refine K_iald dX4_rings_69 (by first | rfl | exact sk_rk (by omega) | exact sk_hh (by omega)) (by first | omega | fail) (by decide) (by first | assumption | rfl) rfl ?_
          refine K_istore (lv' := [(0, _), (1, _), (2, _), (3, _), (4, _)]) dX4_rings_70 (by decide) rfl rfl ?_
          refine K_goto (tgt := 41) dX4_rings_72 (by decide) ?_
          exact n2
        · cases c48
    | true =>
      by_cases hl : itF (s_pl S) f c < f
      · rw [if_pos hl] at hb
        have n2 := nx false (by rw [hb]; rfl)
        refine K_iload dX4_rings_41 rfl rfl ?_
        refine K_iload_n dX4_rings_43 rfl rfl ?_
        refine K_icmp_eqN (tgt := 75) dX4_rings_44 (by decide) rfl (by first | omega | fail) (by first | omega | fail) (fun c44 => ?_) (fun c44 => ?_)
        · exact absurd c44 hne
        · refine K_iload_n dX4_rings_47 rfl rfl ?_
          refine K_if_eqB (tgt := 61) dX4_rings_48 (by decide) rfl (fun c48 => ?_) (fun c48 => ?_)
          · cases c48
          · refine K_iload dX4_rings_51 rfl rfl ?_
            refine K_iload_n dX4_rings_53 rfl rfl ?_
            refine K_icmp_leN (tgt := 61) dX4_rings_54 (by decide) rfl (by first | omega | fail) (by first | omega | fail) (fun c54 => ?_) (fun c54 => ?_)
            · refine K_iconst (v := nI 0) dX4_rings_61 (by decide) rfl ?_
              refine K_istore_n (lv' := [(0, _), (1, _), (2, _), (3, _), (4, _)]) dX4_rings_62 (by decide) rfl rfl ?_
              refine K_aload_n dX4_rings_63 rfl rfl ?_
              refine K_getR (r := 55) dX4_rings_64 fl_X4_50 rfl rfl rfl rfl ?_
              refine K_iload dX4_rings_67 rfl rfl ?_
              refine K_iald dX4_rings_69 (by first | rfl | exact sk_rk (by omega) | exact sk_hh (by omega)) (by first | omega | fail) (by decide) (by first | assumption | rfl) rfl ?_
              refine K_istore (lv' := [(0, _), (1, _), (2, _), (3, _), (4, _)]) dX4_rings_70 (by decide) rfl rfl ?_
              refine K_goto (tgt := 41) dX4_rings_72 (by decide) ?_
              exact n2
            · omega
      · rw [if_neg hl] at hb
        have n2 := nx true hb
        refine K_iload dX4_rings_41 rfl rfl ?_
        refine K_iload_n dX4_rings_43 rfl rfl ?_
        refine K_icmp_eqN (tgt := 75) dX4_rings_44 (by decide) rfl (by first | omega | fail) (by first | omega | fail) (fun c44 => ?_) (fun c44 => ?_)
        · exact absurd c44 hne
        · refine K_iload_n dX4_rings_47 rfl rfl ?_
          refine K_if_eqB (tgt := 61) dX4_rings_48 (by decide) rfl (fun c48 => ?_) (fun c48 => ?_)
          · cases c48
          · refine K_iload dX4_rings_51 rfl rfl ?_
            refine K_iload_n dX4_rings_53 rfl rfl ?_
            refine K_icmp_leN (tgt := 61) dX4_rings_54 (by decide) rfl (by first | omega | fail) (by first | omega | fail) (fun c54 => ?_) (fun c54 => ?_)
            · omega
            · refine K_iconst (v := nI 1) dX4_rings_57 (by decide) rfl ?_
              refine K_goto (tgt := 62) dX4_rings_58 (by decide) ?_
              refine K_istore_n (lv' := [(0, _), (1, _), (2, _), (3, _), (4, _)]) dX4_rings_62 (by decide) rfl rfl ?_
              refine K_aload_n dX4_rings_63 rfl rfl ?_
              refine K_getR (r := 55) dX4_rings_64 fl_X4_50 rfl rfl rfl rfl ?_
              refine K_iload dX4_rings_67 rfl rfl ?_
              refine K_iald dX4_rings_69 (by first | rfl | exact sk_rk (by omega) | exact sk_hh (by omega)) (by first | omega | fail) (by decide) (by first | assumption | rfl) rfl ?_
              refine K_istore (lv' := [(0, _), (1, _), (2, _), (3, _), (4, _)]) dX4_rings_70 (by decide) rfl rfl ?_
              refine K_goto (tgt := 41) dX4_rings_72 (by decide) ?_
              exact n2
theorem lo_X4_rings {d : Nat} (hd : 5 ≤ d) {S : GS} {N : Mem} {K : Mej} (R : RY S N) (w : WF S) (h0 : s_fc S = 0) : ∀ (k f : Nat), f + k = s_n S → EK d mX4_rings (PX (some (.int (nI (cnt (s_cr S) (s_n S))))) N K) 4 [(0, .ref 40), (1, .int (nI (cnt (s_cr S) f))), (2, .int (nI f))] [] N K
  | 0, f, e => by
    have hn := w.1.1
    have h7 := R.1.1
    have hf : f = s_n S := by omega
    subst hf
    refine K_iload_n dX4_rings_4 rfl rfl ?_
    refine K_aload_n dX4_rings_5 rfl rfl ?_
    refine K_getI dX4_rings_6 fl_X4_87 (by first | rfl | exact sk_rk (by omega) | exact sk_hh (by omega)) rfl (by first | assumption | rfl) rfl ?_
    refine K_icmp_geN (tgt := 93) dX4_rings_9 (by decide) rfl (by first | omega | fail) (by first | omega | fail) (fun c9 => ?_) (fun c9 => ?_)
    · refine K_iload_n dX4_rings_93 rfl rfl ?_
      refine K_iret dX4_rings_94 rfl ?_
      exact ⟨rfl, rfl, rfl⟩
    · omega
  | k + 1, f, e => by
    have hn := w.1.1
    have h7 := R.1.1
    have hf : f < s_n S := by omega
    have hfl := s_fc_lt w
    have ih := lo_X4_rings (d := d) (K := K) hd R w h0 k (f + 1) (by omega)
    cases hp : s_pl S f with
    | none =>
      have hg := go_f hp
      rw [cnt_f (by unfold s_cr; rw [hg]; rfl)] at ih
      refine K_iload_n dX4_rings_4 rfl rfl ?_
      refine K_aload_n dX4_rings_5 rfl rfl ?_
      refine K_getI dX4_rings_6 fl_X4_87 (by first | rfl | exact sk_rk (by omega) | exact sk_hh (by omega)) rfl (by first | assumption | rfl) rfl ?_
      refine K_icmp_geN (tgt := 93) dX4_rings_9 (by decide) rfl (by first | omega | fail) (by first | omega | fail) (fun c9 => ?_) (fun c9 => ?_)
      · omega
      · refine K_aload_n dX4_rings_12 rfl rfl ?_
        refine K_cv (ci := 4) (d1 := d - 1) [] dX4_rings_13 ml_X4_154 (by decide) rfl rfl rfl (Nat.le_of_ble_eq_true rfl) (c_X4_open (by omega) R w) (by omega) rfl ?_
        refine K_if_neN (tgt := 93) dX4_rings_16 (by decide) rfl (by first | omega | fail) (fun c16 => ?_) (fun c16 => ?_)
        · exact absurd h0 c16
        · refine K_aload_n dX4_rings_19 rfl rfl ?_
          refine K_iload_n dX4_rings_20 rfl rfl ?_
          refine K_cv (ci := 4) (d1 := d - 1) [_] dX4_rings_21 ml_X4_145 (by decide) rfl rfl rfl (Nat.le_of_ble_eq_true rfl) (c_X4_goesAtAll R w hf) (by omega) rfl ?_
          refine K_istore_n (lv' := [(0, _), (1, _), (2, _), (3, _)]) dX4_rings_24 (by decide) rfl rfl ?_
          refine K_iload_n dX4_rings_25 rfl rfl ?_
          refine K_if_eqB (tgt := 38) dX4_rings_26 (by decide) rfl (fun c26 => ?_) (fun c26 => ?_)
          · refine K_iload_n dX4_rings_38 rfl rfl ?_
            refine K_istore (lv' := [(0, _), (1, _), (2, _), (3, _), (4, _)]) dX4_rings_39 (by decide) rfl rfl ?_
            refine K_iload dX4_rings_41 rfl rfl ?_
            refine K_iload_n dX4_rings_43 rfl rfl ?_
            refine K_icmp_eqN (tgt := 75) dX4_rings_44 (by decide) rfl (by first | omega | fail) (by first | omega | fail) (fun c44 => ?_) (fun c44 => ?_)
            · refine K_iload_n dX4_rings_75 rfl rfl ?_
              refine K_iload_n dX4_rings_76 rfl rfl ?_
              refine K_if_eqB (tgt := 84) dX4_rings_77 (by decide) rfl (fun c77 => ?_) (fun c77 => ?_)
              · refine K_iconst (v := nI 0) dX4_rings_84 (by decide) rfl ?_
                refine K_addN dX4_rings_85 rfl ?_
                refine K_istore_n (lv' := [(0, _), (1, _), (2, _), (3, _), (4, _)]) dX4_rings_86 (by decide) rfl rfl ?_
                first | refine K_incN (lv' := [(0, _), (1, _), (2, _), (3, _), (4, _)]) dX4_rings_87 rfl (by decide) rfl rfl ?_ | refine K_iinc (lv' := [(0, _), (1, _), (2, _), (3, _), (4, _)]) dX4_rings_87 rfl rfl (by decide) rfl rfl ?_
                refine K_goto (tgt := 4) dX4_rings_90 (by decide) ?_
                refine K_pick [0, 1, 2] rfl ?_
                exact ih
              · rw [hg] at c77; cases c77
            · exact absurd rfl c44
          · rw [hg] at c26; cases c26
    | some a =>
      have hne : s_pl S f ≠ none := by rw [hp]; exact fun h => by cases h
      have hg := go_t hne
      have h55 : N 55 f = nI (itF (s_pl S) f 1) := by
        have := (R.2.1 f hf).2.2.2.2.2.2.2.2.2
        rw [show s_pl S f = some (itF (s_pl S) f 1) from (it_ok h0 w hf hne 0).2] at this
        exact this
      obtain ⟨r1, r2, r3⟩ := ring_len h0 w hf hne
      have hcr : s_cr S f = s_lr S f := by unfold s_cr; rw [hg]; rfl
      have last : EK d mX4_rings (PX (some (.int (nI (cnt (s_cr S) (s_n S))))) N K) 75 [(0, .ref 40), (1, .int (nI (cnt (s_cr S) f))), (2, .int (nI f)), (3, .int (bI (s_lr S f))), (4, .int (nI f))] [] N K := by
        refine K_iload_n dX4_rings_75 rfl rfl ?_
        refine K_iload_n dX4_rings_76 rfl rfl ?_
        refine K_if_eqB (tgt := 84) dX4_rings_77 (by decide) rfl (fun c77 => ?_) (fun c77 => ?_)
        · refine K_iconst (v := nI 0) dX4_rings_84 (by decide) rfl ?_
          refine K_addN dX4_rings_85 rfl ?_
          refine K_istore_n (lv' := [(0, _), (1, _), (2, _), (3, _), (4, _)]) dX4_rings_86 (by decide) rfl rfl ?_
          first | refine K_incN (lv' := [(0, _), (1, _), (2, _), (3, _), (4, _)]) dX4_rings_87 rfl (by decide) rfl rfl ?_ | refine K_iinc (lv' := [(0, _), (1, _), (2, _), (3, _), (4, _)]) dX4_rings_87 rfl rfl (by decide) rfl rfl ?_
          refine K_goto (tgt := 4) dX4_rings_90 (by decide) ?_
          refine K_pick [0, 1, 2] rfl ?_
          first | (rw [cnt_f (by rw [hcr]; exact c77)] at ih; exact ih) | (rw [cnt_t (by rw [hcr]; exact c77)] at ih; exact ih)
        · refine K_iconst (v := nI 1) dX4_rings_80 (by decide) rfl ?_
          refine K_goto (tgt := 85) dX4_rings_81 (by decide) ?_
          refine K_addN dX4_rings_85 rfl ?_
          refine K_istore_n (lv' := [(0, _), (1, _), (2, _), (3, _), (4, _)]) dX4_rings_86 (by decide) rfl rfl ?_
          first | refine K_incN (lv' := [(0, _), (1, _), (2, _), (3, _), (4, _)]) dX4_rings_87 rfl (by decide) rfl rfl ?_ | refine K_iinc (lv' := [(0, _), (1, _), (2, _), (3, _), (4, _)]) dX4_rings_87 rfl rfl (by decide) rfl rfl ?_
          refine K_goto (tgt := 4) dX4_rings_90 (by decide) ?_
          refine K_pick [0, 1, 2] rfl ?_
          first | (rw [cnt_f (by rw [hcr]; exact c77)] at ih; exact ih) | (rw [cnt_t (by rw [hcr]; exact c77)] at ih; exact ih)
      have mid := li_X4_rings (d := d) (K := K) R w h0 hf hne last (s_rl S f - 1) 1 true (by omega) (Nat.le_refl 1) rfl
      refine K_iload_n dX4_rings_4 rfl rfl ?_
      refine K_aload_n dX4_rings_5 rfl rfl ?_
      refine K_getI dX4_rings_6 fl_X4_87 (by first | rfl | exact sk_rk (by omega) | exact sk_hh (by omega)) rfl (by first | assumption | rfl) rfl ?_
      refine K_icmp_geN (tgt := 93) dX4_rings_9 (by decide) rfl (by first | omega | fail) (by first | omega | fail) (fun c9 => ?_) (fun c9 => ?_)
      · omega
      · refine K_aload_n dX4_rings_12 rfl rfl ?_
        refine K_cv (ci := 4) (d1 := d - 1) [] dX4_rings_13 ml_X4_154 (by decide) rfl rfl rfl (Nat.le_of_ble_eq_true rfl) (c_X4_open (by omega) R w) (by omega) rfl ?_
        refine K_if_neN (tgt := 93) dX4_rings_16 (by decide) rfl (by first | omega | fail) (fun c16 => ?_) (fun c16 => ?_)
        · exact absurd h0 c16
        · refine K_aload_n dX4_rings_19 rfl rfl ?_
          refine K_iload_n dX4_rings_20 rfl rfl ?_
          refine K_cv (ci := 4) (d1 := d - 1) [_] dX4_rings_21 ml_X4_145 (by decide) rfl rfl rfl (Nat.le_of_ble_eq_true rfl) (c_X4_goesAtAll R w hf) (by omega) rfl ?_
          refine K_istore_n (lv' := [(0, _), (1, _), (2, _), (3, _)]) dX4_rings_24 (by decide) rfl rfl ?_
          refine K_iload_n dX4_rings_25 rfl rfl ?_
          refine K_if_eqB (tgt := 38) dX4_rings_26 (by decide) rfl (fun c26 => ?_) (fun c26 => ?_)
          · rw [hg] at c26; cases c26
          · refine K_aload_n dX4_rings_29 rfl rfl ?_
            refine K_getR (r := 55) dX4_rings_30 fl_X4_50 rfl rfl rfl rfl ?_
            refine K_iload_n dX4_rings_33 rfl rfl ?_
            refine K_iald dX4_rings_34 (by first | rfl | exact sk_rk (by omega) | exact sk_hh (by omega)) (by first | omega | fail) (by decide) (by first | assumption | rfl) rfl ?_
            refine K_goto (tgt := 39) dX4_rings_35 (by decide) ?_
            refine K_istore (lv' := [(0, _), (1, _), (2, _), (3, _), (4, _)]) dX4_rings_39 (by decide) rfl rfl ?_
            rw [hg]
            exact mid
set_option maxRecDepth 100000 in
theorem c_X4_rings {d : Nat} (hd : 5 ≤ d) {S : GS} {N : Mem} {K : Mej} (R : RY S N) (w : WF S) : CK d mX4_rings [.ref 40] N K (PX (some (.int (nI (if s_fc S = 0 then cnt (s_cr S) (s_n S) else 0)))) N K) := by
  have hn := w.1.1
  have h7 := R.1.1
  have hfl := s_fc_lt w
  by_cases h0 : s_fc S = 0
  · rw [if_pos h0]
    refine CK.start [(0, _)] (plainFor_of_name (by decide)) (Nat.le_of_ble_eq_true rfl) rfl ?_
    refine K_iconst (v := nI 0) dX4_rings_0 (by decide) rfl ?_
    refine K_istore_n (lv' := [(0, _), (1, _)]) dX4_rings_1 (by decide) rfl rfl ?_
    refine K_iconst (v := nI 0) dX4_rings_2 (by decide) rfl ?_
    refine K_istore_n (lv' := [(0, _), (1, _), (2, _)]) dX4_rings_3 (by decide) rfl rfl ?_
    exact lo_X4_rings hd R w h0 (s_n S) 0 (by omega)
  · rw [if_neg h0]
    refine CK.start [(0, _)] (plainFor_of_name (by decide)) (Nat.le_of_ble_eq_true rfl) rfl ?_
    refine K_iconst (v := nI 0) dX4_rings_0 (by decide) rfl ?_
    refine K_istore_n (lv' := [(0, _), (1, _)]) dX4_rings_1 (by decide) rfl rfl ?_
    refine K_iconst (v := nI 0) dX4_rings_2 (by decide) rfl ?_
    refine K_istore_n (lv' := [(0, _), (1, _), (2, _)]) dX4_rings_3 (by decide) rfl rfl ?_
    refine K_iload_n dX4_rings_4 rfl rfl ?_
    refine K_aload_n dX4_rings_5 rfl rfl ?_
    refine K_getI dX4_rings_6 fl_X4_87 (by first | rfl | exact sk_rk (by omega) | exact sk_hh (by omega)) rfl (by first | assumption | rfl) rfl ?_
    refine K_icmp_geN (tgt := 93) dX4_rings_9 (by decide) rfl (by first | omega | fail) (by first | omega | fail) (fun c9 => ?_) (fun c9 => ?_)
    · refine K_iload_n dX4_rings_93 rfl rfl ?_
      refine K_iret dX4_rings_94 rfl ?_
      exact ⟨rfl, rfl, rfl⟩
    · refine K_aload_n dX4_rings_12 rfl rfl ?_
      refine K_cv (ci := 4) (d1 := d - 1) [] dX4_rings_13 ml_X4_154 (by decide) rfl rfl rfl (Nat.le_of_ble_eq_true rfl) (c_X4_open (by omega) R w) (by omega) rfl ?_
      refine K_if_neN (tgt := 93) dX4_rings_16 (by decide) rfl (by first | omega | fail) (fun c16 => ?_) (fun c16 => ?_)
      · refine K_iload_n dX4_rings_93 rfl rfl ?_
        refine K_iret dX4_rings_94 rfl ?_
        exact ⟨rfl, rfl, rfl⟩
      · exact absurd c16 h0
