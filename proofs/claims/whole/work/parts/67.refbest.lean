/-! the reference's isShort, mayBe, offers -/
def TR (S : GS) (t : Nat → Nat) (f : Nat) (N : Mem) : Prop := ∀ g, g < f → N 60 g = nI (t g) ∧ t g < s_n S
def PIS (S : GS) (t : Nat → Nat) (f : Nat) (N : Mem) (K : Mej) : PK := fun r N1 K1 => N1 = N ∧ K1 = K ∧ ∃ b, r = some (.int (bI b)) ∧ (b = true → CLx S t f) ∧ (b = false → ∀ u, VP S u → (∀ g, g ≤ f → u g = t g) → False)
theorem cl_out {S : GS} {t : Nat → Nat} {f j : Nat} (h1 : ∀ i, 1 ≤ i → i ≤ j → itN t f i ≠ f) (h2 : f < itN t f j) : CLx S t f := fun m m1 hm e => by
  exfalso
  rcases Nat.lt_or_ge j m with h | h
  · have := hm j h; omega
  · exact h1 m m1 h e
theorem no_short {S : GS} {t u : Nat → Nat} {f j : Nat} (hf : f < s_n S) (h : VP S u) (hu : ∀ g, g ≤ f → u g = t g) (h0 : ∀ i, i < j → itN t f i ≤ f) (h1 : ∀ i, 1 ≤ i → i ≤ j → itN t f i ≠ f) (hj : s_mo S ≤ j) : False := by
  obtain ⟨m, m1, m2, m3⟩ := (h f hf).2.2
  rw [itN_agree hu (fun i hi => h0 i (by omega))] at m3
  exact h1 m m1 (by omega) m3
theorem li_X4_isShort {d : Nat} {t : Nat → Nat} {f c bk : Nat} {N : Mem} {K : Mej} {Post : PK} {x3 x6 : Int32} (hf : f < 10) (hT : ∀ g, g ≤ f → N 60 g = nI (t g) ∧ t g < 10) (hb : bk ≤ f)
    (next : ∀ o : Option Nat, (∀ g, o = some g → g ≤ f ∧ t g = bk) → EK d mX4_isShort Post 138 [(0, .ref 40), (1, .int (nI f)), (2, .int (nI (f + 1))), (3, .int x3), (4, .int (nI c)), (5, .int (nI bk)), (6, .int x6), (7, .int (oI o)), (8, .int (nI (f + 1)))] [] N K) :
    ∀ (k g : Nat) (o : Option Nat), g + k = f + 1 → (∀ g, o = some g → g ≤ f ∧ t g = bk) → EK d mX4_isShort Post 98 [(0, .ref 40), (1, .int (nI f)), (2, .int (nI (f + 1))), (3, .int x3), (4, .int (nI c)), (5, .int (nI bk)), (6, .int x6), (7, .int (oI o)), (8, .int (nI g))] [] N K
  | 0, g, o, e, ho => by
    obtain rfl : g = f + 1 := by omega
    refine K_iload dX4_isShort_98 rfl rfl ?_
    refine K_iload_n dX4_isShort_100 rfl rfl ?_
    refine K_icmp_geN (tgt := 138) dX4_isShort_101 (by decide) rfl (by first | omega | fail) (by first | omega | fail) (fun c101 => ?_) (fun c101 => ?_)
    · exact next o ho
    · omega
  | k + 1, g, o, e, ho => by
    have h6 := (hT g (by omega)).1
    have l6 := (hT g (by omega)).2
    have nx := fun o2 ho2 => li_X4_isShort (d := d) (K := K) (c := c) (x3 := x3) (x6 := x6) hf hT hb next k (g + 1) o2 (by omega) ho2
    refine K_iload dX4_isShort_98 rfl rfl ?_
    refine K_iload_n dX4_isShort_100 rfl rfl ?_
    refine K_icmp_geN (tgt := 138) dX4_isShort_101 (by decide) rfl (by first | omega | fail) (by first | omega | fail) (fun c101 => ?_) (fun c101 => ?_)
    · omega
    · refine K_aload_n dX4_isShort_104 rfl rfl ?_
      refine K_getR (r := 60) dX4_isShort_105 fl_X4_60 rfl rfl rfl rfl ?_
      refine K_iload dX4_isShort_108 rfl rfl ?_
      refine K_iald dX4_isShort_110 (by first | rfl | exact sk_rk (by omega) | exact sk_hh (by omega)) (by first | omega | fail) (by decide) (by first | assumption | rfl) rfl ?_
      refine K_iload dX4_isShort_111 rfl rfl ?_
      refine K_icmp_neN (tgt := 128) dX4_isShort_113 (by decide) rfl (by first | omega | fail) (by first | omega | fail) (fun c113 => ?_) (fun c113 => ?_)
      · refine K_iload dX4_isShort_128 rfl rfl ?_
        refine K_istore (lv' := [(0, _), (1, _), (2, _), (3, _), (4, _), (5, _), (6, _), (7, _), (8, _)]) dX4_isShort_130 (by decide) rfl rfl ?_
        first | refine K_incN (lv' := [(0, _), (1, _), (2, _), (3, _), (4, _), (5, _), (6, _), (7, _), (8, _)]) dX4_isShort_132 rfl (by decide) rfl rfl ?_ | refine K_iinc (lv' := [(0, _), (1, _), (2, _), (3, _), (4, _), (5, _), (6, _), (7, _), (8, _)]) dX4_isShort_132 rfl rfl (by decide) rfl rfl ?_
        refine K_goto (tgt := 98) dX4_isShort_135 (by decide) ?_
        first | exact nx o ho | exact nx (some g) (fun g2 hg => by cases hg; exact ⟨by omega, c113⟩)
      · refine K_iload dX4_isShort_116 rfl rfl ?_
        refine K_iload dX4_isShort_118 rfl rfl ?_
        refine K_icmp_eqN (tgt := 128) dX4_isShort_120 (by decide) rfl (by first | omega | fail) (by first | omega | fail) (fun c120 => ?_) (fun c120 => ?_)
        · refine K_iload dX4_isShort_128 rfl rfl ?_
          refine K_istore (lv' := [(0, _), (1, _), (2, _), (3, _), (4, _), (5, _), (6, _), (7, _), (8, _)]) dX4_isShort_130 (by decide) rfl rfl ?_
          first | refine K_incN (lv' := [(0, _), (1, _), (2, _), (3, _), (4, _), (5, _), (6, _), (7, _), (8, _)]) dX4_isShort_132 rfl (by decide) rfl rfl ?_ | refine K_iinc (lv' := [(0, _), (1, _), (2, _), (3, _), (4, _), (5, _), (6, _), (7, _), (8, _)]) dX4_isShort_132 rfl rfl (by decide) rfl rfl ?_
          refine K_goto (tgt := 98) dX4_isShort_135 (by decide) ?_
          first | exact nx o ho | exact nx (some g) (fun g2 hg => by cases hg; exact ⟨by omega, c113⟩)
        · refine K_iload dX4_isShort_123 rfl rfl ?_
          refine K_goto (tgt := 130) dX4_isShort_125 (by decide) ?_
          refine K_istore (lv' := [(0, _), (1, _), (2, _), (3, _), (4, _), (5, _), (6, _), (7, _), (8, _)]) dX4_isShort_130 (by decide) rfl rfl ?_
          first | refine K_incN (lv' := [(0, _), (1, _), (2, _), (3, _), (4, _), (5, _), (6, _), (7, _), (8, _)]) dX4_isShort_132 rfl (by decide) rfl rfl ?_ | refine K_iinc (lv' := [(0, _), (1, _), (2, _), (3, _), (4, _), (5, _), (6, _), (7, _), (8, _)]) dX4_isShort_132 rfl rfl (by decide) rfl rfl ?_
          refine K_goto (tgt := 98) dX4_isShort_135 (by decide) ?_
          first | exact nx o ho | exact nx (some g) (fun g2 hg => by cases hg; exact ⟨by omega, c113⟩)
theorem lb_X4_isShort {d : Nat} {S : GS} (w : WF S) {t : Nat → Nat} {f j : Nat} {N : Mem} {K : Mej} {x3 : Int32} (hf : f < s_n S) (h17 : N 40 17 = nI (s_mo S)) (hT : ∀ g, g ≤ f → N 60 g = nI (t g) ∧ t g < 10) (h0 : ∀ i, i < j → itN t f i ≤ f) (h1 : ∀ i, 1 ≤ i → i ≤ j → itN t f i ≠ f) (h2 : f < itN t f j) :
    ∀ (k2 k bk : Nat), j + 1 + k + k2 = s_mo S + 1 → bk ≤ f → itN t bk k = f → (∀ i, i < k → itN t bk i ≤ f) → EK d mX4_isShort (PIS S t f N K) 78 [(0, .ref 40), (1, .int (nI f)), (2, .int (nI (f + 1))), (3, .int x3), (4, .int (nI (j + 1 + k))), (5, .int (nI bk)), (6, .int (nI 1))] [] N K
  | 0, k, bk, e, hb, hk, hi => by
    have hm := w.1.2.2.2.2.1
    refine K_iload dX4_isShort_78 rfl rfl ?_
    refine K_if_eqN (tgt := 182) dX4_isShort_80 (by decide) rfl (by first | omega | fail) (fun c80 => ?_) (fun c80 => ?_)
    · omega
    · refine K_iload dX4_isShort_83 rfl rfl ?_
      refine K_aload_n dX4_isShort_85 rfl rfl ?_
      refine K_getI dX4_isShort_86 fl_X4_57 (by first | rfl | exact sk_rk (by omega) | exact sk_hh (by omega)) rfl (by first | assumption | rfl) rfl ?_
      refine K_icmp_gtN (tgt := 182) dX4_isShort_89 (by decide) rfl (by first | omega | fail) (by first | omega | fail) (fun c89 => ?_) (fun c89 => ?_)
      · refine K_iload dX4_isShort_182 rfl rfl ?_
        refine K_aload_n dX4_isShort_184 rfl rfl ?_
        refine K_getI dX4_isShort_185 fl_X4_57 (by first | rfl | exact sk_rk (by omega) | exact sk_hh (by omega)) rfl (by first | assumption | rfl) rfl ?_
        refine K_icmp_gtN (tgt := 195) dX4_isShort_188 (by decide) rfl (by first | omega | fail) (by first | omega | fail) (fun c188 => ?_) (fun c188 => ?_)
        · refine K_iconst (v := nI 0) dX4_isShort_195 (by decide) rfl ?_
          refine K_zret dX4_isShort_196 rfl (by first | rfl | exact bI_nar _) ?_
          exact ⟨rfl, rfl, false, rfl, (fun z => by cases z), fun _ u hu hg => too_long (x := bk) (k := k) (j := j) (by omega) hu hg hi hk h0 h2 (by omega)⟩
        · omega
      · omega
  | k2 + 1, k, bk, e, hb, hk, hi => by
    have hn := w.1.1
    have hm := w.1.2.2.2.2.1
    have hcl := cl_out (S := S) h1 h2
    have key : ∀ o : Option Nat, (∀ g, o = some g → g ≤ f ∧ t g = bk) → EK d mX4_isShort (PIS S t f N K) 138 [(0, .ref 40), (1, .int (nI f)), (2, .int (nI (f + 1))), (3, .int x3), (4, .int (nI (j + 1 + k))), (5, .int (nI bk)), (6, .int (nI 1)), (7, .int (oI o)), (8, .int (nI (f + 1)))] [] N K := by
      intro o ho
      cases o with
      | none =>
        have ob : oB none := fun x hx => by cases hx
        refine K_iload dX4_isShort_138 rfl rfl ?_
        refine K_if_ltO (tgt := 147) dX4_isShort_140 (by decide) rfl (by first | assumption | fail) (fun c140 => ?_) (fun c140 => ?_)
        · refine K_iconst (v := nI 0) dX4_isShort_147 (by decide) rfl ?_
          refine K_istore (lv' := [(0, _), (1, _), (2, _), (3, _), (4, _), (5, _), (6, _), (7, _), (8, _)]) dX4_isShort_148 (by decide) rfl rfl ?_
          refine K_iload dX4_isShort_150 rfl rfl ?_
          refine K_if_eqN (tgt := 160) dX4_isShort_152 (by decide) rfl (by first | omega | fail) (fun c152 => ?_) (fun c152 => ?_)
          · refine K_iload dX4_isShort_160 rfl rfl ?_
            refine K_istore (lv' := [(0, _), (1, _), (2, _), (3, _), (4, _), (5, _), (6, _), (7, _), (8, _)]) dX4_isShort_162 (by decide) rfl rfl ?_
            refine K_iload dX4_isShort_164 rfl rfl ?_
            refine K_iload dX4_isShort_166 rfl rfl ?_
            refine K_if_eqN (tgt := 175) dX4_isShort_168 (by decide) rfl (by first | omega | fail) (fun c168 => ?_) (fun c168 => ?_)
            · refine K_iconst (v := nI 0) dX4_isShort_175 (by decide) rfl ?_
              refine K_addN dX4_isShort_176 rfl ?_
              refine K_istore (lv' := [(0, _), (1, _), (2, _), (3, _), (4, _), (5, _), (6, _), (7, _), (8, _)]) dX4_isShort_177 (by decide) rfl rfl ?_
              refine K_goto (tgt := 78) dX4_isShort_179 (by decide) ?_
              refine K_iload dX4_isShort_78 rfl rfl ?_
              refine K_if_eqN (tgt := 182) dX4_isShort_80 (by decide) rfl (by first | omega | fail) (fun c80 => ?_) (fun c80 => ?_)
              · refine K_iload dX4_isShort_182 rfl rfl ?_
                refine K_aload_n dX4_isShort_184 rfl rfl ?_
                refine K_getI dX4_isShort_185 fl_X4_57 (by first | rfl | exact sk_rk (by omega) | exact sk_hh (by omega)) rfl (by first | assumption | rfl) rfl ?_
                refine K_icmp_gtN (tgt := 195) dX4_isShort_188 (by decide) rfl (by first | omega | fail) (by first | omega | fail) (fun c188 => ?_) (fun c188 => ?_)
                · omega
                · refine K_iconst (v := nI 1) dX4_isShort_191 (by decide) rfl ?_
                  refine K_goto (tgt := 196) dX4_isShort_192 (by decide) ?_
                  refine K_zret dX4_isShort_196 rfl (by first | rfl | exact bI_nar _) ?_
                  exact ⟨rfl, rfl, true, rfl, fun _ => hcl, (fun z => by cases z)⟩
              · omega
            · omega
          · omega
        · exact absurd rfl c140
      | some g =>
        obtain ⟨g1, g2⟩ := ho g rfl
        have ob : oB (some g) := fun y hy => by cases hy; omega
        have ih := lb_X4_isShort (d := d) (K := K) (x3 := x3) w hf h17 hT h0 h1 h2 k2 (k + 1) g (by omega) g1 (by rw [← itN_s, g2]; exact hk) (fun i hi2 => by
          cases i with
          | zero => exact g1
          | succ i => rw [← itN_s, g2]; exact hi i (by omega))
        refine K_iload dX4_isShort_138 rfl rfl ?_
        refine K_if_ltO (tgt := 147) dX4_isShort_140 (by decide) rfl (by first | assumption | fail) (fun c140 => ?_) (fun c140 => ?_)
        · cases c140
        · refine K_iconst (v := nI 1) dX4_isShort_143 (by decide) rfl ?_
          refine K_goto (tgt := 148) dX4_isShort_144 (by decide) ?_
          refine K_istore (lv' := [(0, _), (1, _), (2, _), (3, _), (4, _), (5, _), (6, _), (7, _), (8, _)]) dX4_isShort_148 (by decide) rfl rfl ?_
          refine K_iload dX4_isShort_150 rfl rfl ?_
          refine K_if_eqN (tgt := 160) dX4_isShort_152 (by decide) rfl (by first | omega | fail) (fun c152 => ?_) (fun c152 => ?_)
          · omega
          · refine K_iload dX4_isShort_155 rfl rfl ?_
            refine K_goto (tgt := 162) dX4_isShort_157 (by decide) ?_
            refine K_istore (lv' := [(0, _), (1, _), (2, _), (3, _), (4, _), (5, _), (6, _), (7, _), (8, _)]) dX4_isShort_162 (by decide) rfl rfl ?_
            refine K_iload dX4_isShort_164 rfl rfl ?_
            refine K_iload dX4_isShort_166 rfl rfl ?_
            refine K_if_eqN (tgt := 175) dX4_isShort_168 (by decide) rfl (by first | omega | fail) (fun c168 => ?_) (fun c168 => ?_)
            · omega
            · refine K_iconst (v := nI 1) dX4_isShort_171 (by decide) rfl ?_
              refine K_goto (tgt := 176) dX4_isShort_172 (by decide) ?_
              refine K_addN dX4_isShort_176 rfl ?_
              refine K_istore (lv' := [(0, _), (1, _), (2, _), (3, _), (4, _), (5, _), (6, _), (7, _), (8, _)]) dX4_isShort_177 (by decide) rfl rfl ?_
              refine K_goto (tgt := 78) dX4_isShort_179 (by decide) ?_
              refine K_pick [0, 1, 2, 3, 4, 5, 6] rfl ?_
              exact ih
    refine K_iload dX4_isShort_78 rfl rfl ?_
    refine K_if_eqN (tgt := 182) dX4_isShort_80 (by decide) rfl (by first | omega | fail) (fun c80 => ?_) (fun c80 => ?_)
    · omega
    · refine K_iload dX4_isShort_83 rfl rfl ?_
      refine K_aload_n dX4_isShort_85 rfl rfl ?_
      refine K_getI dX4_isShort_86 fl_X4_57 (by first | rfl | exact sk_rk (by omega) | exact sk_hh (by omega)) rfl (by first | assumption | rfl) rfl ?_
      refine K_icmp_gtN (tgt := 182) dX4_isShort_89 (by decide) rfl (by first | omega | fail) (by first | omega | fail) (fun c89 => ?_) (fun c89 => ?_)
      · omega
      · refine K_iconst (v := (-1)) dX4_isShort_92 (by decide) rfl ?_
        refine K_istore (lv' := [(0, _), (1, _), (2, _), (3, _), (4, _), (5, _), (6, _), (7, _)]) dX4_isShort_93 (by decide) rfl rfl ?_
        refine K_iconst (v := nI 0) dX4_isShort_95 (by decide) rfl ?_
        refine K_istore (lv' := [(0, _), (1, _), (2, _), (3, _), (4, _), (5, _), (6, _), (7, _), (8, _)]) dX4_isShort_96 (by decide) rfl rfl ?_
        exact li_X4_isShort (by omega) hT hb key (f + 1) 0 none (by omega) (fun g hg => by cases hg)
theorem lf_X4_isShort {d : Nat} {S : GS} (w : WF S) {t : Nat → Nat} {f : Nat} {N : Mem} {K : Mej} (hf : f < s_n S) (h17 : N 40 17 = nI (s_mo S)) (hT : ∀ g, g ≤ f → N 60 g = nI (t g) ∧ t g < 10) :
    ∀ (k j : Nat), j + k = s_mo S → itN t f j < 10 → (∀ i, i < j → itN t f i ≤ f) → (∀ i, 1 ≤ i → i ≤ j → itN t f i ≠ f) → EK d mX4_isShort (PIS S t f N K) 5 [(0, .ref 40), (1, .int (nI f)), (2, .int (nI (f + 1))), (3, .int (nI (itN t f j))), (4, .int (nI (j + 1)))] [] N K
  | k, j, e, hl, h0, h1 => by
    have hn := w.1.1
    have hm := w.1.2.2.2.2.1
    by_cases hx : f < itN t f j
    · have hb := lb_X4_isShort (d := d) (K := K) (x3 := nI (itN t f j)) w hf h17 hT h0 h1 hx k 0 f (by omega) (Nat.le_refl f) rfl (fun i hi => absurd hi (Nat.not_lt_zero i))
      refine K_iload_n dX4_isShort_5 rfl rfl ?_
      refine K_iload_n dX4_isShort_6 rfl rfl ?_
      refine K_icmp_geN (tgt := 42) dX4_isShort_7 (by decide) rfl (by first | omega | fail) (by first | omega | fail) (fun c7 => ?_) (fun c7 => ?_)
      · refine K_iload_n dX4_isShort_42 rfl rfl ?_
        refine K_iload_n dX4_isShort_43 rfl rfl ?_
        refine K_icmp_geN (tgt := 72) dX4_isShort_44 (by decide) rfl (by first | omega | fail) (by first | omega | fail) (fun c44 => ?_) (fun c44 => ?_)
        · refine K_iload_n dX4_isShort_72 rfl rfl ?_
          refine K_istore (lv' := [(0, _), (1, _), (2, _), (3, _), (4, _), (5, _)]) dX4_isShort_73 (by decide) rfl rfl ?_
          refine K_iconst (v := nI 1) dX4_isShort_75 (by decide) rfl ?_
          refine K_istore (lv' := [(0, _), (1, _), (2, _), (3, _), (4, _), (5, _), (6, _)]) dX4_isShort_76 (by decide) rfl rfl ?_
          exact hb
        · omega
      · omega
    · have h6 := (hT (itN t f j) (by omega)).1
      have l6 := (hT (itN t f j) (by omega)).2
      by_cases hy : t (itN t f j) = f
      · have _u := hy
        refine K_iload_n dX4_isShort_5 rfl rfl ?_
        refine K_iload_n dX4_isShort_6 rfl rfl ?_
        refine K_icmp_geN (tgt := 42) dX4_isShort_7 (by decide) rfl (by first | omega | fail) (by first | omega | fail) (fun c7 => ?_) (fun c7 => ?_)
        · omega
        · refine K_aload_n dX4_isShort_10 rfl rfl ?_
          refine K_getR (r := 60) dX4_isShort_11 fl_X4_60 rfl rfl rfl rfl ?_
          refine K_iload_n dX4_isShort_14 rfl rfl ?_
          refine K_iald dX4_isShort_15 (by first | rfl | exact sk_rk (by omega) | exact sk_hh (by omega)) (by first | omega | fail) (by decide) (by first | assumption | rfl) rfl ?_
          refine K_iload_n dX4_isShort_16 rfl rfl ?_
          refine K_icmp_eqN (tgt := 42) dX4_isShort_17 (by decide) rfl (by first | omega | fail) (by first | omega | fail) (fun c17 => ?_) (fun c17 => ?_)
          · refine K_iload_n dX4_isShort_42 rfl rfl ?_
            refine K_iload_n dX4_isShort_43 rfl rfl ?_
            refine K_icmp_geN (tgt := 72) dX4_isShort_44 (by decide) rfl (by first | omega | fail) (by first | omega | fail) (fun c44 => ?_) (fun c44 => ?_)
            · omega
            · refine K_aload_n dX4_isShort_47 rfl rfl ?_
              refine K_getR (r := 60) dX4_isShort_48 fl_X4_60 rfl rfl rfl rfl ?_
              refine K_iload_n dX4_isShort_51 rfl rfl ?_
              refine K_iald dX4_isShort_52 (by first | rfl | exact sk_rk (by omega) | exact sk_hh (by omega)) (by first | omega | fail) (by decide) (by first | assumption | rfl) rfl ?_
              refine K_iload_n dX4_isShort_53 rfl rfl ?_
              refine K_icmp_neN (tgt := 72) dX4_isShort_54 (by decide) rfl (by first | omega | fail) (by first | omega | fail) (fun c54 => ?_) (fun c54 => ?_)
              · exact absurd hy c54
              · refine K_iload dX4_isShort_57 rfl rfl ?_
                refine K_aload_n dX4_isShort_59 rfl rfl ?_
                refine K_getI dX4_isShort_60 fl_X4_57 (by first | rfl | exact sk_rk (by omega) | exact sk_hh (by omega)) rfl (by first | assumption | rfl) rfl ?_
                refine K_icmp_gtN (tgt := 70) dX4_isShort_63 (by decide) rfl (by first | omega | fail) (by first | omega | fail) (fun c63 => ?_) (fun c63 => ?_)
                · refine K_iconst (v := nI 0) dX4_isShort_70 (by decide) rfl ?_
                  refine K_zret dX4_isShort_71 rfl (by first | rfl | exact bI_nar _) ?_
                  first | exact ⟨rfl, rfl, true, rfl, fun _ m _ _ _ => ⟨j + 1, by omega, by omega, hy⟩, (fun z => by cases z)⟩ | exact ⟨rfl, rfl, false, rfl, (fun z => by cases z), fun _ u hu hg => no_short hf hu hg h0 h1 (by omega)⟩
                · refine K_iconst (v := nI 1) dX4_isShort_66 (by decide) rfl ?_
                  refine K_goto (tgt := 71) dX4_isShort_67 (by decide) ?_
                  refine K_zret dX4_isShort_71 rfl (by first | rfl | exact bI_nar _) ?_
                  first | exact ⟨rfl, rfl, true, rfl, fun _ m _ _ _ => ⟨j + 1, by omega, by omega, hy⟩, (fun z => by cases z)⟩ | exact ⟨rfl, rfl, false, rfl, (fun z => by cases z), fun _ u hu hg => no_short hf hu hg h0 h1 (by omega)⟩
          · exact absurd hy c17
      · cases k with
        | zero =>
          refine K_iload_n dX4_isShort_5 rfl rfl ?_
          refine K_iload_n dX4_isShort_6 rfl rfl ?_
          refine K_icmp_geN (tgt := 42) dX4_isShort_7 (by decide) rfl (by first | omega | fail) (by first | omega | fail) (fun c7 => ?_) (fun c7 => ?_)
          · omega
          · refine K_aload_n dX4_isShort_10 rfl rfl ?_
            refine K_getR (r := 60) dX4_isShort_11 fl_X4_60 rfl rfl rfl rfl ?_
            refine K_iload_n dX4_isShort_14 rfl rfl ?_
            refine K_iald dX4_isShort_15 (by first | rfl | exact sk_rk (by omega) | exact sk_hh (by omega)) (by first | omega | fail) (by decide) (by first | assumption | rfl) rfl ?_
            refine K_iload_n dX4_isShort_16 rfl rfl ?_
            refine K_icmp_eqN (tgt := 42) dX4_isShort_17 (by decide) rfl (by first | omega | fail) (by first | omega | fail) (fun c17 => ?_) (fun c17 => ?_)
            · exact absurd c17 hy
            · refine K_iload dX4_isShort_20 rfl rfl ?_
              refine K_aload_n dX4_isShort_22 rfl rfl ?_
              refine K_getI dX4_isShort_23 fl_X4_57 (by first | rfl | exact sk_rk (by omega) | exact sk_hh (by omega)) rfl (by first | assumption | rfl) rfl ?_
              refine K_icmp_gtN (tgt := 42) dX4_isShort_26 (by decide) rfl (by first | omega | fail) (by first | omega | fail) (fun c26 => ?_) (fun c26 => ?_)
              · refine K_iload_n dX4_isShort_42 rfl rfl ?_
                refine K_iload_n dX4_isShort_43 rfl rfl ?_
                refine K_icmp_geN (tgt := 72) dX4_isShort_44 (by decide) rfl (by first | omega | fail) (by first | omega | fail) (fun c44 => ?_) (fun c44 => ?_)
                · omega
                · refine K_aload_n dX4_isShort_47 rfl rfl ?_
                  refine K_getR (r := 60) dX4_isShort_48 fl_X4_60 rfl rfl rfl rfl ?_
                  refine K_iload_n dX4_isShort_51 rfl rfl ?_
                  refine K_iald dX4_isShort_52 (by first | rfl | exact sk_rk (by omega) | exact sk_hh (by omega)) (by first | omega | fail) (by decide) (by first | assumption | rfl) rfl ?_
                  refine K_iload_n dX4_isShort_53 rfl rfl ?_
                  refine K_icmp_neN (tgt := 72) dX4_isShort_54 (by decide) rfl (by first | omega | fail) (by first | omega | fail) (fun c54 => ?_) (fun c54 => ?_)
                  · refine K_iload_n dX4_isShort_72 rfl rfl ?_
                    refine K_istore (lv' := [(0, _), (1, _), (2, _), (3, _), (4, _), (5, _)]) dX4_isShort_73 (by decide) rfl rfl ?_
                    refine K_iconst (v := nI 1) dX4_isShort_75 (by decide) rfl ?_
                    refine K_istore (lv' := [(0, _), (1, _), (2, _), (3, _), (4, _), (5, _), (6, _)]) dX4_isShort_76 (by decide) rfl rfl ?_
                    refine K_iload dX4_isShort_78 rfl rfl ?_
                    refine K_if_eqN (tgt := 182) dX4_isShort_80 (by decide) rfl (by first | omega | fail) (fun c80 => ?_) (fun c80 => ?_)
                    · omega
                    · refine K_iload dX4_isShort_83 rfl rfl ?_
                      refine K_aload_n dX4_isShort_85 rfl rfl ?_
                      refine K_getI dX4_isShort_86 fl_X4_57 (by first | rfl | exact sk_rk (by omega) | exact sk_hh (by omega)) rfl (by first | assumption | rfl) rfl ?_
                      refine K_icmp_gtN (tgt := 182) dX4_isShort_89 (by decide) rfl (by first | omega | fail) (by first | omega | fail) (fun c89 => ?_) (fun c89 => ?_)
                      · refine K_iload dX4_isShort_182 rfl rfl ?_
                        refine K_aload_n dX4_isShort_184 rfl rfl ?_
                        refine K_getI dX4_isShort_185 fl_X4_57 (by first | rfl | exact sk_rk (by omega) | exact sk_hh (by omega)) rfl (by first | assumption | rfl) rfl ?_
                        refine K_icmp_gtN (tgt := 195) dX4_isShort_188 (by decide) rfl (by first | omega | fail) (by first | omega | fail) (fun c188 => ?_) (fun c188 => ?_)
                        · refine K_iconst (v := nI 0) dX4_isShort_195 (by decide) rfl ?_
                          refine K_zret dX4_isShort_196 rfl (by first | rfl | exact bI_nar _) ?_
                          exact ⟨rfl, rfl, false, rfl, (fun z => by cases z), fun _ u hu hg => no_short hf hu hg h0 h1 (by omega)⟩
                        · omega
                      · omega
                  · exact absurd c54 hy
              · omega
        | succ k =>
          have ih := lf_X4_isShort (d := d) (K := K) w hf h17 hT k (j + 1) (by omega) l6 (fun i hi => by
            rcases Nat.lt_succ_iff_lt_or_eq.mp hi with hi | rfl
            · exact h0 i hi
            · omega) (fun i i1 hi => by
            rcases Nat.lt_or_ge i (j + 1) with h | h
            · exact h1 i i1 (by omega)
            · obtain rfl : i = j + 1 := by omega
              exact hy)
          refine K_iload_n dX4_isShort_5 rfl rfl ?_
          refine K_iload_n dX4_isShort_6 rfl rfl ?_
          refine K_icmp_geN (tgt := 42) dX4_isShort_7 (by decide) rfl (by first | omega | fail) (by first | omega | fail) (fun c7 => ?_) (fun c7 => ?_)
          · omega
          · refine K_aload_n dX4_isShort_10 rfl rfl ?_
            refine K_getR (r := 60) dX4_isShort_11 fl_X4_60 rfl rfl rfl rfl ?_
            refine K_iload_n dX4_isShort_14 rfl rfl ?_
            refine K_iald dX4_isShort_15 (by first | rfl | exact sk_rk (by omega) | exact sk_hh (by omega)) (by first | omega | fail) (by decide) (by first | assumption | rfl) rfl ?_
            refine K_iload_n dX4_isShort_16 rfl rfl ?_
            refine K_icmp_eqN (tgt := 42) dX4_isShort_17 (by decide) rfl (by first | omega | fail) (by first | omega | fail) (fun c17 => ?_) (fun c17 => ?_)
            · exact absurd c17 hy
            · refine K_iload dX4_isShort_20 rfl rfl ?_
              refine K_aload_n dX4_isShort_22 rfl rfl ?_
              refine K_getI dX4_isShort_23 fl_X4_57 (by first | rfl | exact sk_rk (by omega) | exact sk_hh (by omega)) rfl (by first | assumption | rfl) rfl ?_
              refine K_icmp_gtN (tgt := 42) dX4_isShort_26 (by decide) rfl (by first | omega | fail) (by first | omega | fail) (fun c26 => ?_) (fun c26 => ?_)
              · omega
              · refine K_aload_n dX4_isShort_29 rfl rfl ?_
                refine K_getR (r := 60) dX4_isShort_30 fl_X4_60 rfl rfl rfl rfl ?_
                refine K_iload_n dX4_isShort_33 rfl rfl ?_
                refine K_iald dX4_isShort_34 (by first | rfl | exact sk_rk (by omega) | exact sk_hh (by omega)) (by first | omega | fail) (by decide) (by first | assumption | rfl) rfl ?_
                refine K_istore_n (lv' := [(0, _), (1, _), (2, _), (3, _), (4, _)]) dX4_isShort_35 (by decide) rfl rfl ?_
                first | refine K_incN (lv' := [(0, _), (1, _), (2, _), (3, _), (4, _)]) dX4_isShort_36 rfl (by decide) rfl rfl ?_ | refine K_iinc (lv' := [(0, _), (1, _), (2, _), (3, _), (4, _)]) dX4_isShort_36 rfl rfl (by decide) rfl rfl ?_
                refine K_goto (tgt := 5) dX4_isShort_39 (by decide) ?_
                exact ih
  termination_by k => k
set_option maxRecDepth 100000 in
theorem c_X4_isShort {d : Nat} {S : GS} (w : WF S) {t : Nat → Nat} {f : Nat} {N : Mem} {K : Mej} (hf : f < s_n S) (R : RY S N) (hT : TR S t (f + 1) N) : CK d mX4_isShort [.ref 40, .int (nI f), .int (nI (f + 1))] N K (PIS S t f N K) := by
  have hn := w.1.1
  refine CK.start [(0, _), (1, _), (2, _)] (plainFor_of_name (by decide)) (Nat.le_of_ble_eq_true rfl) rfl ?_
  refine K_iload_n dX4_isShort_0 rfl rfl ?_
  refine K_istore_n (lv' := [(0, _), (1, _), (2, _), (3, _)]) dX4_isShort_1 (by decide) rfl rfl ?_
  refine K_iconst (v := nI 1) dX4_isShort_2 (by decide) rfl ?_
  refine K_istore (lv' := [(0, _), (1, _), (2, _), (3, _), (4, _)]) dX4_isShort_3 (by decide) rfl rfl ?_
  exact lf_X4_isShort w hf R.1.2.2.1 (fun g hg => ⟨(hT g (by omega)).1, by have := (hT g (by omega)).2; omega⟩) (s_mo S) 0 (Nat.zero_add _) (show f < 10 by omega) (fun i hi => absurd hi (Nat.not_lt_zero i)) (fun i i1 i2 => by omega)
