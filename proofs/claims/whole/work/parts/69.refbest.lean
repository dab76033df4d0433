/-! the reference's mayBe, offers -/
def StM (S : GS) (k : Bool) (o : Option (Nat → Nat)) (N : Mem) : Prop := N 40 22 = bI o.isSome ∧ N 40 23 = bI k ∧ ∀ b, o = some b → N 40 24 = nI (kpT S b (s_n S)) ∧ N 40 25 = nI (goT b (s_n S)) ∧ N 40 26 = nI (rkT S b (s_n S)) ∧ ∀ g, g < s_n S → N 61 g = oI (pv (s_n S) b g)
def PrH (S : GS) (k : Bool) (u b : Nat → Nat) (f : Nat) : Prop := (k = true ∧ kpT S u f + cnt (s_go S) (s_n S) < kpT S b (s_n S) + cnt (s_go S) f) ∨ ((k = true → kpT S u f + cnt (s_go S) (s_n S) = kpT S b (s_n S) + cnt (s_go S) f) ∧ (goT u f + (s_n S - f) < goT b (s_n S) ∨ (goT u f + (s_n S - f) = goT b (s_n S) ∧ rkT S b (s_n S) ≤ rkT S u f + (s_n S - f))))
def PMB (S : GS) (k : Bool) (o : Option (Nat → Nat)) (u : Nat → Nat) (f : Nat) (N : Mem) (K : Mej) : PK := fun r N1 K1 => N1 = N ∧ K1 = K ∧ ∃ x, r = some (.int (bI x)) ∧ (x = false → ∃ b, o = some b ∧ PrH S k u b f)
theorem goT_le (t : Nat → Nat) (i : Nat) : goT t i ≤ i := cnt_le _ _
theorem kpT_le (S : GS) (t : Nat → Nat) (i : Nat) : kpT S t i ≤ i := cnt_le _ _
set_option maxRecDepth 100000 in
theorem h56_X4_mayBe {d : Nat} {S : GS} (w : WF S) {k : Bool} {b u : Nat → Nat} {f v : Nat} {N : Mem} {K : Mej} {x6 : Int32} (hf : f ≤ s_n S) (R : RY S N) (hS : StM S k (some b) N) (hv : k = true → v + cnt (s_go S) f = kpT S u f + cnt (s_go S) (s_n S)) (lv : v < 100) :
    EK d mX4_mayBe (PMB S k (some b) u f N K) 56 [(0, .ref 40), (1, .int (nI f)), (2, .int (nI (kpT S u f))), (3, .int (nI (goT u f))), (4, .int (nI (rkT S u f))), (5, .int (nI v)), (6, .int x6)] [] N K := by
  have hn := w.1.1
  have h7 := R.1.1
  have h23 := hS.2.1
  obtain ⟨h24, h25, h26, -⟩ := hS.2.2 b rfl
  have a1 := goT_le u f
  have a2 := kpT_le S u f
  have a3 := rkT_le w (t := u) f (by omega)
  have a4 := goT_le b (s_n S)
  have a5 := kpT_le S b (s_n S)
  have a6 := rkT_le w (t := b) (s_n S) hn
  cases k with
  | true =>
    have hv := hv rfl
    refine K_aload_n dX4_mayBe_56 rfl rfl ?_
    refine K_getI dX4_mayBe_57 fl_X4_185 (by first | rfl | exact sk_rk (by omega) | exact sk_hh (by omega)) rfl (by first | assumption | rfl) rfl ?_
    refine K_if_eqB (tgt := 87) dX4_mayBe_60 (by decide) rfl (fun c60 => ?_) (fun c60 => ?_)
    · cases c60
    · refine K_iload dX4_mayBe_63 rfl rfl ?_
      refine K_aload_n dX4_mayBe_65 rfl rfl ?_
      refine K_getI dX4_mayBe_66 fl_X4_188 (by first | rfl | exact sk_rk (by omega) | exact sk_hh (by omega)) rfl (by first | assumption | rfl) rfl ?_
      refine K_icmp_eqN (tgt := 87) dX4_mayBe_69 (by decide) rfl (by first | omega | fail) (by first | omega | fail) (fun c69 => ?_) (fun c69 => ?_)
      · refine K_iload_n dX4_mayBe_87 rfl rfl ?_
        refine K_aload_n dX4_mayBe_88 rfl rfl ?_
        refine K_getI dX4_mayBe_89 fl_X4_87 (by first | rfl | exact sk_rk (by omega) | exact sk_hh (by omega)) rfl (by first | assumption | rfl) rfl ?_
        refine K_addN dX4_mayBe_92 rfl ?_
        refine K_iload_n dX4_mayBe_93 rfl rfl ?_
        refine K_subN dX4_mayBe_94 (by first | omega | fail) rfl ?_
        refine K_istore (lv' := [(0, _), (1, _), (2, _), (3, _), (4, _), (5, _), (6, _)]) dX4_mayBe_95 (by decide) rfl rfl ?_
        refine K_iload dX4_mayBe_97 rfl rfl ?_
        refine K_aload_n dX4_mayBe_99 rfl rfl ?_
        refine K_getI dX4_mayBe_100 fl_X4_191 (by first | rfl | exact sk_rk (by omega) | exact sk_hh (by omega)) rfl (by first | assumption | rfl) rfl ?_
        refine K_icmp_eqN (tgt := 123) dX4_mayBe_103 (by decide) rfl (by first | omega | fail) (by first | omega | fail) (fun c103 => ?_) (fun c103 => ?_)
        · refine K_iload dX4_mayBe_123 rfl rfl ?_
          refine K_aload_n dX4_mayBe_125 rfl rfl ?_
          refine K_getI dX4_mayBe_126 fl_X4_87 (by first | rfl | exact sk_rk (by omega) | exact sk_hh (by omega)) rfl (by first | assumption | rfl) rfl ?_
          refine K_addN dX4_mayBe_129 rfl ?_
          refine K_iload_n dX4_mayBe_130 rfl rfl ?_
          refine K_subN dX4_mayBe_131 (by first | omega | fail) rfl ?_
          refine K_aload_n dX4_mayBe_132 rfl rfl ?_
          refine K_getI dX4_mayBe_133 fl_X4_194 (by first | rfl | exact sk_rk (by omega) | exact sk_hh (by omega)) rfl (by first | assumption | rfl) rfl ?_
          refine K_icmp_ltN (tgt := 156) dX4_mayBe_136 (by decide) rfl (by first | omega | fail) (by first | omega | fail) (fun c136 => ?_) (fun c136 => ?_)
          · refine K_iconst (v := nI 1) dX4_mayBe_156 (by decide) rfl ?_
            refine K_goto (tgt := 161) dX4_mayBe_157 (by decide) ?_
            refine K_zret dX4_mayBe_161 rfl (by first | rfl | exact bI_nar _) ?_
            first | exact ⟨rfl, rfl, true, rfl, fun z => by cases z⟩ | exact ⟨rfl, rfl, false, rfl, fun _ => ⟨b, rfl, Or.inl ⟨rfl, by omega⟩⟩⟩ | exact ⟨rfl, rfl, false, rfl, fun _ => ⟨b, rfl, Or.inr ⟨fun _ => by omega, by omega⟩⟩⟩
          · refine K_iload_n dX4_mayBe_139 rfl rfl ?_
            refine K_aload_n dX4_mayBe_140 rfl rfl ?_
            refine K_getI dX4_mayBe_141 fl_X4_87 (by first | rfl | exact sk_rk (by omega) | exact sk_hh (by omega)) rfl (by first | assumption | rfl) rfl ?_
            refine K_icmp_neN (tgt := 160) dX4_mayBe_144 (by decide) rfl (by first | omega | fail) (by first | omega | fail) (fun c144 => ?_) (fun c144 => ?_)
            · refine K_iconst (v := nI 0) dX4_mayBe_160 (by decide) rfl ?_
              refine K_zret dX4_mayBe_161 rfl (by first | rfl | exact bI_nar _) ?_
              first | exact ⟨rfl, rfl, true, rfl, fun z => by cases z⟩ | exact ⟨rfl, rfl, false, rfl, fun _ => ⟨b, rfl, Or.inl ⟨rfl, by omega⟩⟩⟩ | exact ⟨rfl, rfl, false, rfl, fun _ => ⟨b, rfl, Or.inr ⟨fun _ => by omega, by omega⟩⟩⟩
            · refine K_iload dX4_mayBe_147 rfl rfl ?_
              refine K_aload_n dX4_mayBe_149 rfl rfl ?_
              refine K_getI dX4_mayBe_150 fl_X4_194 (by first | rfl | exact sk_rk (by omega) | exact sk_hh (by omega)) rfl (by first | assumption | rfl) rfl ?_
              refine K_icmp_geN (tgt := 160) dX4_mayBe_153 (by decide) rfl (by first | omega | fail) (by first | omega | fail) (fun c153 => ?_) (fun c153 => ?_)
              · refine K_iconst (v := nI 0) dX4_mayBe_160 (by decide) rfl ?_
                refine K_zret dX4_mayBe_161 rfl (by first | rfl | exact bI_nar _) ?_
                first | exact ⟨rfl, rfl, true, rfl, fun z => by cases z⟩ | exact ⟨rfl, rfl, false, rfl, fun _ => ⟨b, rfl, Or.inl ⟨rfl, by omega⟩⟩⟩ | exact ⟨rfl, rfl, false, rfl, fun _ => ⟨b, rfl, Or.inr ⟨fun _ => by omega, by omega⟩⟩⟩
              · refine K_iconst (v := nI 1) dX4_mayBe_156 (by decide) rfl ?_
                refine K_goto (tgt := 161) dX4_mayBe_157 (by decide) ?_
                refine K_zret dX4_mayBe_161 rfl (by first | rfl | exact bI_nar _) ?_
                first | exact ⟨rfl, rfl, true, rfl, fun z => by cases z⟩ | exact ⟨rfl, rfl, false, rfl, fun _ => ⟨b, rfl, Or.inl ⟨rfl, by omega⟩⟩⟩ | exact ⟨rfl, rfl, false, rfl, fun _ => ⟨b, rfl, Or.inr ⟨fun _ => by omega, by omega⟩⟩⟩
        · refine K_iload dX4_mayBe_106 rfl rfl ?_
          refine K_aload_n dX4_mayBe_108 rfl rfl ?_
          refine K_getI dX4_mayBe_109 fl_X4_191 (by first | rfl | exact sk_rk (by omega) | exact sk_hh (by omega)) rfl (by first | assumption | rfl) rfl ?_
          refine K_icmp_leN (tgt := 119) dX4_mayBe_112 (by decide) rfl (by first | omega | fail) (by first | omega | fail) (fun c112 => ?_) (fun c112 => ?_)
          · refine K_iconst (v := nI 0) dX4_mayBe_119 (by decide) rfl ?_
            refine K_goto (tgt := 161) dX4_mayBe_120 (by decide) ?_
            refine K_zret dX4_mayBe_161 rfl (by first | rfl | exact bI_nar _) ?_
            first | exact ⟨rfl, rfl, true, rfl, fun z => by cases z⟩ | exact ⟨rfl, rfl, false, rfl, fun _ => ⟨b, rfl, Or.inl ⟨rfl, by omega⟩⟩⟩ | exact ⟨rfl, rfl, false, rfl, fun _ => ⟨b, rfl, Or.inr ⟨fun _ => by omega, by omega⟩⟩⟩
          · refine K_iconst (v := nI 1) dX4_mayBe_115 (by decide) rfl ?_
            refine K_goto (tgt := 161) dX4_mayBe_116 (by decide) ?_
            refine K_zret dX4_mayBe_161 rfl (by first | rfl | exact bI_nar _) ?_
            first | exact ⟨rfl, rfl, true, rfl, fun z => by cases z⟩ | exact ⟨rfl, rfl, false, rfl, fun _ => ⟨b, rfl, Or.inl ⟨rfl, by omega⟩⟩⟩ | exact ⟨rfl, rfl, false, rfl, fun _ => ⟨b, rfl, Or.inr ⟨fun _ => by omega, by omega⟩⟩⟩
      · refine K_iload dX4_mayBe_72 rfl rfl ?_
        refine K_aload_n dX4_mayBe_74 rfl rfl ?_
        refine K_getI dX4_mayBe_75 fl_X4_188 (by first | rfl | exact sk_rk (by omega) | exact sk_hh (by omega)) rfl (by first | assumption | rfl) rfl ?_
        refine K_icmp_leN (tgt := 85) dX4_mayBe_78 (by decide) rfl (by first | omega | fail) (by first | omega | fail) (fun c78 => ?_) (fun c78 => ?_)
        · refine K_iconst (v := nI 0) dX4_mayBe_85 (by decide) rfl ?_
          refine K_zret dX4_mayBe_86 rfl (by first | rfl | exact bI_nar _) ?_
          first | exact ⟨rfl, rfl, true, rfl, fun z => by cases z⟩ | exact ⟨rfl, rfl, false, rfl, fun _ => ⟨b, rfl, Or.inl ⟨rfl, by omega⟩⟩⟩ | exact ⟨rfl, rfl, false, rfl, fun _ => ⟨b, rfl, Or.inr ⟨fun _ => by omega, by omega⟩⟩⟩
        · refine K_iconst (v := nI 1) dX4_mayBe_81 (by decide) rfl ?_
          refine K_goto (tgt := 86) dX4_mayBe_82 (by decide) ?_
          refine K_zret dX4_mayBe_86 rfl (by first | rfl | exact bI_nar _) ?_
          first | exact ⟨rfl, rfl, true, rfl, fun z => by cases z⟩ | exact ⟨rfl, rfl, false, rfl, fun _ => ⟨b, rfl, Or.inl ⟨rfl, by omega⟩⟩⟩ | exact ⟨rfl, rfl, false, rfl, fun _ => ⟨b, rfl, Or.inr ⟨fun _ => by omega, by omega⟩⟩⟩
  | false =>
    refine K_aload_n dX4_mayBe_56 rfl rfl ?_
    refine K_getI dX4_mayBe_57 fl_X4_185 (by first | rfl | exact sk_rk (by omega) | exact sk_hh (by omega)) rfl (by first | assumption | rfl) rfl ?_
    refine K_if_eqB (tgt := 87) dX4_mayBe_60 (by decide) rfl (fun c60 => ?_) (fun c60 => ?_)
    · refine K_iload_n dX4_mayBe_87 rfl rfl ?_
      refine K_aload_n dX4_mayBe_88 rfl rfl ?_
      refine K_getI dX4_mayBe_89 fl_X4_87 (by first | rfl | exact sk_rk (by omega) | exact sk_hh (by omega)) rfl (by first | assumption | rfl) rfl ?_
      refine K_addN dX4_mayBe_92 rfl ?_
      refine K_iload_n dX4_mayBe_93 rfl rfl ?_
      refine K_subN dX4_mayBe_94 (by first | omega | fail) rfl ?_
      refine K_istore (lv' := [(0, _), (1, _), (2, _), (3, _), (4, _), (5, _), (6, _)]) dX4_mayBe_95 (by decide) rfl rfl ?_
      refine K_iload dX4_mayBe_97 rfl rfl ?_
      refine K_aload_n dX4_mayBe_99 rfl rfl ?_
      refine K_getI dX4_mayBe_100 fl_X4_191 (by first | rfl | exact sk_rk (by omega) | exact sk_hh (by omega)) rfl (by first | assumption | rfl) rfl ?_
      refine K_icmp_eqN (tgt := 123) dX4_mayBe_103 (by decide) rfl (by first | omega | fail) (by first | omega | fail) (fun c103 => ?_) (fun c103 => ?_)
      · refine K_iload dX4_mayBe_123 rfl rfl ?_
        refine K_aload_n dX4_mayBe_125 rfl rfl ?_
        refine K_getI dX4_mayBe_126 fl_X4_87 (by first | rfl | exact sk_rk (by omega) | exact sk_hh (by omega)) rfl (by first | assumption | rfl) rfl ?_
        refine K_addN dX4_mayBe_129 rfl ?_
        refine K_iload_n dX4_mayBe_130 rfl rfl ?_
        refine K_subN dX4_mayBe_131 (by first | omega | fail) rfl ?_
        refine K_aload_n dX4_mayBe_132 rfl rfl ?_
        refine K_getI dX4_mayBe_133 fl_X4_194 (by first | rfl | exact sk_rk (by omega) | exact sk_hh (by omega)) rfl (by first | assumption | rfl) rfl ?_
        refine K_icmp_ltN (tgt := 156) dX4_mayBe_136 (by decide) rfl (by first | omega | fail) (by first | omega | fail) (fun c136 => ?_) (fun c136 => ?_)
        · refine K_iconst (v := nI 1) dX4_mayBe_156 (by decide) rfl ?_
          refine K_goto (tgt := 161) dX4_mayBe_157 (by decide) ?_
          refine K_zret dX4_mayBe_161 rfl (by first | rfl | exact bI_nar _) ?_
          first | exact ⟨rfl, rfl, true, rfl, fun z => by cases z⟩ | exact ⟨rfl, rfl, false, rfl, fun _ => ⟨b, rfl, Or.inr ⟨(fun z => by cases z), by omega⟩⟩⟩
        · refine K_iload_n dX4_mayBe_139 rfl rfl ?_
          refine K_aload_n dX4_mayBe_140 rfl rfl ?_
          refine K_getI dX4_mayBe_141 fl_X4_87 (by first | rfl | exact sk_rk (by omega) | exact sk_hh (by omega)) rfl (by first | assumption | rfl) rfl ?_
          refine K_icmp_neN (tgt := 160) dX4_mayBe_144 (by decide) rfl (by first | omega | fail) (by first | omega | fail) (fun c144 => ?_) (fun c144 => ?_)
          · refine K_iconst (v := nI 0) dX4_mayBe_160 (by decide) rfl ?_
            refine K_zret dX4_mayBe_161 rfl (by first | rfl | exact bI_nar _) ?_
            first | exact ⟨rfl, rfl, true, rfl, fun z => by cases z⟩ | exact ⟨rfl, rfl, false, rfl, fun _ => ⟨b, rfl, Or.inr ⟨(fun z => by cases z), by omega⟩⟩⟩
          · refine K_iload dX4_mayBe_147 rfl rfl ?_
            refine K_aload_n dX4_mayBe_149 rfl rfl ?_
            refine K_getI dX4_mayBe_150 fl_X4_194 (by first | rfl | exact sk_rk (by omega) | exact sk_hh (by omega)) rfl (by first | assumption | rfl) rfl ?_
            refine K_icmp_geN (tgt := 160) dX4_mayBe_153 (by decide) rfl (by first | omega | fail) (by first | omega | fail) (fun c153 => ?_) (fun c153 => ?_)
            · refine K_iconst (v := nI 0) dX4_mayBe_160 (by decide) rfl ?_
              refine K_zret dX4_mayBe_161 rfl (by first | rfl | exact bI_nar _) ?_
              first | exact ⟨rfl, rfl, true, rfl, fun z => by cases z⟩ | exact ⟨rfl, rfl, false, rfl, fun _ => ⟨b, rfl, Or.inr ⟨(fun z => by cases z), by omega⟩⟩⟩
            · refine K_iconst (v := nI 1) dX4_mayBe_156 (by decide) rfl ?_
              refine K_goto (tgt := 161) dX4_mayBe_157 (by decide) ?_
              refine K_zret dX4_mayBe_161 rfl (by first | rfl | exact bI_nar _) ?_
              first | exact ⟨rfl, rfl, true, rfl, fun z => by cases z⟩ | exact ⟨rfl, rfl, false, rfl, fun _ => ⟨b, rfl, Or.inr ⟨(fun z => by cases z), by omega⟩⟩⟩
      · refine K_iload dX4_mayBe_106 rfl rfl ?_
        refine K_aload_n dX4_mayBe_108 rfl rfl ?_
        refine K_getI dX4_mayBe_109 fl_X4_191 (by first | rfl | exact sk_rk (by omega) | exact sk_hh (by omega)) rfl (by first | assumption | rfl) rfl ?_
        refine K_icmp_leN (tgt := 119) dX4_mayBe_112 (by decide) rfl (by first | omega | fail) (by first | omega | fail) (fun c112 => ?_) (fun c112 => ?_)
        · refine K_iconst (v := nI 0) dX4_mayBe_119 (by decide) rfl ?_
          refine K_goto (tgt := 161) dX4_mayBe_120 (by decide) ?_
          refine K_zret dX4_mayBe_161 rfl (by first | rfl | exact bI_nar _) ?_
          first | exact ⟨rfl, rfl, true, rfl, fun z => by cases z⟩ | exact ⟨rfl, rfl, false, rfl, fun _ => ⟨b, rfl, Or.inr ⟨(fun z => by cases z), by omega⟩⟩⟩
        · refine K_iconst (v := nI 1) dX4_mayBe_115 (by decide) rfl ?_
          refine K_goto (tgt := 161) dX4_mayBe_116 (by decide) ?_
          refine K_zret dX4_mayBe_161 rfl (by first | rfl | exact bI_nar _) ?_
          first | exact ⟨rfl, rfl, true, rfl, fun z => by cases z⟩ | exact ⟨rfl, rfl, false, rfl, fun _ => ⟨b, rfl, Or.inr ⟨(fun z => by cases z), by omega⟩⟩⟩
    · cases c60
theorem l_X4_mayBe {d : Nat} (hd : 1 ≤ d) {S : GS} (w : WF S) {b u : Nat → Nat} {f : Nat} {N : Mem} {K : Mej} (hf : f ≤ s_n S) (R : RY S N) (hS : StM S true (some b) N) :
    ∀ (k g v : Nat), g + k = s_n S → f ≤ g → v + cnt (s_go S) f = kpT S u f + cnt (s_go S) g → EK d mX4_mayBe (PMB S true (some b) u f N K) 15 [(0, .ref 40), (1, .int (nI f)), (2, .int (nI (kpT S u f))), (3, .int (nI (goT u f))), (4, .int (nI (rkT S u f))), (5, .int (nI v)), (6, .int (nI g))] [] N K
  | 0, g, v, e, hg, hv => by
    have hn := w.1.1
    have h7 := R.1.1
    have hge : g = s_n S := by omega
    subst hge
    have a2 := kpT_le S u f
    have a3 := cnt_le (s_go S) (s_n S)
    refine K_iload dX4_mayBe_15 rfl rfl ?_
    refine K_aload_n dX4_mayBe_17 rfl rfl ?_
    refine K_getI dX4_mayBe_18 fl_X4_87 (by first | rfl | exact sk_rk (by omega) | exact sk_hh (by omega)) rfl (by first | assumption | rfl) rfl ?_
    refine K_icmp_geN (tgt := 56) dX4_mayBe_21 (by decide) rfl (by first | omega | fail) (by first | omega | fail) (fun c21 => ?_) (fun c21 => ?_)
    · exact h56_X4_mayBe w hf R hS (fun _ => hv) (by omega)
    · omega
  | k + 1, g, v, e, hg, hv => by
    have hn := w.1.1
    have h7 := R.1.1
    have h23 := hS.2.1
    refine K_iload dX4_mayBe_15 rfl rfl ?_
    refine K_aload_n dX4_mayBe_17 rfl rfl ?_
    refine K_getI dX4_mayBe_18 fl_X4_87 (by first | rfl | exact sk_rk (by omega) | exact sk_hh (by omega)) rfl (by first | assumption | rfl) rfl ?_
    refine K_icmp_geN (tgt := 56) dX4_mayBe_21 (by decide) rfl (by first | omega | fail) (by first | omega | fail) (fun c21 => ?_) (fun c21 => ?_)
    · omega
    · refine K_aload_n dX4_mayBe_24 rfl rfl ?_
      refine K_getI dX4_mayBe_25 fl_X4_185 (by first | rfl | exact sk_rk (by omega) | exact sk_hh (by omega)) rfl (by first | assumption | rfl) rfl ?_
      refine K_if_eqB (tgt := 56) dX4_mayBe_28 (by decide) rfl (fun c28 => ?_) (fun c28 => ?_)
      · cases c28
      · refine K_iload dX4_mayBe_31 rfl rfl ?_
        refine K_aload_n dX4_mayBe_33 rfl rfl ?_
        refine K_iload dX4_mayBe_34 rfl rfl ?_
        refine K_cv (ci := 4) (d1 := d - 1) [_] dX4_mayBe_36 ml_X4_145 (by decide) rfl rfl rfl (Nat.le_of_ble_eq_true rfl) (c_X4_goesAtAll R w (by omega)) (by omega) rfl ?_
        refine K_if_eqB (tgt := 46) dX4_mayBe_39 (by decide) rfl (fun c39 => ?_) (fun c39 => ?_)
        · refine K_iconst (v := nI 0) dX4_mayBe_46 (by decide) rfl ?_
          refine K_addN dX4_mayBe_47 rfl ?_
          refine K_istore (lv' := [(0, _), (1, _), (2, _), (3, _), (4, _), (5, _), (6, _)]) dX4_mayBe_48 (by decide) rfl rfl ?_
          first | refine K_incN (lv' := [(0, _), (1, _), (2, _), (3, _), (4, _), (5, _), (6, _)]) dX4_mayBe_50 rfl (by decide) rfl rfl ?_ | refine K_iinc (lv' := [(0, _), (1, _), (2, _), (3, _), (4, _), (5, _), (6, _)]) dX4_mayBe_50 rfl rfl (by decide) rfl rfl ?_
          refine K_goto (tgt := 15) dX4_mayBe_53 (by decide) ?_
          refine l_X4_mayBe hd w hf R hS k (g + 1) _ (by omega) (by omega) ?_
          first | (rw [cnt_f c39]; omega) | (rw [cnt_t c39]; omega)
        · refine K_iconst (v := nI 1) dX4_mayBe_42 (by decide) rfl ?_
          refine K_goto (tgt := 47) dX4_mayBe_43 (by decide) ?_
          refine K_addN dX4_mayBe_47 rfl ?_
          refine K_istore (lv' := [(0, _), (1, _), (2, _), (3, _), (4, _), (5, _), (6, _)]) dX4_mayBe_48 (by decide) rfl rfl ?_
          first | refine K_incN (lv' := [(0, _), (1, _), (2, _), (3, _), (4, _), (5, _), (6, _)]) dX4_mayBe_50 rfl (by decide) rfl rfl ?_ | refine K_iinc (lv' := [(0, _), (1, _), (2, _), (3, _), (4, _), (5, _), (6, _)]) dX4_mayBe_50 rfl rfl (by decide) rfl rfl ?_
          refine K_goto (tgt := 15) dX4_mayBe_53 (by decide) ?_
          refine l_X4_mayBe hd w hf R hS k (g + 1) _ (by omega) (by omega) ?_
          first | (rw [cnt_f c39]; omega) | (rw [cnt_t c39]; omega)
set_option maxRecDepth 100000 in
theorem c_X4_mayBe {d : Nat} (hd : 1 ≤ d) {S : GS} (w : WF S) {k : Bool} {o : Option (Nat → Nat)} {u : Nat → Nat} {f : Nat} {N : Mem} {K : Mej} (hf : f ≤ s_n S) (R : RY S N) (hS : StM S k o N) :
    CK d mX4_mayBe [.ref 40, .int (nI f), .int (nI (kpT S u f)), .int (nI (goT u f)), .int (nI (rkT S u f))] N K (PMB S k o u f N K) := by
  have hn := w.1.1
  have h7 := R.1.1
  have a2 := kpT_le S u f
  have h22 := hS.1
  cases o with
  | none =>
    have h22 : N 40 22 = bI false := hS.1
    refine CK.start [(0, _), (1, _), (2, _), (3, _), (4, _)] (plainFor_of_name (by decide)) (Nat.le_of_ble_eq_true rfl) rfl ?_
    refine K_aload_n dX4_mayBe_0 rfl rfl ?_
    refine K_getI dX4_mayBe_1 fl_X4_181 (by first | rfl | exact sk_rk (by omega) | exact sk_hh (by omega)) rfl (by first | assumption | rfl) rfl ?_
    refine K_if_neB (tgt := 9) dX4_mayBe_4 (by decide) rfl (fun c4 => ?_) (fun c4 => ?_)
    · cases c4
    · refine K_iconst (v := nI 1) dX4_mayBe_7 (by decide) rfl ?_
      refine K_zret dX4_mayBe_8 rfl (by first | rfl | exact bI_nar _) ?_
      exact ⟨rfl, rfl, true, rfl, fun z => by cases z⟩
  | some b =>
    have h22 : N 40 22 = bI true := hS.1
    have h23 := hS.2.1
    cases k with
    | true =>
      refine CK.start [(0, _), (1, _), (2, _), (3, _), (4, _)] (plainFor_of_name (by decide)) (Nat.le_of_ble_eq_true rfl) rfl ?_
      refine K_aload_n dX4_mayBe_0 rfl rfl ?_
      refine K_getI dX4_mayBe_1 fl_X4_181 (by first | rfl | exact sk_rk (by omega) | exact sk_hh (by omega)) rfl (by first | assumption | rfl) rfl ?_
      refine K_if_neB (tgt := 9) dX4_mayBe_4 (by decide) rfl (fun c4 => ?_) (fun c4 => ?_)
      · refine K_iload_n dX4_mayBe_9 rfl rfl ?_
        refine K_istore (lv' := [(0, _), (1, _), (2, _), (3, _), (4, _), (5, _)]) dX4_mayBe_10 (by decide) rfl rfl ?_
        refine K_iload_n dX4_mayBe_12 rfl rfl ?_
        refine K_istore (lv' := [(0, _), (1, _), (2, _), (3, _), (4, _), (5, _), (6, _)]) dX4_mayBe_13 (by decide) rfl rfl ?_
        exact l_X4_mayBe hd w hf R hS (s_n S - f) f (kpT S u f) (by omega) (Nat.le_refl f) rfl
      · cases c4
    | false =>
      refine CK.start [(0, _), (1, _), (2, _), (3, _), (4, _)] (plainFor_of_name (by decide)) (Nat.le_of_ble_eq_true rfl) rfl ?_
      refine K_aload_n dX4_mayBe_0 rfl rfl ?_
      refine K_getI dX4_mayBe_1 fl_X4_181 (by first | rfl | exact sk_rk (by omega) | exact sk_hh (by omega)) rfl (by first | assumption | rfl) rfl ?_
      refine K_if_neB (tgt := 9) dX4_mayBe_4 (by decide) rfl (fun c4 => ?_) (fun c4 => ?_)
      · refine K_iload_n dX4_mayBe_9 rfl rfl ?_
        refine K_istore (lv' := [(0, _), (1, _), (2, _), (3, _), (4, _), (5, _)]) dX4_mayBe_10 (by decide) rfl rfl ?_
        refine K_iload_n dX4_mayBe_12 rfl rfl ?_
        refine K_istore (lv' := [(0, _), (1, _), (2, _), (3, _), (4, _), (5, _), (6, _)]) dX4_mayBe_13 (by decide) rfl rfl ?_
        refine K_iload dX4_mayBe_15 rfl rfl ?_
        refine K_aload_n dX4_mayBe_17 rfl rfl ?_
        refine K_getI dX4_mayBe_18 fl_X4_87 (by first | rfl | exact sk_rk (by omega) | exact sk_hh (by omega)) rfl (by first | assumption | rfl) rfl ?_
        refine K_icmp_geN (tgt := 56) dX4_mayBe_21 (by decide) rfl (by first | omega | fail) (by first | omega | fail) (fun c21 => ?_) (fun c21 => ?_)
        · exact h56_X4_mayBe w hf R hS (fun z => by cases z) (by omega)
        · refine K_aload_n dX4_mayBe_24 rfl rfl ?_
          refine K_getI dX4_mayBe_25 fl_X4_185 (by first | rfl | exact sk_rk (by omega) | exact sk_hh (by omega)) rfl (by first | assumption | rfl) rfl ?_
          refine K_if_eqB (tgt := 56) dX4_mayBe_28 (by decide) rfl (fun c28 => ?_) (fun c28 => ?_)
          · exact h56_X4_mayBe w hf R hS (fun z => by cases z) (by omega)
          · cases c28
      · cases c4
def GFb (N N1 : Mem) : Prop := (∀ i, i ≠ 40 → i ≠ 60 → i ≠ 61 → N1 i = N i) ∧ ∀ j, j ≠ 22 → j ≠ 24 → j ≠ 25 → j ≠ 26 → N1 40 j = N 40 j
theorem GFb.rf (N : Mem) : GFb N N := ⟨fun _ _ _ _ => rfl, fun _ _ _ _ _ => rfl⟩
theorem GFb.trans {N N1 N2 : Mem} (h : GFb N N1) (h2 : GFb N1 N2) : GFb N N2 := ⟨fun i a b c => (h2.1 i a b c).trans (h.1 i a b c), fun j a b c e => (h2.2 j a b c e).trans (h.2 j a b c e)⟩
theorem GFb.set {N N1 : Mem} (h : GFb N N1) {a k : Nat} {v : Int32} (ha : a = 60 ∨ a = 61 ∨ (a = 40 ∧ (k = 22 ∨ k = 24 ∨ k = 25 ∨ k = 26))) : GFb N (sM N1 a k v) := ⟨fun i h1 h2 h3 => (sM_row (by omega)).trans (h.1 i h1 h2 h3), fun j h1 h2 h3 h4 => (sM_ne (by omega)).trans (h.2 j h1 h2 h3 h4)⟩
theorem RY.gfb {S : GS} {N N1 : Mem} (R : RY S N) (h : GFb N N1) : RY S N1 := R.frame (fun k _ hk => h.2 k (by omega) (by omega) (by omega) (by omega)) (fun i hi => h.1 i (by omega) (by omega) (by omega))
theorem GFb.fy {N N1 : Mem} (h : GFb N N1) : FY N N1 := fun i hi => h.1 i (by omega) (by omega) (by omega)
theorem l_X4_offers {d : Nat} {S : GS} (w : WF S) {k : Bool} {u : Nat → Nat} {N : Mem} {K : Mej} {Post : PK} {x1 x2 x3 x4 : Int32} (R : RY S N) (hT : TR S u (s_n S) N) (h22 : N 40 22 = bI true) (h23 : N 40 23 = bI k) (h24 : N 40 24 = nI (kpT S u (s_n S))) (h25 : N 40 25 = nI (goT u (s_n S))) (h26 : N 40 26 = nI (rkT S u (s_n S)))
    (hP : ∀ N1, (∀ i, i ≠ 61 → N1 i = N i) → StM S k (some u) N1 → Post none N1 K) :
    ∀ (kk i : Nat) (N1 : Mem), i + kk = s_n S → (∀ i, i ≠ 61 → N1 i = N i) → (∀ g, g < i → N1 61 g = oI (pv (s_n S) u g)) → EK d mX4_offers Post 109 [(0, .ref 40), (1, .int x1), (2, .int x2), (3, .int x3), (4, .int x4), (5, .int (nI i))] [] N1 K
  | 0, i, N1, e, hF, hC => by
    have hn := w.1.1
    have hi : i = s_n S := by omega
    subst hi
    have h40 := hF 40 (by decide)
    have h7 : N1 40 1 = nI (s_n S) := by rw [h40]; exact R.1.1
    refine K_iload dX4_offers_109 rfl rfl ?_
    refine K_aload_n dX4_offers_111 rfl rfl ?_
    refine K_getI dX4_offers_112 fl_X4_87 (by first | rfl | exact sk_rk (by omega) | exact sk_hh (by omega)) rfl (by first | assumption | rfl) rfl ?_
    refine K_icmp_geN (tgt := 154) dX4_offers_115 (by decide) rfl (by first | omega | fail) (by first | omega | fail) (fun c115 => ?_) (fun c115 => ?_)
    · refine K_ret dX4_offers_154 rfl ?_
      exact hP N1 hF ⟨by rw [h40]; exact h22, by rw [h40]; exact h23, fun b hb => by cases hb; rw [h40]; exact ⟨h24, h25, h26, hC⟩⟩
    · omega
  | kk + 1, i, N1, e, hF, hC => by
    have hn := w.1.1
    have h40 := hF 40 (by decide)
    have h7 : N1 40 1 = nI (s_n S) := by rw [h40]; exact R.1.1
    have h60 : N1 60 i = nI (u i) := by rw [hF 60 (by decide)]; exact (hT i (by omega)).1
    have l6 := (hT i (by omega)).2
    have nx : ∀ v, v = oI (pv (s_n S) u i) → EK d mX4_offers Post 109 [(0, .ref 40), (1, .int x1), (2, .int x2), (3, .int x3), (4, .int x4), (5, .int (nI (i + 1)))] [] (sM N1 61 i v) K := fun v hv =>
      l_X4_offers w R hT h22 h23 h24 h25 h26 hP kk (i + 1) (sM N1 61 i v) (by omega) (fun r hr => (sM_row hr).trans (hF r hr)) (fun g hg => by
        rw [sM_at]
        by_cases e3 : g = i
        · rw [if_pos ⟨rfl, e3⟩, e3]; exact hv
        · rw [if_neg (by omega)]; exact hC g (by omega))
    have ep : pv (s_n S) u i = if u i = i then none else some (u i) := if_pos (by omega)
    refine K_iload dX4_offers_109 rfl rfl ?_
    refine K_aload_n dX4_offers_111 rfl rfl ?_
    refine K_getI dX4_offers_112 fl_X4_87 (by first | rfl | exact sk_rk (by omega) | exact sk_hh (by omega)) rfl (by first | assumption | rfl) rfl ?_
    refine K_icmp_geN (tgt := 154) dX4_offers_115 (by decide) rfl (by first | omega | fail) (by first | omega | fail) (fun c115 => ?_) (fun c115 => ?_)
    · omega
    · refine K_aload_n dX4_offers_118 rfl rfl ?_
      refine K_getR (r := 61) dX4_offers_119 fl_X4_63 rfl rfl rfl rfl ?_
      refine K_iload dX4_offers_122 rfl rfl ?_
      refine K_aload_n dX4_offers_124 rfl rfl ?_
      refine K_getR (r := 60) dX4_offers_125 fl_X4_60 rfl rfl rfl rfl ?_
      refine K_iload dX4_offers_128 rfl rfl ?_
      refine K_iald dX4_offers_130 (by first | rfl | exact sk_rk (by omega) | exact sk_hh (by omega)) (by first | omega | fail) (by decide) (by first | assumption | rfl) rfl ?_
      refine K_iload dX4_offers_131 rfl rfl ?_
      refine K_icmp_neN (tgt := 140) dX4_offers_133 (by decide) rfl (by first | omega | fail) (by first | omega | fail) (fun c133 => ?_) (fun c133 => ?_)
      · refine K_aload_n dX4_offers_140 rfl rfl ?_
        refine K_getR (r := 60) dX4_offers_141 fl_X4_60 rfl rfl rfl rfl ?_
        refine K_iload dX4_offers_144 rfl rfl ?_
        refine K_iald dX4_offers_146 (by first | rfl | exact sk_rk (by omega) | exact sk_hh (by omega)) (by first | omega | fail) (by decide) (by first | assumption | rfl) rfl ?_
        refine K_iast dX4_offers_147 (by first | rfl | exact sk_rk (by omega) | exact sk_hh (by omega)) (by first | omega | fail) (by decide) rfl ?_
        first | refine K_incN (lv' := [(0, _), (1, _), (2, _), (3, _), (4, _), (5, _)]) dX4_offers_148 rfl (by decide) rfl rfl ?_ | refine K_iinc (lv' := [(0, _), (1, _), (2, _), (3, _), (4, _), (5, _)]) dX4_offers_148 rfl rfl (by decide) rfl rfl ?_
        refine K_goto (tgt := 109) dX4_offers_151 (by decide) ?_
        first | (refine nx _ ?_; rw [ep, if_neg c133]; rfl) | (refine nx _ ?_; rw [ep, if_pos c133]; rfl)
      · refine K_iconst (v := (-1)) dX4_offers_136 (by decide) rfl ?_
        refine K_goto (tgt := 147) dX4_offers_137 (by decide) ?_
        refine K_iast dX4_offers_147 (by first | rfl | exact sk_rk (by omega) | exact sk_hh (by omega)) (by first | omega | fail) (by decide) rfl ?_
        first | refine K_incN (lv' := [(0, _), (1, _), (2, _), (3, _), (4, _), (5, _)]) dX4_offers_148 rfl (by decide) rfl rfl ?_ | refine K_iinc (lv' := [(0, _), (1, _), (2, _), (3, _), (4, _), (5, _)]) dX4_offers_148 rfl rfl (by decide) rfl rfl ?_
        refine K_goto (tgt := 109) dX4_offers_151 (by decide) ?_
        first | (refine nx _ ?_; rw [ep, if_neg c133]; rfl) | (refine nx _ ?_; rw [ep, if_pos c133]; rfl)
set_option maxRecDepth 100000 in
theorem c_X4_offers {d : Nat} {S : GS} (w : WF S) {k : Bool} {o : Option (Nat → Nat)} {u : Nat → Nat} {N : Mem} {K : Mej} (R : RY S N) (hS : StM S k o N) (hT : TR S u (s_n S) N) (hu : VP S u) (ho : ∀ b, o = some b → VP S b) :
    CK d mX4_offers [.ref 40, .int (nI (kpT S u (s_n S))), .int (nI (goT u (s_n S))), .int (nI (rkT S u (s_n S)))] N K (fun r N1 K1 => r = none ∧ K1 = K ∧ GFb N N1 ∧ N1 60 = N 60 ∧ ((∃ b, o = some b ∧ mer S k u ≤ mer S k b ∧ StM S k o N1) ∨ ((∀ b, o = some b → mer S k b < mer S k u) ∧ StM S k (some u) N1))) := by
  have hn := w.1.1
  have h7 := R.1.1
  have b1 := goT_le u (s_n S)
  have b2 := kpT_le S u (s_n S)
  have b3 := rkT_le w (t := u) (s_n S) hn
  have h23 := hS.2.1
  have F1 : GFb N (sM (sM (sM (sM N 40 22 (nI 1)) 40 24 (nI (kpT S u (s_n S)))) 40 25 (nI (goT u (s_n S)))) 40 26 (nI (rkT S u (s_n S)))) := ((((GFb.rf N).set (by omega)).set (by omega)).set (by omega)).set (by omega)
  have R1 := R.gfb F1
  have T1 : TR S u (s_n S) (sM (sM (sM (sM N 40 22 (nI 1)) 40 24 (nI (kpT S u (s_n S)))) 40 25 (nI (goT u (s_n S)))) 40 26 (nI (rkT S u (s_n S)))) := fun g hg => by
    rw [sM_row (by decide), sM_row (by decide), sM_row (by decide), sM_row (by decide)]
    exact hT g hg
  have fin : (∀ b, o = some b → mer S k b < mer S k u) → ∀ x4 : Int32, EK d mX4_offers (fun r N1 K1 => r = none ∧ K1 = K ∧ GFb N N1 ∧ N1 60 = N 60 ∧ ((∃ b, o = some b ∧ mer S k u ≤ mer S k b ∧ StM S k o N1) ∨ ((∀ b, o = some b → mer S k b < mer S k u) ∧ StM S k (some u) N1))) 109 [(0, .ref 40), (1, .int (nI (kpT S u (s_n S)))), (2, .int (nI (goT u (s_n S)))), (3, .int (nI (rkT S u (s_n S)))), (4, .int x4), (5, .int (nI 0))] [] (sM (sM (sM (sM N 40 22 (nI 1)) 40 24 (nI (kpT S u (s_n S)))) 40 25 (nI (goT u (s_n S)))) 40 26 (nI (rkT S u (s_n S)))) K := fun hb x4 =>
    l_X4_offers w R1 T1 (by rw [sM_ne (Or.inr (by decide)), sM_ne (Or.inr (by decide)), sM_ne (Or.inr (by decide))]; exact sM_eq _ _ _ _) (by rw [sM_ne (Or.inr (by decide)), sM_ne (Or.inr (by decide)), sM_ne (Or.inr (by decide)), sM_ne (Or.inr (by decide))]; exact h23) (by rw [sM_ne (Or.inr (by decide)), sM_ne (Or.inr (by decide))]; exact sM_eq _ _ _ _) (by rw [sM_ne (Or.inr (by decide))]; exact sM_eq _ _ _ _) (sM_eq _ _ _ _)
      (fun N1 y1 y2 => ⟨rfl, rfl, F1.trans ⟨fun i h1 h2 h3 => y1 i h3, fun j _ _ _ _ => by rw [y1 40 (by decide)]⟩, by rw [y1 60 (by decide), sM_row (by decide), sM_row (by decide), sM_row (by decide), sM_row (by decide)], Or.inr ⟨hb, y2⟩⟩) (s_n S) 0 _ (by omega) (fun _ _ => rfl) (fun g hg => absurd hg (Nat.not_lt_zero g))
  cases o with
  | none =>
    have h22 : N 40 22 = bI false := hS.1
    refine CK.start [(0, _), (1, _), (2, _), (3, _)] (plainFor_of_name (by decide)) (Nat.le_of_ble_eq_true rfl) rfl ?_
    refine K_aload_n dX4_offers_0 rfl rfl ?_
    refine K_getI dX4_offers_1 fl_X4_181 (by first | rfl | exact sk_rk (by omega) | exact sk_hh (by omega)) rfl (by first | assumption | rfl) rfl ?_
    refine K_if_eqB (tgt := 22) dX4_offers_4 (by decide) rfl (fun c4 => ?_) (fun c4 => ?_)
    · refine K_iconst (v := nI 1) dX4_offers_22 (by decide) rfl ?_
      refine K_goto (tgt := 27) dX4_offers_23 (by decide) ?_
      refine K_istore (lv' := [(0, _), (1, _), (2, _), (3, _), (4, _)]) dX4_offers_27 (by decide) rfl rfl ?_
      refine K_iload dX4_offers_29 rfl rfl ?_
      refine K_if_neN (tgt := 80) dX4_offers_31 (by decide) rfl (by first | omega | fail) (fun c31 => ?_) (fun c31 => ?_)
      · refine K_iload dX4_offers_80 rfl rfl ?_
        refine K_if_neN (tgt := 86) dX4_offers_82 (by decide) rfl (by first | omega | fail) (fun c82 => ?_) (fun c82 => ?_)
        · refine K_aload_n dX4_offers_86 rfl rfl ?_
          refine K_iconst (v := nI 1) dX4_offers_87 (by decide) rfl ?_
          refine K_putZ dX4_offers_88 fl_X4_181 (by first | rfl | exact sk_rk (by omega) | exact sk_hh (by omega)) rfl rfl rfl (by first | exact bI_01 _ | exact Or.inl rfl | exact Or.inr rfl | assumption) rfl ?_
          refine K_aload_n dX4_offers_91 rfl rfl ?_
          refine K_iload_n dX4_offers_92 rfl rfl ?_
          refine K_putI dX4_offers_93 fl_X4_188 (by first | rfl | exact sk_rk (by omega) | exact sk_hh (by omega)) rfl rfl rfl rfl ?_
          refine K_aload_n dX4_offers_96 rfl rfl ?_
          refine K_iload_n dX4_offers_97 rfl rfl ?_
          refine K_putI dX4_offers_98 fl_X4_191 (by first | rfl | exact sk_rk (by omega) | exact sk_hh (by omega)) rfl rfl rfl rfl ?_
          refine K_aload_n dX4_offers_101 rfl rfl ?_
          refine K_iload_n dX4_offers_102 rfl rfl ?_
          refine K_putI dX4_offers_103 fl_X4_194 (by first | rfl | exact sk_rk (by omega) | exact sk_hh (by omega)) rfl rfl rfl rfl ?_
          refine K_iconst (v := nI 0) dX4_offers_106 (by decide) rfl ?_
          refine K_istore (lv' := [(0, _), (1, _), (2, _), (3, _), (4, _), (5, _)]) dX4_offers_107 (by decide) rfl rfl ?_
          exact fin (fun b hb => by cases hb) _
        · omega
      · omega
    · cases c4
  | some b =>
    have h22 : N 40 22 = bI true := hS.1
    obtain ⟨h24, h25, h26, -⟩ := hS.2.2 b rfl
    have a4 := goT_le b (s_n S)
    have a5 := kpT_le S b (s_n S)
    have a6 := rkT_le w (t := b) (s_n S) hn
    have hbt := better w (k := k) hu (ho b rfl)
    have yes : mer S k b < mer S k u → ∀ b2, some b = some b2 → mer S k b2 < mer S k u := fun h b2 e => by cases e; exact h
    cases k with
    | true =>
      simp only [true_and, forall_const] at hbt
      refine CK.start [(0, _), (1, _), (2, _), (3, _)] (plainFor_of_name (by decide)) (Nat.le_of_ble_eq_true rfl) rfl ?_
      refine K_aload_n dX4_offers_0 rfl rfl ?_
      refine K_getI dX4_offers_1 fl_X4_181 (by first | rfl | exact sk_rk (by omega) | exact sk_hh (by omega)) rfl (by first | assumption | rfl) rfl ?_
      refine K_if_eqB (tgt := 22) dX4_offers_4 (by decide) rfl (fun c4 => ?_) (fun c4 => ?_)
      · cases c4
      · refine K_aload_n dX4_offers_7 rfl rfl ?_
        refine K_getI dX4_offers_8 fl_X4_185 (by first | rfl | exact sk_rk (by omega) | exact sk_hh (by omega)) rfl (by first | assumption | rfl) rfl ?_
        refine K_if_eqB (tgt := 26) dX4_offers_11 (by decide) rfl (fun c11 => ?_) (fun c11 => ?_)
        · cases c11
        · refine K_iload_n dX4_offers_14 rfl rfl ?_
          refine K_aload_n dX4_offers_15 rfl rfl ?_
          refine K_getI dX4_offers_16 fl_X4_188 (by first | rfl | exact sk_rk (by omega) | exact sk_hh (by omega)) rfl (by first | assumption | rfl) rfl ?_
          refine K_icmp_leN (tgt := 26) dX4_offers_19 (by decide) rfl (by first | omega | fail) (by first | omega | fail) (fun c19 => ?_) (fun c19 => ?_)
          · refine K_iconst (v := nI 0) dX4_offers_26 (by decide) rfl ?_
            refine K_istore (lv' := [(0, _), (1, _), (2, _), (3, _), (4, _)]) dX4_offers_27 (by decide) rfl rfl ?_
            refine K_iload dX4_offers_29 rfl rfl ?_
            refine K_if_neN (tgt := 80) dX4_offers_31 (by decide) rfl (by first | omega | fail) (fun c31 => ?_) (fun c31 => ?_)
            · refine K_iload dX4_offers_80 rfl rfl ?_
              refine K_if_neN (tgt := 86) dX4_offers_82 (by decide) rfl (by first | omega | fail) (fun c82 => ?_) (fun c82 => ?_)
              · refine K_aload_n dX4_offers_86 rfl rfl ?_
                refine K_iconst (v := nI 1) dX4_offers_87 (by decide) rfl ?_
                refine K_putZ dX4_offers_88 fl_X4_181 (by first | rfl | exact sk_rk (by omega) | exact sk_hh (by omega)) rfl rfl rfl (by first | exact bI_01 _ | exact Or.inl rfl | exact Or.inr rfl | assumption) rfl ?_
                refine K_aload_n dX4_offers_91 rfl rfl ?_
                refine K_iload_n dX4_offers_92 rfl rfl ?_
                refine K_putI dX4_offers_93 fl_X4_188 (by first | rfl | exact sk_rk (by omega) | exact sk_hh (by omega)) rfl rfl rfl rfl ?_
                refine K_aload_n dX4_offers_96 rfl rfl ?_
                refine K_iload_n dX4_offers_97 rfl rfl ?_
                refine K_putI dX4_offers_98 fl_X4_191 (by first | rfl | exact sk_rk (by omega) | exact sk_hh (by omega)) rfl rfl rfl rfl ?_
                refine K_aload_n dX4_offers_101 rfl rfl ?_
                refine K_iload_n dX4_offers_102 rfl rfl ?_
                refine K_putI dX4_offers_103 fl_X4_194 (by first | rfl | exact sk_rk (by omega) | exact sk_hh (by omega)) rfl rfl rfl rfl ?_
                refine K_iconst (v := nI 0) dX4_offers_106 (by decide) rfl ?_
                refine K_istore (lv' := [(0, _), (1, _), (2, _), (3, _), (4, _), (5, _)]) dX4_offers_107 (by decide) rfl rfl ?_
                first | (exfalso; omega) | exact fin (yes (by omega)) _
              · refine K_ret dX4_offers_85 rfl ?_
                first | (exfalso; omega) | exact ⟨rfl, rfl, GFb.rf N, rfl, Or.inl ⟨b, rfl, by omega, hS⟩⟩
            · refine K_aload_n dX4_offers_34 rfl rfl ?_
              refine K_getI dX4_offers_35 fl_X4_185 (by first | rfl | exact sk_rk (by omega) | exact sk_hh (by omega)) rfl (by first | assumption | rfl) rfl ?_
              refine K_if_eqB (tgt := 49) dX4_offers_38 (by decide) rfl (fun c38 => ?_) (fun c38 => ?_)
              · cases c38
              · refine K_iload_n dX4_offers_41 rfl rfl ?_
                refine K_aload_n dX4_offers_42 rfl rfl ?_
                refine K_getI dX4_offers_43 fl_X4_188 (by first | rfl | exact sk_rk (by omega) | exact sk_hh (by omega)) rfl (by first | assumption | rfl) rfl ?_
                refine K_icmp_neN (tgt := 80) dX4_offers_46 (by decide) rfl (by first | omega | fail) (by first | omega | fail) (fun c46 => ?_) (fun c46 => ?_)
                · refine K_iload dX4_offers_80 rfl rfl ?_
                  refine K_if_neN (tgt := 86) dX4_offers_82 (by decide) rfl (by first | omega | fail) (fun c82 => ?_) (fun c82 => ?_)
                  · refine K_aload_n dX4_offers_86 rfl rfl ?_
                    refine K_iconst (v := nI 1) dX4_offers_87 (by decide) rfl ?_
                    refine K_putZ dX4_offers_88 fl_X4_181 (by first | rfl | exact sk_rk (by omega) | exact sk_hh (by omega)) rfl rfl rfl (by first | exact bI_01 _ | exact Or.inl rfl | exact Or.inr rfl | assumption) rfl ?_
                    refine K_aload_n dX4_offers_91 rfl rfl ?_
                    refine K_iload_n dX4_offers_92 rfl rfl ?_
                    refine K_putI dX4_offers_93 fl_X4_188 (by first | rfl | exact sk_rk (by omega) | exact sk_hh (by omega)) rfl rfl rfl rfl ?_
                    refine K_aload_n dX4_offers_96 rfl rfl ?_
                    refine K_iload_n dX4_offers_97 rfl rfl ?_
                    refine K_putI dX4_offers_98 fl_X4_191 (by first | rfl | exact sk_rk (by omega) | exact sk_hh (by omega)) rfl rfl rfl rfl ?_
                    refine K_aload_n dX4_offers_101 rfl rfl ?_
                    refine K_iload_n dX4_offers_102 rfl rfl ?_
                    refine K_putI dX4_offers_103 fl_X4_194 (by first | rfl | exact sk_rk (by omega) | exact sk_hh (by omega)) rfl rfl rfl rfl ?_
                    refine K_iconst (v := nI 0) dX4_offers_106 (by decide) rfl ?_
                    refine K_istore (lv' := [(0, _), (1, _), (2, _), (3, _), (4, _), (5, _)]) dX4_offers_107 (by decide) rfl rfl ?_
                    first | (exfalso; omega) | exact fin (yes (by omega)) _
                  · refine K_ret dX4_offers_85 rfl ?_
                    first | (exfalso; omega) | exact ⟨rfl, rfl, GFb.rf N, rfl, Or.inl ⟨b, rfl, by omega, hS⟩⟩
                · refine K_iload_n dX4_offers_49 rfl rfl ?_
                  refine K_aload_n dX4_offers_50 rfl rfl ?_
                  refine K_getI dX4_offers_51 fl_X4_191 (by first | rfl | exact sk_rk (by omega) | exact sk_hh (by omega)) rfl (by first | assumption | rfl) rfl ?_
                  refine K_icmp_gtN (tgt := 73) dX4_offers_54 (by decide) rfl (by first | omega | fail) (by first | omega | fail) (fun c54 => ?_) (fun c54 => ?_)
                  · refine K_iconst (v := nI 1) dX4_offers_73 (by decide) rfl ?_
                    refine K_goto (tgt := 78) dX4_offers_74 (by decide) ?_
                    refine K_istore (lv' := [(0, _), (1, _), (2, _), (3, _), (4, _)]) dX4_offers_78 (by decide) rfl rfl ?_
                    refine K_iload dX4_offers_80 rfl rfl ?_
                    refine K_if_neN (tgt := 86) dX4_offers_82 (by decide) rfl (by first | omega | fail) (fun c82 => ?_) (fun c82 => ?_)
                    · refine K_aload_n dX4_offers_86 rfl rfl ?_
                      refine K_iconst (v := nI 1) dX4_offers_87 (by decide) rfl ?_
                      refine K_putZ dX4_offers_88 fl_X4_181 (by first | rfl | exact sk_rk (by omega) | exact sk_hh (by omega)) rfl rfl rfl (by first | exact bI_01 _ | exact Or.inl rfl | exact Or.inr rfl | assumption) rfl ?_
                      refine K_aload_n dX4_offers_91 rfl rfl ?_
                      refine K_iload_n dX4_offers_92 rfl rfl ?_
                      refine K_putI dX4_offers_93 fl_X4_188 (by first | rfl | exact sk_rk (by omega) | exact sk_hh (by omega)) rfl rfl rfl rfl ?_
                      refine K_aload_n dX4_offers_96 rfl rfl ?_
                      refine K_iload_n dX4_offers_97 rfl rfl ?_
                      refine K_putI dX4_offers_98 fl_X4_191 (by first | rfl | exact sk_rk (by omega) | exact sk_hh (by omega)) rfl rfl rfl rfl ?_
                      refine K_aload_n dX4_offers_101 rfl rfl ?_
                      refine K_iload_n dX4_offers_102 rfl rfl ?_
                      refine K_putI dX4_offers_103 fl_X4_194 (by first | rfl | exact sk_rk (by omega) | exact sk_hh (by omega)) rfl rfl rfl rfl ?_
                      refine K_iconst (v := nI 0) dX4_offers_106 (by decide) rfl ?_
                      refine K_istore (lv' := [(0, _), (1, _), (2, _), (3, _), (4, _), (5, _)]) dX4_offers_107 (by decide) rfl rfl ?_
                      first | (exfalso; omega) | exact fin (yes (by omega)) _
                    · refine K_ret dX4_offers_85 rfl ?_
                      first | (exfalso; omega) | exact ⟨rfl, rfl, GFb.rf N, rfl, Or.inl ⟨b, rfl, by omega, hS⟩⟩
                  · refine K_iload_n dX4_offers_57 rfl rfl ?_
                    refine K_aload_n dX4_offers_58 rfl rfl ?_
                    refine K_getI dX4_offers_59 fl_X4_191 (by first | rfl | exact sk_rk (by omega) | exact sk_hh (by omega)) rfl (by first | assumption | rfl) rfl ?_
                    refine K_icmp_neN (tgt := 77) dX4_offers_62 (by decide) rfl (by first | omega | fail) (by first | omega | fail) (fun c62 => ?_) (fun c62 => ?_)
                    · refine K_iconst (v := nI 0) dX4_offers_77 (by decide) rfl ?_
                      refine K_istore (lv' := [(0, _), (1, _), (2, _), (3, _), (4, _)]) dX4_offers_78 (by decide) rfl rfl ?_
                      refine K_iload dX4_offers_80 rfl rfl ?_
                      refine K_if_neN (tgt := 86) dX4_offers_82 (by decide) rfl (by first | omega | fail) (fun c82 => ?_) (fun c82 => ?_)
                      · refine K_aload_n dX4_offers_86 rfl rfl ?_
                        refine K_iconst (v := nI 1) dX4_offers_87 (by decide) rfl ?_
                        refine K_putZ dX4_offers_88 fl_X4_181 (by first | rfl | exact sk_rk (by omega) | exact sk_hh (by omega)) rfl rfl rfl (by first | exact bI_01 _ | exact Or.inl rfl | exact Or.inr rfl | assumption) rfl ?_
                        refine K_aload_n dX4_offers_91 rfl rfl ?_
                        refine K_iload_n dX4_offers_92 rfl rfl ?_
                        refine K_putI dX4_offers_93 fl_X4_188 (by first | rfl | exact sk_rk (by omega) | exact sk_hh (by omega)) rfl rfl rfl rfl ?_
                        refine K_aload_n dX4_offers_96 rfl rfl ?_
                        refine K_iload_n dX4_offers_97 rfl rfl ?_
                        refine K_putI dX4_offers_98 fl_X4_191 (by first | rfl | exact sk_rk (by omega) | exact sk_hh (by omega)) rfl rfl rfl rfl ?_
                        refine K_aload_n dX4_offers_101 rfl rfl ?_
                        refine K_iload_n dX4_offers_102 rfl rfl ?_
                        refine K_putI dX4_offers_103 fl_X4_194 (by first | rfl | exact sk_rk (by omega) | exact sk_hh (by omega)) rfl rfl rfl rfl ?_
                        refine K_iconst (v := nI 0) dX4_offers_106 (by decide) rfl ?_
                        refine K_istore (lv' := [(0, _), (1, _), (2, _), (3, _), (4, _), (5, _)]) dX4_offers_107 (by decide) rfl rfl ?_
                        first | (exfalso; omega) | exact fin (yes (by omega)) _
                      · refine K_ret dX4_offers_85 rfl ?_
                        first | (exfalso; omega) | exact ⟨rfl, rfl, GFb.rf N, rfl, Or.inl ⟨b, rfl, by omega, hS⟩⟩
                    · refine K_iload_n dX4_offers_65 rfl rfl ?_
                      refine K_aload_n dX4_offers_66 rfl rfl ?_
                      refine K_getI dX4_offers_67 fl_X4_194 (by first | rfl | exact sk_rk (by omega) | exact sk_hh (by omega)) rfl (by first | assumption | rfl) rfl ?_
                      refine K_icmp_geN (tgt := 77) dX4_offers_70 (by decide) rfl (by first | omega | fail) (by first | omega | fail) (fun c70 => ?_) (fun c70 => ?_)
                      · refine K_iconst (v := nI 0) dX4_offers_77 (by decide) rfl ?_
                        refine K_istore (lv' := [(0, _), (1, _), (2, _), (3, _), (4, _)]) dX4_offers_78 (by decide) rfl rfl ?_
                        refine K_iload dX4_offers_80 rfl rfl ?_
                        refine K_if_neN (tgt := 86) dX4_offers_82 (by decide) rfl (by first | omega | fail) (fun c82 => ?_) (fun c82 => ?_)
                        · refine K_aload_n dX4_offers_86 rfl rfl ?_
                          refine K_iconst (v := nI 1) dX4_offers_87 (by decide) rfl ?_
                          refine K_putZ dX4_offers_88 fl_X4_181 (by first | rfl | exact sk_rk (by omega) | exact sk_hh (by omega)) rfl rfl rfl (by first | exact bI_01 _ | exact Or.inl rfl | exact Or.inr rfl | assumption) rfl ?_
                          refine K_aload_n dX4_offers_91 rfl rfl ?_
                          refine K_iload_n dX4_offers_92 rfl rfl ?_
                          refine K_putI dX4_offers_93 fl_X4_188 (by first | rfl | exact sk_rk (by omega) | exact sk_hh (by omega)) rfl rfl rfl rfl ?_
                          refine K_aload_n dX4_offers_96 rfl rfl ?_
                          refine K_iload_n dX4_offers_97 rfl rfl ?_
                          refine K_putI dX4_offers_98 fl_X4_191 (by first | rfl | exact sk_rk (by omega) | exact sk_hh (by omega)) rfl rfl rfl rfl ?_
                          refine K_aload_n dX4_offers_101 rfl rfl ?_
                          refine K_iload_n dX4_offers_102 rfl rfl ?_
                          refine K_putI dX4_offers_103 fl_X4_194 (by first | rfl | exact sk_rk (by omega) | exact sk_hh (by omega)) rfl rfl rfl rfl ?_
                          refine K_iconst (v := nI 0) dX4_offers_106 (by decide) rfl ?_
                          refine K_istore (lv' := [(0, _), (1, _), (2, _), (3, _), (4, _), (5, _)]) dX4_offers_107 (by decide) rfl rfl ?_
                          first | (exfalso; omega) | exact fin (yes (by omega)) _
                        · refine K_ret dX4_offers_85 rfl ?_
                          first | (exfalso; omega) | exact ⟨rfl, rfl, GFb.rf N, rfl, Or.inl ⟨b, rfl, by omega, hS⟩⟩
                      · refine K_iconst (v := nI 1) dX4_offers_73 (by decide) rfl ?_
                        refine K_goto (tgt := 78) dX4_offers_74 (by decide) ?_
                        refine K_istore (lv' := [(0, _), (1, _), (2, _), (3, _), (4, _)]) dX4_offers_78 (by decide) rfl rfl ?_
                        refine K_iload dX4_offers_80 rfl rfl ?_
                        refine K_if_neN (tgt := 86) dX4_offers_82 (by decide) rfl (by first | omega | fail) (fun c82 => ?_) (fun c82 => ?_)
                        · refine K_aload_n dX4_offers_86 rfl rfl ?_
                          refine K_iconst (v := nI 1) dX4_offers_87 (by decide) rfl ?_
                          refine K_putZ dX4_offers_88 fl_X4_181 (by first | rfl | exact sk_rk (by omega) | exact sk_hh (by omega)) rfl rfl rfl (by first | exact bI_01 _ | exact Or.inl rfl | exact Or.inr rfl | assumption) rfl ?_
                          refine K_aload_n dX4_offers_91 rfl rfl ?_
                          refine K_iload_n dX4_offers_92 rfl rfl ?_
                          refine K_putI dX4_offers_93 fl_X4_188 (by first | rfl | exact sk_rk (by omega) | exact sk_hh (by omega)) rfl rfl rfl rfl ?_
                          refine K_aload_n dX4_offers_96 rfl rfl ?_
                          refine K_iload_n dX4_offers_97 rfl rfl ?_
                          refine K_putI dX4_offers_98 fl_X4_191 (by first | rfl | exact sk_rk (by omega) | exact sk_hh (by omega)) rfl rfl rfl rfl ?_
                          refine K_aload_n dX4_offers_101 rfl rfl ?_
                          refine K_iload_n dX4_offers_102 rfl rfl ?_
                          refine K_putI dX4_offers_103 fl_X4_194 (by first | rfl | exact sk_rk (by omega) | exact sk_hh (by omega)) rfl rfl rfl rfl ?_
                          refine K_iconst (v := nI 0) dX4_offers_106 (by decide) rfl ?_
                          refine K_istore (lv' := [(0, _), (1, _), (2, _), (3, _), (4, _), (5, _)]) dX4_offers_107 (by decide) rfl rfl ?_
                          first | (exfalso; omega) | exact fin (yes (by omega)) _
                        · refine K_ret dX4_offers_85 rfl ?_
                          first | (exfalso; omega) | exact ⟨rfl, rfl, GFb.rf N, rfl, Or.inl ⟨b, rfl, by omega, hS⟩⟩
          · refine K_iconst (v := nI 1) dX4_offers_22 (by decide) rfl ?_
            refine K_goto (tgt := 27) dX4_offers_23 (by decide) ?_
            refine K_istore (lv' := [(0, _), (1, _), (2, _), (3, _), (4, _)]) dX4_offers_27 (by decide) rfl rfl ?_
            refine K_iload dX4_offers_29 rfl rfl ?_
            refine K_if_neN (tgt := 80) dX4_offers_31 (by decide) rfl (by first | omega | fail) (fun c31 => ?_) (fun c31 => ?_)
            · refine K_iload dX4_offers_80 rfl rfl ?_
              refine K_if_neN (tgt := 86) dX4_offers_82 (by decide) rfl (by first | omega | fail) (fun c82 => ?_) (fun c82 => ?_)
              · refine K_aload_n dX4_offers_86 rfl rfl ?_
                refine K_iconst (v := nI 1) dX4_offers_87 (by decide) rfl ?_
                refine K_putZ dX4_offers_88 fl_X4_181 (by first | rfl | exact sk_rk (by omega) | exact sk_hh (by omega)) rfl rfl rfl (by first | exact bI_01 _ | exact Or.inl rfl | exact Or.inr rfl | assumption) rfl ?_
                refine K_aload_n dX4_offers_91 rfl rfl ?_
                refine K_iload_n dX4_offers_92 rfl rfl ?_
                refine K_putI dX4_offers_93 fl_X4_188 (by first | rfl | exact sk_rk (by omega) | exact sk_hh (by omega)) rfl rfl rfl rfl ?_
                refine K_aload_n dX4_offers_96 rfl rfl ?_
                refine K_iload_n dX4_offers_97 rfl rfl ?_
                refine K_putI dX4_offers_98 fl_X4_191 (by first | rfl | exact sk_rk (by omega) | exact sk_hh (by omega)) rfl rfl rfl rfl ?_
                refine K_aload_n dX4_offers_101 rfl rfl ?_
                refine K_iload_n dX4_offers_102 rfl rfl ?_
                refine K_putI dX4_offers_103 fl_X4_194 (by first | rfl | exact sk_rk (by omega) | exact sk_hh (by omega)) rfl rfl rfl rfl ?_
                refine K_iconst (v := nI 0) dX4_offers_106 (by decide) rfl ?_
                refine K_istore (lv' := [(0, _), (1, _), (2, _), (3, _), (4, _), (5, _)]) dX4_offers_107 (by decide) rfl rfl ?_
                first | (exfalso; omega) | exact fin (yes (by omega)) _
              · refine K_ret dX4_offers_85 rfl ?_
                first | (exfalso; omega) | exact ⟨rfl, rfl, GFb.rf N, rfl, Or.inl ⟨b, rfl, by omega, hS⟩⟩
            · refine K_aload_n dX4_offers_34 rfl rfl ?_
              refine K_getI dX4_offers_35 fl_X4_185 (by first | rfl | exact sk_rk (by omega) | exact sk_hh (by omega)) rfl (by first | assumption | rfl) rfl ?_
              refine K_if_eqB (tgt := 49) dX4_offers_38 (by decide) rfl (fun c38 => ?_) (fun c38 => ?_)
              · cases c38
              · refine K_iload_n dX4_offers_41 rfl rfl ?_
                refine K_aload_n dX4_offers_42 rfl rfl ?_
                refine K_getI dX4_offers_43 fl_X4_188 (by first | rfl | exact sk_rk (by omega) | exact sk_hh (by omega)) rfl (by first | assumption | rfl) rfl ?_
                refine K_icmp_neN (tgt := 80) dX4_offers_46 (by decide) rfl (by first | omega | fail) (by first | omega | fail) (fun c46 => ?_) (fun c46 => ?_)
                · refine K_iload dX4_offers_80 rfl rfl ?_
                  refine K_if_neN (tgt := 86) dX4_offers_82 (by decide) rfl (by first | omega | fail) (fun c82 => ?_) (fun c82 => ?_)
                  · refine K_aload_n dX4_offers_86 rfl rfl ?_
                    refine K_iconst (v := nI 1) dX4_offers_87 (by decide) rfl ?_
                    refine K_putZ dX4_offers_88 fl_X4_181 (by first | rfl | exact sk_rk (by omega) | exact sk_hh (by omega)) rfl rfl rfl (by first | exact bI_01 _ | exact Or.inl rfl | exact Or.inr rfl | assumption) rfl ?_
                    refine K_aload_n dX4_offers_91 rfl rfl ?_
                    refine K_iload_n dX4_offers_92 rfl rfl ?_
                    refine K_putI dX4_offers_93 fl_X4_188 (by first | rfl | exact sk_rk (by omega) | exact sk_hh (by omega)) rfl rfl rfl rfl ?_
                    refine K_aload_n dX4_offers_96 rfl rfl ?_
                    refine K_iload_n dX4_offers_97 rfl rfl ?_
                    refine K_putI dX4_offers_98 fl_X4_191 (by first | rfl | exact sk_rk (by omega) | exact sk_hh (by omega)) rfl rfl rfl rfl ?_
                    refine K_aload_n dX4_offers_101 rfl rfl ?_
                    refine K_iload_n dX4_offers_102 rfl rfl ?_
                    refine K_putI dX4_offers_103 fl_X4_194 (by first | rfl | exact sk_rk (by omega) | exact sk_hh (by omega)) rfl rfl rfl rfl ?_
                    refine K_iconst (v := nI 0) dX4_offers_106 (by decide) rfl ?_
                    refine K_istore (lv' := [(0, _), (1, _), (2, _), (3, _), (4, _), (5, _)]) dX4_offers_107 (by decide) rfl rfl ?_
                    first | (exfalso; omega) | exact fin (yes (by omega)) _
                  · refine K_ret dX4_offers_85 rfl ?_
                    first | (exfalso; omega) | exact ⟨rfl, rfl, GFb.rf N, rfl, Or.inl ⟨b, rfl, by omega, hS⟩⟩
                · refine K_iload_n dX4_offers_49 rfl rfl ?_
                  refine K_aload_n dX4_offers_50 rfl rfl ?_
                  refine K_getI dX4_offers_51 fl_X4_191 (by first | rfl | exact sk_rk (by omega) | exact sk_hh (by omega)) rfl (by first | assumption | rfl) rfl ?_
                  refine K_icmp_gtN (tgt := 73) dX4_offers_54 (by decide) rfl (by first | omega | fail) (by first | omega | fail) (fun c54 => ?_) (fun c54 => ?_)
                  · refine K_iconst (v := nI 1) dX4_offers_73 (by decide) rfl ?_
                    refine K_goto (tgt := 78) dX4_offers_74 (by decide) ?_
                    refine K_istore (lv' := [(0, _), (1, _), (2, _), (3, _), (4, _)]) dX4_offers_78 (by decide) rfl rfl ?_
                    refine K_iload dX4_offers_80 rfl rfl ?_
                    refine K_if_neN (tgt := 86) dX4_offers_82 (by decide) rfl (by first | omega | fail) (fun c82 => ?_) (fun c82 => ?_)
                    · refine K_aload_n dX4_offers_86 rfl rfl ?_
                      refine K_iconst (v := nI 1) dX4_offers_87 (by decide) rfl ?_
                      refine K_putZ dX4_offers_88 fl_X4_181 (by first | rfl | exact sk_rk (by omega) | exact sk_hh (by omega)) rfl rfl rfl (by first | exact bI_01 _ | exact Or.inl rfl | exact Or.inr rfl | assumption) rfl ?_
                      refine K_aload_n dX4_offers_91 rfl rfl ?_
                      refine K_iload_n dX4_offers_92 rfl rfl ?_
                      refine K_putI dX4_offers_93 fl_X4_188 (by first | rfl | exact sk_rk (by omega) | exact sk_hh (by omega)) rfl rfl rfl rfl ?_
                      refine K_aload_n dX4_offers_96 rfl rfl ?_
                      refine K_iload_n dX4_offers_97 rfl rfl ?_
                      refine K_putI dX4_offers_98 fl_X4_191 (by first | rfl | exact sk_rk (by omega) | exact sk_hh (by omega)) rfl rfl rfl rfl ?_
                      refine K_aload_n dX4_offers_101 rfl rfl ?_
                      refine K_iload_n dX4_offers_102 rfl rfl ?_
                      refine K_putI dX4_offers_103 fl_X4_194 (by first | rfl | exact sk_rk (by omega) | exact sk_hh (by omega)) rfl rfl rfl rfl ?_
                      refine K_iconst (v := nI 0) dX4_offers_106 (by decide) rfl ?_
                      refine K_istore (lv' := [(0, _), (1, _), (2, _), (3, _), (4, _), (5, _)]) dX4_offers_107 (by decide) rfl rfl ?_
                      first | (exfalso; omega) | exact fin (yes (by omega)) _
                    · refine K_ret dX4_offers_85 rfl ?_
                      first | (exfalso; omega) | exact ⟨rfl, rfl, GFb.rf N, rfl, Or.inl ⟨b, rfl, by omega, hS⟩⟩
                  · refine K_iload_n dX4_offers_57 rfl rfl ?_
                    refine K_aload_n dX4_offers_58 rfl rfl ?_
                    refine K_getI dX4_offers_59 fl_X4_191 (by first | rfl | exact sk_rk (by omega) | exact sk_hh (by omega)) rfl (by first | assumption | rfl) rfl ?_
                    refine K_icmp_neN (tgt := 77) dX4_offers_62 (by decide) rfl (by first | omega | fail) (by first | omega | fail) (fun c62 => ?_) (fun c62 => ?_)
                    · refine K_iconst (v := nI 0) dX4_offers_77 (by decide) rfl ?_
                      refine K_istore (lv' := [(0, _), (1, _), (2, _), (3, _), (4, _)]) dX4_offers_78 (by decide) rfl rfl ?_
                      refine K_iload dX4_offers_80 rfl rfl ?_
                      refine K_if_neN (tgt := 86) dX4_offers_82 (by decide) rfl (by first | omega | fail) (fun c82 => ?_) (fun c82 => ?_)
                      · refine K_aload_n dX4_offers_86 rfl rfl ?_
                        refine K_iconst (v := nI 1) dX4_offers_87 (by decide) rfl ?_
                        refine K_putZ dX4_offers_88 fl_X4_181 (by first | rfl | exact sk_rk (by omega) | exact sk_hh (by omega)) rfl rfl rfl (by first | exact bI_01 _ | exact Or.inl rfl | exact Or.inr rfl | assumption) rfl ?_
                        refine K_aload_n dX4_offers_91 rfl rfl ?_
                        refine K_iload_n dX4_offers_92 rfl rfl ?_
                        refine K_putI dX4_offers_93 fl_X4_188 (by first | rfl | exact sk_rk (by omega) | exact sk_hh (by omega)) rfl rfl rfl rfl ?_
                        refine K_aload_n dX4_offers_96 rfl rfl ?_
                        refine K_iload_n dX4_offers_97 rfl rfl ?_
                        refine K_putI dX4_offers_98 fl_X4_191 (by first | rfl | exact sk_rk (by omega) | exact sk_hh (by omega)) rfl rfl rfl rfl ?_
                        refine K_aload_n dX4_offers_101 rfl rfl ?_
                        refine K_iload_n dX4_offers_102 rfl rfl ?_
                        refine K_putI dX4_offers_103 fl_X4_194 (by first | rfl | exact sk_rk (by omega) | exact sk_hh (by omega)) rfl rfl rfl rfl ?_
                        refine K_iconst (v := nI 0) dX4_offers_106 (by decide) rfl ?_
                        refine K_istore (lv' := [(0, _), (1, _), (2, _), (3, _), (4, _), (5, _)]) dX4_offers_107 (by decide) rfl rfl ?_
                        first | (exfalso; omega) | exact fin (yes (by omega)) _
                      · refine K_ret dX4_offers_85 rfl ?_
                        first | (exfalso; omega) | exact ⟨rfl, rfl, GFb.rf N, rfl, Or.inl ⟨b, rfl, by omega, hS⟩⟩
                    · refine K_iload_n dX4_offers_65 rfl rfl ?_
                      refine K_aload_n dX4_offers_66 rfl rfl ?_
                      refine K_getI dX4_offers_67 fl_X4_194 (by first | rfl | exact sk_rk (by omega) | exact sk_hh (by omega)) rfl (by first | assumption | rfl) rfl ?_
                      refine K_icmp_geN (tgt := 77) dX4_offers_70 (by decide) rfl (by first | omega | fail) (by first | omega | fail) (fun c70 => ?_) (fun c70 => ?_)
                      · refine K_iconst (v := nI 0) dX4_offers_77 (by decide) rfl ?_
                        refine K_istore (lv' := [(0, _), (1, _), (2, _), (3, _), (4, _)]) dX4_offers_78 (by decide) rfl rfl ?_
                        refine K_iload dX4_offers_80 rfl rfl ?_
                        refine K_if_neN (tgt := 86) dX4_offers_82 (by decide) rfl (by first | omega | fail) (fun c82 => ?_) (fun c82 => ?_)
                        · refine K_aload_n dX4_offers_86 rfl rfl ?_
                          refine K_iconst (v := nI 1) dX4_offers_87 (by decide) rfl ?_
                          refine K_putZ dX4_offers_88 fl_X4_181 (by first | rfl | exact sk_rk (by omega) | exact sk_hh (by omega)) rfl rfl rfl (by first | exact bI_01 _ | exact Or.inl rfl | exact Or.inr rfl | assumption) rfl ?_
                          refine K_aload_n dX4_offers_91 rfl rfl ?_
                          refine K_iload_n dX4_offers_92 rfl rfl ?_
                          refine K_putI dX4_offers_93 fl_X4_188 (by first | rfl | exact sk_rk (by omega) | exact sk_hh (by omega)) rfl rfl rfl rfl ?_
                          refine K_aload_n dX4_offers_96 rfl rfl ?_
                          refine K_iload_n dX4_offers_97 rfl rfl ?_
                          refine K_putI dX4_offers_98 fl_X4_191 (by first | rfl | exact sk_rk (by omega) | exact sk_hh (by omega)) rfl rfl rfl rfl ?_
                          refine K_aload_n dX4_offers_101 rfl rfl ?_
                          refine K_iload_n dX4_offers_102 rfl rfl ?_
                          refine K_putI dX4_offers_103 fl_X4_194 (by first | rfl | exact sk_rk (by omega) | exact sk_hh (by omega)) rfl rfl rfl rfl ?_
                          refine K_iconst (v := nI 0) dX4_offers_106 (by decide) rfl ?_
                          refine K_istore (lv' := [(0, _), (1, _), (2, _), (3, _), (4, _), (5, _)]) dX4_offers_107 (by decide) rfl rfl ?_
                          first | (exfalso; omega) | exact fin (yes (by omega)) _
                        · refine K_ret dX4_offers_85 rfl ?_
                          first | (exfalso; omega) | exact ⟨rfl, rfl, GFb.rf N, rfl, Or.inl ⟨b, rfl, by omega, hS⟩⟩
                      · refine K_iconst (v := nI 1) dX4_offers_73 (by decide) rfl ?_
                        refine K_goto (tgt := 78) dX4_offers_74 (by decide) ?_
                        refine K_istore (lv' := [(0, _), (1, _), (2, _), (3, _), (4, _)]) dX4_offers_78 (by decide) rfl rfl ?_
                        refine K_iload dX4_offers_80 rfl rfl ?_
                        refine K_if_neN (tgt := 86) dX4_offers_82 (by decide) rfl (by first | omega | fail) (fun c82 => ?_) (fun c82 => ?_)
                        · refine K_aload_n dX4_offers_86 rfl rfl ?_
                          refine K_iconst (v := nI 1) dX4_offers_87 (by decide) rfl ?_
                          refine K_putZ dX4_offers_88 fl_X4_181 (by first | rfl | exact sk_rk (by omega) | exact sk_hh (by omega)) rfl rfl rfl (by first | exact bI_01 _ | exact Or.inl rfl | exact Or.inr rfl | assumption) rfl ?_
                          refine K_aload_n dX4_offers_91 rfl rfl ?_
                          refine K_iload_n dX4_offers_92 rfl rfl ?_
                          refine K_putI dX4_offers_93 fl_X4_188 (by first | rfl | exact sk_rk (by omega) | exact sk_hh (by omega)) rfl rfl rfl rfl ?_
                          refine K_aload_n dX4_offers_96 rfl rfl ?_
                          refine K_iload_n dX4_offers_97 rfl rfl ?_
                          refine K_putI dX4_offers_98 fl_X4_191 (by first | rfl | exact sk_rk (by omega) | exact sk_hh (by omega)) rfl rfl rfl rfl ?_
                          refine K_aload_n dX4_offers_101 rfl rfl ?_
                          refine K_iload_n dX4_offers_102 rfl rfl ?_
                          refine K_putI dX4_offers_103 fl_X4_194 (by first | rfl | exact sk_rk (by omega) | exact sk_hh (by omega)) rfl rfl rfl rfl ?_
                          refine K_iconst (v := nI 0) dX4_offers_106 (by decide) rfl ?_
                          refine K_istore (lv' := [(0, _), (1, _), (2, _), (3, _), (4, _), (5, _)]) dX4_offers_107 (by decide) rfl rfl ?_
                          first | (exfalso; omega) | exact fin (yes (by omega)) _
                        · refine K_ret dX4_offers_85 rfl ?_
                          first | (exfalso; omega) | exact ⟨rfl, rfl, GFb.rf N, rfl, Or.inl ⟨b, rfl, by omega, hS⟩⟩
    | false =>
      simp only [Bool.false_eq_true, false_and, false_or, false_implies, true_and] at hbt
      refine CK.start [(0, _), (1, _), (2, _), (3, _)] (plainFor_of_name (by decide)) (Nat.le_of_ble_eq_true rfl) rfl ?_
      refine K_aload_n dX4_offers_0 rfl rfl ?_
      refine K_getI dX4_offers_1 fl_X4_181 (by first | rfl | exact sk_rk (by omega) | exact sk_hh (by omega)) rfl (by first | assumption | rfl) rfl ?_
      refine K_if_eqB (tgt := 22) dX4_offers_4 (by decide) rfl (fun c4 => ?_) (fun c4 => ?_)
      · cases c4
      · refine K_aload_n dX4_offers_7 rfl rfl ?_
        refine K_getI dX4_offers_8 fl_X4_185 (by first | rfl | exact sk_rk (by omega) | exact sk_hh (by omega)) rfl (by first | assumption | rfl) rfl ?_
        refine K_if_eqB (tgt := 26) dX4_offers_11 (by decide) rfl (fun c11 => ?_) (fun c11 => ?_)
        · refine K_iconst (v := nI 0) dX4_offers_26 (by decide) rfl ?_
          refine K_istore (lv' := [(0, _), (1, _), (2, _), (3, _), (4, _)]) dX4_offers_27 (by decide) rfl rfl ?_
          refine K_iload dX4_offers_29 rfl rfl ?_
          refine K_if_neN (tgt := 80) dX4_offers_31 (by decide) rfl (by first | omega | fail) (fun c31 => ?_) (fun c31 => ?_)
          · refine K_iload dX4_offers_80 rfl rfl ?_
            refine K_if_neN (tgt := 86) dX4_offers_82 (by decide) rfl (by first | omega | fail) (fun c82 => ?_) (fun c82 => ?_)
            · refine K_aload_n dX4_offers_86 rfl rfl ?_
              refine K_iconst (v := nI 1) dX4_offers_87 (by decide) rfl ?_
              refine K_putZ dX4_offers_88 fl_X4_181 (by first | rfl | exact sk_rk (by omega) | exact sk_hh (by omega)) rfl rfl rfl (by first | exact bI_01 _ | exact Or.inl rfl | exact Or.inr rfl | assumption) rfl ?_
              refine K_aload_n dX4_offers_91 rfl rfl ?_
              refine K_iload_n dX4_offers_92 rfl rfl ?_
              refine K_putI dX4_offers_93 fl_X4_188 (by first | rfl | exact sk_rk (by omega) | exact sk_hh (by omega)) rfl rfl rfl rfl ?_
              refine K_aload_n dX4_offers_96 rfl rfl ?_
              refine K_iload_n dX4_offers_97 rfl rfl ?_
              refine K_putI dX4_offers_98 fl_X4_191 (by first | rfl | exact sk_rk (by omega) | exact sk_hh (by omega)) rfl rfl rfl rfl ?_
              refine K_aload_n dX4_offers_101 rfl rfl ?_
              refine K_iload_n dX4_offers_102 rfl rfl ?_
              refine K_putI dX4_offers_103 fl_X4_194 (by first | rfl | exact sk_rk (by omega) | exact sk_hh (by omega)) rfl rfl rfl rfl ?_
              refine K_iconst (v := nI 0) dX4_offers_106 (by decide) rfl ?_
              refine K_istore (lv' := [(0, _), (1, _), (2, _), (3, _), (4, _), (5, _)]) dX4_offers_107 (by decide) rfl rfl ?_
              first | (exfalso; omega) | exact fin (yes (by omega)) _
            · refine K_ret dX4_offers_85 rfl ?_
              first | (exfalso; omega) | exact ⟨rfl, rfl, GFb.rf N, rfl, Or.inl ⟨b, rfl, by omega, hS⟩⟩
          · refine K_aload_n dX4_offers_34 rfl rfl ?_
            refine K_getI dX4_offers_35 fl_X4_185 (by first | rfl | exact sk_rk (by omega) | exact sk_hh (by omega)) rfl (by first | assumption | rfl) rfl ?_
            refine K_if_eqB (tgt := 49) dX4_offers_38 (by decide) rfl (fun c38 => ?_) (fun c38 => ?_)
            · refine K_iload_n dX4_offers_49 rfl rfl ?_
              refine K_aload_n dX4_offers_50 rfl rfl ?_
              refine K_getI dX4_offers_51 fl_X4_191 (by first | rfl | exact sk_rk (by omega) | exact sk_hh (by omega)) rfl (by first | assumption | rfl) rfl ?_
              refine K_icmp_gtN (tgt := 73) dX4_offers_54 (by decide) rfl (by first | omega | fail) (by first | omega | fail) (fun c54 => ?_) (fun c54 => ?_)
              · refine K_iconst (v := nI 1) dX4_offers_73 (by decide) rfl ?_
                refine K_goto (tgt := 78) dX4_offers_74 (by decide) ?_
                refine K_istore (lv' := [(0, _), (1, _), (2, _), (3, _), (4, _)]) dX4_offers_78 (by decide) rfl rfl ?_
                refine K_iload dX4_offers_80 rfl rfl ?_
                refine K_if_neN (tgt := 86) dX4_offers_82 (by decide) rfl (by first | omega | fail) (fun c82 => ?_) (fun c82 => ?_)
                · refine K_aload_n dX4_offers_86 rfl rfl ?_
                  refine K_iconst (v := nI 1) dX4_offers_87 (by decide) rfl ?_
                  refine K_putZ dX4_offers_88 fl_X4_181 (by first | rfl | exact sk_rk (by omega) | exact sk_hh (by omega)) rfl rfl rfl (by first | exact bI_01 _ | exact Or.inl rfl | exact Or.inr rfl | assumption) rfl ?_
                  refine K_aload_n dX4_offers_91 rfl rfl ?_
                  refine K_iload_n dX4_offers_92 rfl rfl ?_
                  refine K_putI dX4_offers_93 fl_X4_188 (by first | rfl | exact sk_rk (by omega) | exact sk_hh (by omega)) rfl rfl rfl rfl ?_
                  refine K_aload_n dX4_offers_96 rfl rfl ?_
                  refine K_iload_n dX4_offers_97 rfl rfl ?_
                  refine K_putI dX4_offers_98 fl_X4_191 (by first | rfl | exact sk_rk (by omega) | exact sk_hh (by omega)) rfl rfl rfl rfl ?_
                  refine K_aload_n dX4_offers_101 rfl rfl ?_
                  refine K_iload_n dX4_offers_102 rfl rfl ?_
                  refine K_putI dX4_offers_103 fl_X4_194 (by first | rfl | exact sk_rk (by omega) | exact sk_hh (by omega)) rfl rfl rfl rfl ?_
                  refine K_iconst (v := nI 0) dX4_offers_106 (by decide) rfl ?_
                  refine K_istore (lv' := [(0, _), (1, _), (2, _), (3, _), (4, _), (5, _)]) dX4_offers_107 (by decide) rfl rfl ?_
                  first | (exfalso; omega) | exact fin (yes (by omega)) _
                · refine K_ret dX4_offers_85 rfl ?_
                  first | (exfalso; omega) | exact ⟨rfl, rfl, GFb.rf N, rfl, Or.inl ⟨b, rfl, by omega, hS⟩⟩
              · refine K_iload_n dX4_offers_57 rfl rfl ?_
                refine K_aload_n dX4_offers_58 rfl rfl ?_
                refine K_getI dX4_offers_59 fl_X4_191 (by first | rfl | exact sk_rk (by omega) | exact sk_hh (by omega)) rfl (by first | assumption | rfl) rfl ?_
                refine K_icmp_neN (tgt := 77) dX4_offers_62 (by decide) rfl (by first | omega | fail) (by first | omega | fail) (fun c62 => ?_) (fun c62 => ?_)
                · refine K_iconst (v := nI 0) dX4_offers_77 (by decide) rfl ?_
                  refine K_istore (lv' := [(0, _), (1, _), (2, _), (3, _), (4, _)]) dX4_offers_78 (by decide) rfl rfl ?_
                  refine K_iload dX4_offers_80 rfl rfl ?_
                  refine K_if_neN (tgt := 86) dX4_offers_82 (by decide) rfl (by first | omega | fail) (fun c82 => ?_) (fun c82 => ?_)
                  · refine K_aload_n dX4_offers_86 rfl rfl ?_
                    refine K_iconst (v := nI 1) dX4_offers_87 (by decide) rfl ?_
                    refine K_putZ dX4_offers_88 fl_X4_181 (by first | rfl | exact sk_rk (by omega) | exact sk_hh (by omega)) rfl rfl rfl (by first | exact bI_01 _ | exact Or.inl rfl | exact Or.inr rfl | assumption) rfl ?_
                    refine K_aload_n dX4_offers_91 rfl rfl ?_
                    refine K_iload_n dX4_offers_92 rfl rfl ?_
                    refine K_putI dX4_offers_93 fl_X4_188 (by first | rfl | exact sk_rk (by omega) | exact sk_hh (by omega)) rfl rfl rfl rfl ?_
                    refine K_aload_n dX4_offers_96 rfl rfl ?_
                    refine K_iload_n dX4_offers_97 rfl rfl ?_
                    refine K_putI dX4_offers_98 fl_X4_191 (by first | rfl | exact sk_rk (by omega) | exact sk_hh (by omega)) rfl rfl rfl rfl ?_
                    refine K_aload_n dX4_offers_101 rfl rfl ?_
                    refine K_iload_n dX4_offers_102 rfl rfl ?_
                    refine K_putI dX4_offers_103 fl_X4_194 (by first | rfl | exact sk_rk (by omega) | exact sk_hh (by omega)) rfl rfl rfl rfl ?_
                    refine K_iconst (v := nI 0) dX4_offers_106 (by decide) rfl ?_
                    refine K_istore (lv' := [(0, _), (1, _), (2, _), (3, _), (4, _), (5, _)]) dX4_offers_107 (by decide) rfl rfl ?_
                    first | (exfalso; omega) | exact fin (yes (by omega)) _
                  · refine K_ret dX4_offers_85 rfl ?_
                    first | (exfalso; omega) | exact ⟨rfl, rfl, GFb.rf N, rfl, Or.inl ⟨b, rfl, by omega, hS⟩⟩
                · refine K_iload_n dX4_offers_65 rfl rfl ?_
                  refine K_aload_n dX4_offers_66 rfl rfl ?_
                  refine K_getI dX4_offers_67 fl_X4_194 (by first | rfl | exact sk_rk (by omega) | exact sk_hh (by omega)) rfl (by first | assumption | rfl) rfl ?_
                  refine K_icmp_geN (tgt := 77) dX4_offers_70 (by decide) rfl (by first | omega | fail) (by first | omega | fail) (fun c70 => ?_) (fun c70 => ?_)
                  · refine K_iconst (v := nI 0) dX4_offers_77 (by decide) rfl ?_
                    refine K_istore (lv' := [(0, _), (1, _), (2, _), (3, _), (4, _)]) dX4_offers_78 (by decide) rfl rfl ?_
                    refine K_iload dX4_offers_80 rfl rfl ?_
                    refine K_if_neN (tgt := 86) dX4_offers_82 (by decide) rfl (by first | omega | fail) (fun c82 => ?_) (fun c82 => ?_)
                    · refine K_aload_n dX4_offers_86 rfl rfl ?_
                      refine K_iconst (v := nI 1) dX4_offers_87 (by decide) rfl ?_
                      refine K_putZ dX4_offers_88 fl_X4_181 (by first | rfl | exact sk_rk (by omega) | exact sk_hh (by omega)) rfl rfl rfl (by first | exact bI_01 _ | exact Or.inl rfl | exact Or.inr rfl | assumption) rfl ?_
                      refine K_aload_n dX4_offers_91 rfl rfl ?_
                      refine K_iload_n dX4_offers_92 rfl rfl ?_
                      refine K_putI dX4_offers_93 fl_X4_188 (by first | rfl | exact sk_rk (by omega) | exact sk_hh (by omega)) rfl rfl rfl rfl ?_
                      refine K_aload_n dX4_offers_96 rfl rfl ?_
                      refine K_iload_n dX4_offers_97 rfl rfl ?_
                      refine K_putI dX4_offers_98 fl_X4_191 (by first | rfl | exact sk_rk (by omega) | exact sk_hh (by omega)) rfl rfl rfl rfl ?_
                      refine K_aload_n dX4_offers_101 rfl rfl ?_
                      refine K_iload_n dX4_offers_102 rfl rfl ?_
                      refine K_putI dX4_offers_103 fl_X4_194 (by first | rfl | exact sk_rk (by omega) | exact sk_hh (by omega)) rfl rfl rfl rfl ?_
                      refine K_iconst (v := nI 0) dX4_offers_106 (by decide) rfl ?_
                      refine K_istore (lv' := [(0, _), (1, _), (2, _), (3, _), (4, _), (5, _)]) dX4_offers_107 (by decide) rfl rfl ?_
                      first | (exfalso; omega) | exact fin (yes (by omega)) _
                    · refine K_ret dX4_offers_85 rfl ?_
                      first | (exfalso; omega) | exact ⟨rfl, rfl, GFb.rf N, rfl, Or.inl ⟨b, rfl, by omega, hS⟩⟩
                  · refine K_iconst (v := nI 1) dX4_offers_73 (by decide) rfl ?_
                    refine K_goto (tgt := 78) dX4_offers_74 (by decide) ?_
                    refine K_istore (lv' := [(0, _), (1, _), (2, _), (3, _), (4, _)]) dX4_offers_78 (by decide) rfl rfl ?_
                    refine K_iload dX4_offers_80 rfl rfl ?_
                    refine K_if_neN (tgt := 86) dX4_offers_82 (by decide) rfl (by first | omega | fail) (fun c82 => ?_) (fun c82 => ?_)
                    · refine K_aload_n dX4_offers_86 rfl rfl ?_
                      refine K_iconst (v := nI 1) dX4_offers_87 (by decide) rfl ?_
                      refine K_putZ dX4_offers_88 fl_X4_181 (by first | rfl | exact sk_rk (by omega) | exact sk_hh (by omega)) rfl rfl rfl (by first | exact bI_01 _ | exact Or.inl rfl | exact Or.inr rfl | assumption) rfl ?_
                      refine K_aload_n dX4_offers_91 rfl rfl ?_
                      refine K_iload_n dX4_offers_92 rfl rfl ?_
                      refine K_putI dX4_offers_93 fl_X4_188 (by first | rfl | exact sk_rk (by omega) | exact sk_hh (by omega)) rfl rfl rfl rfl ?_
                      refine K_aload_n dX4_offers_96 rfl rfl ?_
                      refine K_iload_n dX4_offers_97 rfl rfl ?_
                      refine K_putI dX4_offers_98 fl_X4_191 (by first | rfl | exact sk_rk (by omega) | exact sk_hh (by omega)) rfl rfl rfl rfl ?_
                      refine K_aload_n dX4_offers_101 rfl rfl ?_
                      refine K_iload_n dX4_offers_102 rfl rfl ?_
                      refine K_putI dX4_offers_103 fl_X4_194 (by first | rfl | exact sk_rk (by omega) | exact sk_hh (by omega)) rfl rfl rfl rfl ?_
                      refine K_iconst (v := nI 0) dX4_offers_106 (by decide) rfl ?_
                      refine K_istore (lv' := [(0, _), (1, _), (2, _), (3, _), (4, _), (5, _)]) dX4_offers_107 (by decide) rfl rfl ?_
                      first | (exfalso; omega) | exact fin (yes (by omega)) _
                    · refine K_ret dX4_offers_85 rfl ?_
                      first | (exfalso; omega) | exact ⟨rfl, rfl, GFb.rf N, rfl, Or.inl ⟨b, rfl, by omega, hS⟩⟩
            · cases c38
        · cases c11
