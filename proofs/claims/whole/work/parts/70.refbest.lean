/-! the reference's goes, all, best, mend -/
theorem kp_upt {S : GS} {u : Nat → Nat} {f g : Nat} : kpT S (upt u f g) (f + 1) = kpT S u f + (if decide (g ≠ f ∧ s_pl S f = some g) = true then 1 else 0) := by
  show kpT S (upt u f g) f + (if decide (upt u f g f ≠ f ∧ s_pl S f = some (upt u f g f)) = true then 1 else 0) = _
  rw [upt_at, kpT_agree (fun i hi => upt_ne (by omega))]
theorem go_upt {u : Nat → Nat} {f g : Nat} : goT (upt u f g) (f + 1) = goT u f + (if decide (g ≠ f) = true then 1 else 0) := by
  show goT (upt u f g) f + (if decide (upt u f g f ≠ f) = true then 1 else 0) = _
  rw [upt_at, goT_agree (fun i hi => upt_ne (by omega))]
theorem rk_upt {S : GS} {u : Nat → Nat} {f g : Nat} : rkT S (upt u f g) (f + 1) = rkT S u f + (if g = f then 0 else s_rk S f g) := by
  show rkT S (upt u f g) f + (if upt u f g f = f then 0 else s_rk S f (upt u f g f)) = _
  rw [upt_at, rkT_agree (fun i hi => upt_ne (by omega))]
def PGs (S : GS) (k : Bool) (Z : (Nat → Nat) → Prop) (u : Nat → Nat) (f : Nat) (N : Mem) (K : Mej) : PK := fun r N1 K1 => r = none ∧ K1 = K ∧ GFb N N1 ∧ (∀ g, g < f → N1 60 g = N 60 g) ∧ ∃ o1, StM S k o1 N1 ∧ Good S k (fun t => Z t ∨ Ext S u f t) o1
def GsC (S : GS) (k : Bool) (r : Nat) : Prop := ∀ (d f tk : Nat) (u : Nat → Nat) (o : Option (Nat → Nat)) (Z : (Nat → Nat) → Prop) (N : Mem) (K : Mej), f + r = s_n S → r + 5 ≤ d → RY S N → StM S k o N → TR S u f N → PI S u f tk → Good S k Z o → (∀ s t, Z s → Ext S u f t → nm s (s_n S) < nm t (s_n S)) →
  CK d mX4_goes [.ref 40, .int (nI f), .int (nI tk), .int (nI (kpT S u f)), .int (nI (goT u f)), .int (nI (rkT S u f))] N K (PGs S k Z u f N K)
theorem TR.upt {S : GS} {u : Nat → Nat} {f g : Nat} {N : Mem} (h : TR S u f N) (hg : g < s_n S) : TR S (upt u f g) (f + 1) (sM N 60 f (nI g)) := fun x hx => by
  rw [sM_at]
  by_cases e : x = f
  · rw [if_pos ⟨rfl, e⟩, e, upt_at]
    exact ⟨rfl, hg⟩
  · rw [if_neg (by omega), upt_ne e]
    exact h x (by omega)
theorem StM.tr {S : GS} {k : Bool} {o : Option (Nat → Nat)} {N : Mem} (h : StM S k o N) {f : Nat} {v : Int32} : StM S k o (sM N 60 f v) := by
  refine ⟨(sM_ne (Or.inl (by decide))).trans h.1, (sM_ne (Or.inl (by decide))).trans h.2.1, fun b hb => ?_⟩
  obtain ⟨a1, a2, a3, a4⟩ := h.2.2 b hb
  exact ⟨(sM_ne (Or.inl (by decide))).trans a1, (sM_ne (Or.inl (by decide))).trans a2, (sM_ne (Or.inl (by decide))).trans a3, fun g hg => (sM_ne (Or.inl (by decide))).trans (a4 g hg)⟩
theorem TR.keep {S : GS} {u : Nat → Nat} {f : Nat} {N N1 : Mem} (h : TR S u f N) (h1 : ∀ g, g < f → N1 60 g = N 60 g) : TR S u f N1 := fun g hg => ⟨(h1 g hg).trans (h g hg).1, (h g hg).2⟩
/-- what the loop over the homes holds, the first g behind it -/
def GL (S : GS) (k : Bool) (Z : (Nat → Nat) → Prop) (u : Nat → Nat) (f g : Nat) (N N1 : Mem) : Prop := GFb N N1 ∧ (∀ x, x < f → N1 60 x = N 60 x) ∧ ∃ o1, StM S k o1 N1 ∧ Good S k (ZL S Z u f g) o1
set_option maxRecDepth 100000 in
theorem last_X4_goes {d : Nat} {S : GS} (w : WF S) {k : Bool} {r f tk : Nat} {u : Nat → Nat} {Z : (Nat → Nat) → Prop} {N N1 : Mem} {K : Mej} {x6 : Int32} (ih : GsC S k r) (hr : f + (r + 1) = s_n S) (hd : r + 6 ≤ d) (R : RY S N) (hT : TR S u f N) (hp : PI S u f tk) (ho : ∀ s t, Z s → Ext S u f t → nm s (s_n S) < nm t (s_n S)) (I : GL S k Z u f (s_n S) N N1) :
    EK d mX4_goes (PGs S k Z u f N K) 143 [(0, .ref 40), (1, .int (nI f)), (2, .int (nI tk)), (3, .int (nI (kpT S u f))), (4, .int (nI (goT u f))), (5, .int (nI (rkT S u f))), (6, .int x6)] [] N1 K := by
  have hn := w.1.1
  have ht := hp.2.2.1
  obtain ⟨F1, T1, o1, S1, G1⟩ := I
  have hf : f < s_n S := by omega
  cases hb : tk.testBit f with
  | true =>
    refine K_iload_n dX4_goes_143 rfl rfl ?_
    refine K_iload_n dX4_goes_144 rfl rfl ?_
    first | refine K_shrN dX4_goes_145 (by first | omega | fail) (by first | omega | fail) rfl ?_ | refine K_ishr dX4_goes_145 rfl ?_
    refine K_iconst (v := nI 1) dX4_goes_146 (by decide) rfl ?_
    first | refine K_bitN dX4_goes_147 rfl ?_ | refine K_andN dX4_goes_147 rfl ?_ | refine K_iand dX4_goes_147 rfl ?_
    refine K_if_neB (tgt := 175) dX4_goes_148 (by decide) rfl (fun c148 => ?_) (fun c148 => ?_)
    · refine K_ret dX4_goes_175 rfl ?_
      refine ⟨rfl, rfl, F1, T1, o1, S1, G1.of (fun t => ?_)⟩
      rw [← ZL_n hf t]
      constructor
      · exact Or.inl
      · rintro (z | z)
        · exact z
        · exfalso
          rw [ext_upt] at z
          obtain ⟨g, g1, g2⟩ := (hp.2.2.2 f (by omega)).mp hb
          have := z.1.1.inj (show g < s_n S by omega) hf (by rw [z.1.2 g g1, g2, z.2])
          omega
    · rw [hb] at c148; cases c148
  | false =>
    have R2 : RY S (sM N1 60 f (nI f)) := (R.gfb F1).scr (by omega)
    have hc := ih (d - 1) (f + 1) (tk ||| 2 ^ f) (upt u f f) o1 (ZL S Z u f (s_n S)) (sM N1 60 f (nI f)) K (by omega) (by omega) R2 S1.tr ((hT.keep T1).upt hf) (hp.go hf hn hb (fun z => absurd rfl z)) G1 (fun s t hs ht2 => by
      rw [ext_upt] at ht2
      exact ord_next hn hf (Nat.le_refl _) ho 10 hn s t hs ht2.1 (if_pos ht2.2))
    rw [kp_upt, go_upt, rk_upt, if_pos rfl, decide_eq_false (fun z => z.1 rfl), decide_eq_false (fun z => z rfl)] at hc
    refine K_iload_n dX4_goes_143 rfl rfl ?_
    refine K_iload_n dX4_goes_144 rfl rfl ?_
    first | refine K_shrN dX4_goes_145 (by first | omega | fail) (by first | omega | fail) rfl ?_ | refine K_ishr dX4_goes_145 rfl ?_
    refine K_iconst (v := nI 1) dX4_goes_146 (by decide) rfl ?_
    first | refine K_bitN dX4_goes_147 rfl ?_ | refine K_andN dX4_goes_147 rfl ?_ | refine K_iand dX4_goes_147 rfl ?_
    refine K_if_neB (tgt := 175) dX4_goes_148 (by decide) rfl (fun c148 => ?_) (fun c148 => ?_)
    · rw [hb] at c148; cases c148
    · refine K_aload_n dX4_goes_151 rfl rfl ?_
      refine K_getR (r := 60) dX4_goes_152 fl_X4_60 rfl rfl rfl rfl ?_
      refine K_iload_n dX4_goes_155 rfl rfl ?_
      refine K_iload_n dX4_goes_156 rfl rfl ?_
      refine K_iast dX4_goes_157 (by first | rfl | exact sk_rk (by omega) | exact sk_hh (by omega)) (by first | omega | fail) (by decide) rfl ?_
      refine K_aload_n dX4_goes_158 rfl rfl ?_
      refine K_iload_n dX4_goes_159 rfl rfl ?_
      refine K_iconst (v := nI 1) dX4_goes_160 (by decide) rfl ?_
      refine K_addN dX4_goes_161 rfl ?_
      refine K_iload_n dX4_goes_162 rfl rfl ?_
      refine K_iconst (v := nI 1) dX4_goes_163 (by decide) rfl ?_
      refine K_iload_n dX4_goes_164 rfl rfl ?_
      first | refine K_shl1 dX4_goes_165 (by first | omega | fail) rfl ?_ | refine K_shlN dX4_goes_165 (by first | omega | fail) (by first | omega | fail) rfl ?_ | refine K_ishl dX4_goes_165 rfl ?_
      refine K_orN dX4_goes_166 rfl ?_
      refine K_iload_n dX4_goes_167 rfl rfl ?_
      refine K_iload dX4_goes_168 rfl rfl ?_
      refine K_iload dX4_goes_170 rfl rfl ?_
      refine K_callV (ci := 4) (d1 := d - 1) [_, _, _, _, _] dX4_goes_172 ml_X4_208 (by decide) rfl rfl rfl (Nat.le_of_ble_eq_true rfl) hc (by omega) rfl ?_
      rintro res N2 K2 ⟨z1, z2, z3, z4, o2, z5, z6⟩
      subst z1
      subst z2
      refine K_ret dX4_goes_175 rfl ?_
      exact ⟨rfl, rfl, (F1.set (by omega)).trans z3, fun g hg => (z4 g (by omega)).trans ((sM_ne (Or.inr (by omega))).trans (T1 g hg)), o2, z5, z6.of (ZL_n hf)⟩
set_option maxRecDepth 100000 in
theorem l_X4_goes {d : Nat} {S : GS} (w : WF S) {k : Bool} {r f tk : Nat} {u : Nat → Nat} {Z : (Nat → Nat) → Prop} {N : Mem} {K : Mej} (ih : GsC S k r) (hr : f + (r + 1) = s_n S) (hd : r + 6 ≤ d) (R : RY S N) (hT : TR S u f N) (hp : PI S u f tk) (ho : ∀ s t, Z s → Ext S u f t → nm s (s_n S) < nm t (s_n S)) :
    ∀ (kk g : Nat) (N1 : Mem), g + kk = s_n S → GL S k Z u f g N N1 → EK d mX4_goes (PGs S k Z u f N K) 35 [(0, .ref 40), (1, .int (nI f)), (2, .int (nI tk)), (3, .int (nI (kpT S u f))), (4, .int (nI (goT u f))), (5, .int (nI (rkT S u f))), (6, .int (nI g))] [] N1 K
  | 0, g, N1, e, I => by
    have hn := w.1.1
    have hg : g = s_n S := by omega
    subst hg
    have h7 := (R.gfb I.1).1.1
    refine K_iload dX4_goes_35 rfl rfl ?_
    refine K_aload_n dX4_goes_37 rfl rfl ?_
    refine K_getI dX4_goes_38 fl_X4_87 (by first | rfl | exact sk_rk (by omega) | exact sk_hh (by omega)) rfl (by first | assumption | rfl) rfl ?_
    refine K_icmp_geN (tgt := 143) dX4_goes_41 (by decide) rfl (by first | omega | fail) (by first | omega | fail) (fun c41 => ?_) (fun c41 => ?_)
    · exact last_X4_goes w ih hr hd R hT hp ho I
    · omega
  | kk + 1, g, N1, e, I => by
    have hn := w.1.1
    have ht := hp.2.2.1
    have hf : f < s_n S := by omega
    have hgn : g < s_n S := by omega
    have R1 := R.gfb I.1
    have h7 := R1.1.1
    have skip : (∀ t, Ext S u f t → t f = g → g ≠ f → False) → ∀ N2, (∃ o1, GFb N N2 ∧ (∀ x, x < f → N2 60 x = N 60 x) ∧ StM S k o1 N2 ∧ Good S k (ZL S Z u f g) o1) → EK d mX4_goes (PGs S k Z u f N K) 35 [(0, .ref 40), (1, .int (nI f)), (2, .int (nI tk)), (3, .int (nI (kpT S u f))), (4, .int (nI (goT u f))), (5, .int (nI (rkT S u f))), (6, .int (nI (g + 1)))] [] N2 K := fun z N2 ⟨o1, q1, q2, q3, q4⟩ =>
      l_X4_goes w ih hr hd R hT hp ho kk (g + 1) N2 (by omega) ⟨q1, q2, o1, q3, q4.of (ZL_skip z)⟩
    obtain ⟨F1, T1, o1, S1, G1⟩ := I
    have same : ∃ o1, GFb N N1 ∧ (∀ x, x < f → N1 60 x = N 60 x) ∧ StM S k o1 N1 ∧ Good S k (ZL S Z u f g) o1 := ⟨o1, F1, T1, S1, G1⟩
    have T2 : TR S (upt u f g) (f + 1) (sM N1 60 f (nI g)) := (hT.keep T1).upt hgn
    have R2 : RY S (sM N1 60 f (nI g)) := R1.scr (by omega)
    have F2 : GFb N (sM N1 60 f (nI g)) := F1.set (by omega)
    have K2 : ∀ x, x < f → sM N1 60 f (nI g) 60 x = N 60 x := fun x hx => (sM_ne (Or.inr (by omega))).trans (T1 x hx)
    have h55 : sM N1 60 f (nI g) 55 f = oI (s_pl S f) := (R2.2.1 f hf).2.2.2.2.2.2.2.2.2
    have hob := w.plb (f := f) (by omega)
    have hsh := c_X4_isShort (d := d - 1) (K := K) w hf R2 T2
    have fin : g ≠ f → tk.testBit g = false → s_tk S f g = true → ∀ res N2 K2, PIS S (upt u f g) f (sM N1 60 f (nI g)) K res N2 K2 → EK d mX4_goes (PGs S k Z u f N K) 89 [(0, .ref 40), (1, .int (nI f)), (2, .int (nI tk)), (3, .int (nI (kpT S u f))), (4, .int (nI (goT u f))), (5, .int (nI (rkT S u f))), (6, .int (nI g))] (res.toList ++ []) N2 K2 := by
      rintro q1 q2 q3 res N2 K2' ⟨z1, z2, b, z3, z4, z5⟩
      subst z1
      subst z2
      subst z3
      cases b with
      | false =>
        refine K_if_eqB (tgt := 137) dX4_goes_89 (by decide) rfl (fun c89 => ?_) (fun c89 => by cases c89)
        first | refine K_incN (lv' := [(0, _), (1, _), (2, _), (3, _), (4, _), (5, _), (6, _)]) dX4_goes_137 rfl (by decide) rfl rfl ?_ | refine K_iinc (lv' := [(0, _), (1, _), (2, _), (3, _), (4, _), (5, _), (6, _)]) dX4_goes_137 rfl rfl (by decide) rfl rfl ?_
        refine K_goto (tgt := 35) dX4_goes_140 (by decide) ?_
        exact skip (fun t h1 h2 _ => z5 rfl t h1.1 (fun x hx => by
          rcases Nat.lt_or_ge x f with h | h
          · rw [upt_ne (by omega)]; exact h1.2 x h
          · obtain rfl : x = f := by omega
            rw [upt_at]; exact h2)) _ ⟨o1, F2, K2, S1.tr, G1⟩
      | true =>
        have hc := ih (d - 1) (f + 1) (tk ||| 2 ^ g) (upt u f g) o1 (ZL S Z u f g) (sM N1 60 f (nI g)) K2' (by omega) (by omega) R2 S1.tr T2 (hp.go hgn hn q2 (fun _ => ⟨q3, z4 rfl⟩)) G1 (fun s t hs ht2 => by
          rw [ext_upt] at ht2
          exact ord_next hn hf (by omega) ho g (Nat.le_refl g) s t hs ht2.1 (by unfold dgt; rw [ht2.2, if_neg q1]))
        rw [kp_upt, go_upt, rk_upt, if_neg q1, decide_eq_true q1] at hc
        have nx : ∀ res N3 K3, PGs S k (ZL S Z u f g) (upt u f g) (f + 1) (sM N1 60 f (nI g)) K2' res N3 K3 → EK d mX4_goes (PGs S k Z u f N K2') 137 [(0, .ref 40), (1, .int (nI f)), (2, .int (nI tk)), (3, .int (nI (kpT S u f))), (4, .int (nI (goT u f))), (5, .int (nI (rkT S u f))), (6, .int (nI g))] (res.toList ++ []) N3 K3 := by
          rintro res N3 K3 ⟨y1, y2, y3, y4, o2, y5, y6⟩
          subst y1
          subst y2
          first | refine K_incN (lv' := [(0, _), (1, _), (2, _), (3, _), (4, _), (5, _), (6, _)]) dX4_goes_137 rfl (by decide) rfl rfl ?_ | refine K_iinc (lv' := [(0, _), (1, _), (2, _), (3, _), (4, _), (5, _), (6, _)]) dX4_goes_137 rfl rfl (by decide) rfl rfl ?_
          refine K_goto (tgt := 35) dX4_goes_140 (by decide) ?_
          exact l_X4_goes w ih hr hd R hT hp ho kk (g + 1) N3 (by omega) ⟨F2.trans y3, fun x hx => (y4 x (by omega)).trans (K2 x hx), o2, y5, y6.of (ZL_take q1)⟩
        by_cases hpl : s_pl S f = some g
        · rw [decide_eq_true ⟨q1, hpl⟩] at hc
          refine K_if_eqB (tgt := 137) dX4_goes_89 (by decide) rfl (fun c89 => by cases c89) (fun c89 => ?_)
          refine K_aload_n dX4_goes_92 rfl rfl ?_
          refine K_iload_n dX4_goes_93 rfl rfl ?_
          refine K_iconst (v := nI 1) dX4_goes_94 (by decide) rfl ?_
          refine K_addN dX4_goes_95 rfl ?_
          refine K_iload_n dX4_goes_96 rfl rfl ?_
          refine K_iconst (v := nI 1) dX4_goes_97 (by decide) rfl ?_
          refine K_iload dX4_goes_98 rfl rfl ?_
          first | refine K_shl1 dX4_goes_100 (by first | omega | fail) rfl ?_ | refine K_shlN dX4_goes_100 (by first | omega | fail) (by first | omega | fail) rfl ?_ | refine K_ishl dX4_goes_100 rfl ?_
          refine K_orN dX4_goes_101 rfl ?_
          refine K_iload_n dX4_goes_102 rfl rfl ?_
          refine K_aload_n dX4_goes_103 rfl rfl ?_
          refine K_getR (r := 55) dX4_goes_104 fl_X4_50 rfl rfl rfl rfl ?_
          refine K_iload_n dX4_goes_107 rfl rfl ?_
          refine K_iald dX4_goes_108 (by first | rfl | exact sk_rk (by omega) | exact sk_hh (by omega)) (by first | omega | fail) (by decide) (by first | assumption | rfl) rfl ?_
          refine K_iload dX4_goes_109 rfl rfl ?_
          refine K_icmp_neON (tgt := 118) dX4_goes_111 (by decide) rfl (by first | assumption | fail) (by first | omega | fail) (fun c111 => ?_) (fun c111 => ?_)
          · exact absurd hpl c111
          · refine K_iconst (v := nI 1) dX4_goes_114 (by decide) rfl ?_
            refine K_goto (tgt := 119) dX4_goes_115 (by decide) ?_
            refine K_addN dX4_goes_119 rfl ?_
            refine K_iload dX4_goes_120 rfl rfl ?_
            refine K_iconst (v := nI 1) dX4_goes_122 (by decide) rfl ?_
            refine K_addN dX4_goes_123 rfl ?_
            refine K_iload dX4_goes_124 rfl rfl ?_
            refine K_aload_n dX4_goes_126 rfl rfl ?_
            refine K_iload_n dX4_goes_127 rfl rfl ?_
            refine K_iload dX4_goes_128 rfl rfl ?_
            refine K_cv (ci := 4) (d1 := d - 1) [_, _] dX4_goes_130 ml_X4_111 (by decide) rfl rfl rfl (Nat.le_of_ble_eq_true rfl) (c_X4_rankOf R2 w (by omega) (by omega)) (by omega) rfl ?_
            refine K_addN dX4_goes_133 rfl ?_
            refine K_callV (ci := 4) (d1 := d - 1) [_, _, _, _, _] dX4_goes_134 ml_X4_208 (by decide) rfl rfl rfl (Nat.le_of_ble_eq_true rfl) hc (by omega) rfl ?_
            exact nx
        · rw [decide_eq_false (fun z => hpl z.2)] at hc
          refine K_if_eqB (tgt := 137) dX4_goes_89 (by decide) rfl (fun c89 => by cases c89) (fun c89 => ?_)
          refine K_aload_n dX4_goes_92 rfl rfl ?_
          refine K_iload_n dX4_goes_93 rfl rfl ?_
          refine K_iconst (v := nI 1) dX4_goes_94 (by decide) rfl ?_
          refine K_addN dX4_goes_95 rfl ?_
          refine K_iload_n dX4_goes_96 rfl rfl ?_
          refine K_iconst (v := nI 1) dX4_goes_97 (by decide) rfl ?_
          refine K_iload dX4_goes_98 rfl rfl ?_
          first | refine K_shl1 dX4_goes_100 (by first | omega | fail) rfl ?_ | refine K_shlN dX4_goes_100 (by first | omega | fail) (by first | omega | fail) rfl ?_ | refine K_ishl dX4_goes_100 rfl ?_
          refine K_orN dX4_goes_101 rfl ?_
          refine K_iload_n dX4_goes_102 rfl rfl ?_
          refine K_aload_n dX4_goes_103 rfl rfl ?_
          refine K_getR (r := 55) dX4_goes_104 fl_X4_50 rfl rfl rfl rfl ?_
          refine K_iload_n dX4_goes_107 rfl rfl ?_
          refine K_iald dX4_goes_108 (by first | rfl | exact sk_rk (by omega) | exact sk_hh (by omega)) (by first | omega | fail) (by decide) (by first | assumption | rfl) rfl ?_
          refine K_iload dX4_goes_109 rfl rfl ?_
          refine K_icmp_neON (tgt := 118) dX4_goes_111 (by decide) rfl (by first | assumption | fail) (by first | omega | fail) (fun c111 => ?_) (fun c111 => ?_)
          · refine K_iconst (v := nI 0) dX4_goes_118 (by decide) rfl ?_
            refine K_addN dX4_goes_119 rfl ?_
            refine K_iload dX4_goes_120 rfl rfl ?_
            refine K_iconst (v := nI 1) dX4_goes_122 (by decide) rfl ?_
            refine K_addN dX4_goes_123 rfl ?_
            refine K_iload dX4_goes_124 rfl rfl ?_
            refine K_aload_n dX4_goes_126 rfl rfl ?_
            refine K_iload_n dX4_goes_127 rfl rfl ?_
            refine K_iload dX4_goes_128 rfl rfl ?_
            refine K_cv (ci := 4) (d1 := d - 1) [_, _] dX4_goes_130 ml_X4_111 (by decide) rfl rfl rfl (Nat.le_of_ble_eq_true rfl) (c_X4_rankOf R2 w (by omega) (by omega)) (by omega) rfl ?_
            refine K_addN dX4_goes_133 rfl ?_
            refine K_callV (ci := 4) (d1 := d - 1) [_, _, _, _, _] dX4_goes_134 ml_X4_208 (by decide) rfl rfl rfl (Nat.le_of_ble_eq_true rfl) hc (by omega) rfl ?_
            exact nx
          · exact absurd c111 hpl
    refine K_iload dX4_goes_35 rfl rfl ?_
    refine K_aload_n dX4_goes_37 rfl rfl ?_
    refine K_getI dX4_goes_38 fl_X4_87 (by first | rfl | exact sk_rk (by omega) | exact sk_hh (by omega)) rfl (by first | assumption | rfl) rfl ?_
    refine K_icmp_geN (tgt := 143) dX4_goes_41 (by decide) rfl (by first | omega | fail) (by first | omega | fail) (fun c41 => ?_) (fun c41 => ?_)
    · omega
    · refine K_iload dX4_goes_44 rfl rfl ?_
      refine K_iload_n dX4_goes_46 rfl rfl ?_
      refine K_icmp_eqN (tgt := 137) dX4_goes_47 (by decide) rfl (by first | omega | fail) (by first | omega | fail) (fun c47 => ?_) (fun c47 => ?_)
      · first | refine K_incN (lv' := [(0, _), (1, _), (2, _), (3, _), (4, _), (5, _), (6, _)]) dX4_goes_137 rfl (by decide) rfl rfl ?_ | refine K_iinc (lv' := [(0, _), (1, _), (2, _), (3, _), (4, _), (5, _), (6, _)]) dX4_goes_137 rfl rfl (by decide) rfl rfl ?_
        refine K_goto (tgt := 35) dX4_goes_140 (by decide) ?_
        first | (refine skip (fun t _ _ h3 => h3 c47) N1 same; done) | (refine skip (fun t h1 h2 h3 => ?_) N1 same; have hx := (h1.1 f hf).2.1 (by rw [h2]; exact h3); rw [h2, c67] at hx; cases hx; done) | (refine skip (fun t h1 h2 h3 => ?_) N1 same; obtain ⟨x, x1, x2⟩ := (hp.2.2.2 g (by omega)).mp c57; have := h1.1.inj (show x < s_n S by omega) hf (by rw [h1.2 x x1, x2, h2]); omega)
      · refine K_iload_n dX4_goes_50 rfl rfl ?_
        refine K_iload dX4_goes_51 rfl rfl ?_
        first | refine K_shrN dX4_goes_53 (by first | omega | fail) (by first | omega | fail) rfl ?_ | refine K_ishr dX4_goes_53 rfl ?_
        refine K_iconst (v := nI 1) dX4_goes_54 (by decide) rfl ?_
        first | refine K_bitN dX4_goes_55 rfl ?_ | refine K_andN dX4_goes_55 rfl ?_ | refine K_iand dX4_goes_55 rfl ?_
        refine K_iconst (v := nI 1) dX4_goes_56 (by decide) rfl ?_
        refine K_icmp_eqB1 (tgt := 137) dX4_goes_57 (by decide) rfl (fun c57 => ?_) (fun c57 => ?_)
        · first | refine K_incN (lv' := [(0, _), (1, _), (2, _), (3, _), (4, _), (5, _), (6, _)]) dX4_goes_137 rfl (by decide) rfl rfl ?_ | refine K_iinc (lv' := [(0, _), (1, _), (2, _), (3, _), (4, _), (5, _), (6, _)]) dX4_goes_137 rfl rfl (by decide) rfl rfl ?_
          refine K_goto (tgt := 35) dX4_goes_140 (by decide) ?_
          first | (refine skip (fun t _ _ h3 => h3 c47) N1 same; done) | (refine skip (fun t h1 h2 h3 => ?_) N1 same; have hx := (h1.1 f hf).2.1 (by rw [h2]; exact h3); rw [h2, c67] at hx; cases hx; done) | (refine skip (fun t h1 h2 h3 => ?_) N1 same; obtain ⟨x, x1, x2⟩ := (hp.2.2.2 g (by omega)).mp c57; have := h1.1.inj (show x < s_n S by omega) hf (by rw [h1.2 x x1, x2, h2]); omega)
        · refine K_aload_n dX4_goes_60 rfl rfl ?_
          refine K_iload_n dX4_goes_61 rfl rfl ?_
          refine K_iload dX4_goes_62 rfl rfl ?_
          refine K_cv (ci := 4) (d1 := d - 1) [_, _] dX4_goes_64 ml_X4_148 (by decide) rfl rfl rfl (Nat.le_of_ble_eq_true rfl) (c_X4_takes (by omega) R1 w hf hgn) (by omega) rfl ?_
          refine K_if_neB (tgt := 73) dX4_goes_67 (by decide) rfl (fun c67 => ?_) (fun c67 => ?_)
          · refine K_aload_n dX4_goes_73 rfl rfl ?_
            refine K_getR (r := 60) dX4_goes_74 fl_X4_60 rfl rfl rfl rfl ?_
            refine K_iload_n dX4_goes_77 rfl rfl ?_
            refine K_iload dX4_goes_78 rfl rfl ?_
            refine K_iast dX4_goes_80 (by first | rfl | exact sk_rk (by omega) | exact sk_hh (by omega)) (by first | omega | fail) (by decide) rfl ?_
            refine K_aload_n dX4_goes_81 rfl rfl ?_
            refine K_iload_n dX4_goes_82 rfl rfl ?_
            refine K_iload_n dX4_goes_83 rfl rfl ?_
            refine K_iconst (v := nI 1) dX4_goes_84 (by decide) rfl ?_
            refine K_addN dX4_goes_85 rfl ?_
            refine K_callV (ci := 4) (d1 := d - 1) [_, _] dX4_goes_86 ml_X4_205 (by decide) rfl rfl rfl (Nat.le_of_ble_eq_true rfl) hsh (by omega) rfl ?_
            exact fin c47 (by simpa using c57) c67
          · refine K_goto (tgt := 137) dX4_goes_70 (by decide) ?_
            first | refine K_incN (lv' := [(0, _), (1, _), (2, _), (3, _), (4, _), (5, _), (6, _)]) dX4_goes_137 rfl (by decide) rfl rfl ?_ | refine K_iinc (lv' := [(0, _), (1, _), (2, _), (3, _), (4, _), (5, _), (6, _)]) dX4_goes_137 rfl rfl (by decide) rfl rfl ?_
            refine K_goto (tgt := 35) dX4_goes_140 (by decide) ?_
            first | (refine skip (fun t _ _ h3 => h3 c47) N1 same; done) | (refine skip (fun t h1 h2 h3 => ?_) N1 same; have hx := (h1.1 f hf).2.1 (by rw [h2]; exact h3); rw [h2, c67] at hx; cases hx; done) | (refine skip (fun t h1 h2 h3 => ?_) N1 same; obtain ⟨x, x1, x2⟩ := (hp.2.2.2 g (by omega)).mp c57; have := h1.1.inj (show x < s_n S by omega) hf (by rw [h1.2 x x1, x2, h2]); omega)
theorem Good.prune {S : GS} {k : Bool} {Z : (Nat → Nat) → Prop} {u b : Nat → Nat} {f : Nat} (h : Good S k Z (some b)) (ho : ∀ s t, Z s → Ext S u f t → nm s (s_n S) < nm t (s_n S)) (hm : ∀ t, Ext S u f t → mer S k t ≤ mer S k b) : Good S k (fun t => Z t ∨ Ext S u f t) (some b) := by
  obtain ⟨h1, h2⟩ := h
  rcases h2 with ⟨e, -⟩ | ⟨b2, e, c, d⟩
  · cases e
  · cases e
    refine ⟨fun t ht => ht.elim (h1 t) (fun z => z.1), Or.inr ⟨b, rfl, Or.inl c, fun t ht => ?_⟩⟩
    rcases ht with ht | ht
    · exact d t ht
    · have a := hm t ht
      have a2 := ho b t c ht
      rcases Nat.lt_or_ge (mer S k t) (mer S k b) with a3 | a3
      · exact Or.inl a3
      · exact Or.inr ⟨by omega, by omega⟩
theorem Good.new {S : GS} {k : Bool} {Z : (Nat → Nat) → Prop} {u : Nat → Nat} {o : Option (Nat → Nat)} (h : Good S k Z o) (hu : VP S u) (hm : ∀ b, o = some b → mer S k b < mer S k u) : Good S k (fun t => Z t ∨ Ext S u (s_n S) t) (some u) := by
  obtain ⟨h1, h2⟩ := h
  refine ⟨fun t ht => ht.elim (h1 t) (fun z => z.1), Or.inr ⟨u, rfl, Or.inr ⟨hu, fun _ _ => rfl⟩, fun t ht => ?_⟩⟩
  rcases ht with ht | ht
  · rcases h2 with ⟨-, e⟩ | ⟨b, e, c, d⟩
    · exact absurd ht (e t)
    · have a := hm b e
      rcases d t ht with a2 | a2
      · exact Or.inl (by omega)
      · exact Or.inl (by omega)
  · refine Or.inr ⟨mer_agree ht.2, ?_⟩
    rw [nm_agree ht.2]
    exact Nat.le_refl _
set_option maxRecDepth 100000 in
theorem c_X4_goes {S : GS} (w : WF S) {k : Bool} : ∀ r, GsC S k r
  | r, d, f, tk, u, o, Z, N, K, hr, hd, R, hS, hT, hp, hg, ho => by
    have hn := w.1.1
    have h7 := R.1.1
    have hvb : ∀ b, o = some b → VP S b := fun b e => by
      rcases hg.2 with ⟨e2, -⟩ | ⟨b2, e2, c, -⟩
      · rw [e] at e2; cases e2
      · rw [e] at e2; cases e2; exact hg.1 b c
    have hmb := c_X4_mayBe (d := d - 1) (K := K) (by omega) w (u := u) (show f ≤ s_n S by omega) R hS
    have fin : ∀ res N2 K2, PMB S k o u f N K res N2 K2 → EK d mX4_goes (PGs S k Z u f N K) 10 [(0, .ref 40), (1, .int (nI f)), (2, .int (nI tk)), (3, .int (nI (kpT S u f))), (4, .int (nI (goT u f))), (5, .int (nI (rkT S u f)))] (res.toList ++ []) N2 K2 := by
      rintro res N2 K2 ⟨z1, z2, x, z3, z4⟩
      subst z1
      subst z2
      subst z3
      cases x with
      | false =>
        obtain ⟨b, e1, e2⟩ := z4 rfl
        rw [e1] at hg hS
        refine K_if_neB (tgt := 14) dX4_goes_10 (by decide) rfl (fun c10 => by cases c10) (fun c10 => ?_)
        refine K_ret dX4_goes_13 rfl ?_
        exact ⟨rfl, rfl, GFb.rf N2, fun _ _ => rfl, some b, hS, hg.prune ho (fun t ht => prune w (by omega) ht.1 ht.2 e2)⟩
      | true =>
        cases r with
        | zero =>
          have hf : f = s_n S := by omega
          subst hf
          have hu := leafVP w hp
          refine K_if_neB (tgt := 14) dX4_goes_10 (by decide) rfl (fun c10 => ?_) (fun c10 => by cases c10)
          refine K_iload_n dX4_goes_14 rfl rfl ?_
          refine K_aload_n dX4_goes_15 rfl rfl ?_
          refine K_getI dX4_goes_16 fl_X4_87 (by first | rfl | exact sk_rk (by omega) | exact sk_hh (by omega)) rfl (by first | assumption | rfl) rfl ?_
          refine K_icmp_neN (tgt := 32) dX4_goes_19 (by decide) rfl (by first | omega | fail) (by first | omega | fail) (fun c19 => ?_) (fun c19 => ?_)
          · omega
          · refine K_aload_n dX4_goes_22 rfl rfl ?_
            refine K_iload_n dX4_goes_23 rfl rfl ?_
            refine K_iload dX4_goes_24 rfl rfl ?_
            refine K_iload dX4_goes_26 rfl rfl ?_
            refine K_callV (ci := 4) (d1 := d - 1) [_, _, _] dX4_goes_28 ml_X4_201 (by decide) rfl rfl rfl (Nat.le_of_ble_eq_true rfl) (c_X4_offers w R hS hT hu hvb) (by omega) rfl ?_
            rintro res N3 K3 ⟨y1, y2, y3, y4, y5⟩
            subst y1
            subst y2
            refine K_ret dX4_goes_31 rfl ?_
            rcases y5 with ⟨b, e1, e2, e3⟩ | ⟨e1, e2⟩
            · rw [e1] at hg e3
              exact ⟨rfl, rfl, y3, fun g _ => by rw [y4], some b, e3, hg.prune ho (fun t ht => by rw [mer_agree ht.2]; exact e2)⟩
            · exact ⟨rfl, rfl, y3, fun g _ => by rw [y4], some u, e2, hg.new hu e1⟩
        | succ r =>
          refine K_if_neB (tgt := 14) dX4_goes_10 (by decide) rfl (fun c10 => ?_) (fun c10 => by cases c10)
          refine K_iload_n dX4_goes_14 rfl rfl ?_
          refine K_aload_n dX4_goes_15 rfl rfl ?_
          refine K_getI dX4_goes_16 fl_X4_87 (by first | rfl | exact sk_rk (by omega) | exact sk_hh (by omega)) rfl (by first | assumption | rfl) rfl ?_
          refine K_icmp_neN (tgt := 32) dX4_goes_19 (by decide) rfl (by first | omega | fail) (by first | omega | fail) (fun c19 => ?_) (fun c19 => ?_)
          · refine K_iconst (v := nI 0) dX4_goes_32 (by decide) rfl ?_
            refine K_istore (lv' := [(0, _), (1, _), (2, _), (3, _), (4, _), (5, _), (6, _)]) dX4_goes_33 (by decide) rfl rfl ?_
            exact l_X4_goes w (c_X4_goes w r) hr (by omega) R hT hp ho (s_n S) 0 N2 (by omega) ⟨GFb.rf N2, fun _ _ => rfl, o, hS, hg.of ZL_0⟩
          · omega
    refine CK.start [(0, _), (1, _), (2, _), (3, _), (4, _), (5, _)] (plainFor_of_name (by decide)) (Nat.le_of_ble_eq_true rfl) rfl ?_
    refine K_aload_n dX4_goes_0 rfl rfl ?_
    refine K_iload_n dX4_goes_1 rfl rfl ?_
    refine K_iload_n dX4_goes_2 rfl rfl ?_
    refine K_iload dX4_goes_3 rfl rfl ?_
    refine K_iload dX4_goes_5 rfl rfl ?_
    refine K_callV (ci := 4) (d1 := d - 1) [_, _, _, _] dX4_goes_7 ml_X4_197 (by decide) rfl rfl rfl (Nat.le_of_ble_eq_true rfl) hmb (by omega) rfl ?_
    exact fin
  termination_by r => r
theorem l_X4_all {d : Nat} {S : GS} (w : WF S) {q : Nat → Option Nat} {N0 N : Mem} {K : Mej} {Post : PK} {x1 : Int32} (R : RY S N) (F : FY N0 N) (h61 : ∀ g, g < s_n S → N 61 g = oI (q g))
    (hP : ∀ N1, (∀ i, i ≠ 55 → N1 i = N i) → RY (plG S q) N1 → FY N0 N1 → Post none N1 K) :
    ∀ (k i : Nat) (N1 : Mem), i + k = s_n S → (∀ r, r ≠ 55 → N1 r = N r) → (∀ f, f < i → N1 55 f = oI (q f)) → EK d mX4_all Post 21 [(0, .ref 40), (1, .int x1), (2, .int (nI i))] [] N1 K
  | 0, i, N1, e, hF, hC => by
    have hn := w.1.1
    have hi : i = s_n S := by omega
    subst hi
    have h7 : N1 40 1 = nI (s_n S) := by rw [hF 40 (by decide)]; exact R.1.1
    refine K_iload_n dX4_all_21 rfl rfl ?_
    refine K_aload_n dX4_all_22 rfl rfl ?_
    refine K_getI dX4_all_23 fl_X4_87 (by first | rfl | exact sk_rk (by omega) | exact sk_hh (by omega)) rfl (by first | assumption | rfl) rfl ?_
    refine K_icmp_geN (tgt := 47) dX4_all_26 (by decide) rfl (by first | omega | fail) (by first | omega | fail) (fun c26 => ?_) (fun c26 => ?_)
    · refine K_ret dX4_all_47 rfl ?_
      exact hP N1 hF (R.plG (fun k _ _ => by rw [hF 40 (by decide)]) (fun i hi => hF i (by omega)) hC) (F.trans (fun i hi => hF i (by omega)))
    · omega
  | k + 1, i, N1, e, hF, hC => by
    have hn := w.1.1
    have h7 : N1 40 1 = nI (s_n S) := by rw [hF 40 (by decide)]; exact R.1.1
    have h6 : N1 61 i = oI (q i) := by rw [hF 61 (by decide)]; exact h61 i (by omega)
    have ih := l_X4_all (d := d) (x1 := x1) w R F h61 hP k (i + 1) (sM N1 55 i (oI (q i))) (by omega) (fun r hr => (sM_row hr).trans (hF r hr)) (fun f hf => by
      rw [sM_at]
      by_cases e3 : f = i
      · rw [if_pos ⟨rfl, e3⟩, e3]
      · rw [if_neg (by omega)]; exact hC f (by omega))
    refine K_iload_n dX4_all_21 rfl rfl ?_
    refine K_aload_n dX4_all_22 rfl rfl ?_
    refine K_getI dX4_all_23 fl_X4_87 (by first | rfl | exact sk_rk (by omega) | exact sk_hh (by omega)) rfl (by first | assumption | rfl) rfl ?_
    refine K_icmp_geN (tgt := 47) dX4_all_26 (by decide) rfl (by first | omega | fail) (by first | omega | fail) (fun c26 => ?_) (fun c26 => ?_)
    · omega
    · refine K_aload_n dX4_all_29 rfl rfl ?_
      refine K_getR (r := 55) dX4_all_30 fl_X4_50 rfl rfl rfl rfl ?_
      refine K_iload_n dX4_all_33 rfl rfl ?_
      refine K_aload_n dX4_all_34 rfl rfl ?_
      refine K_getR (r := 61) dX4_all_35 fl_X4_63 rfl rfl rfl rfl ?_
      refine K_iload_n dX4_all_38 rfl rfl ?_
      refine K_iald dX4_all_39 (by first | rfl | exact sk_rk (by omega) | exact sk_hh (by omega)) (by first | omega | fail) (by decide) (by first | assumption | rfl) rfl ?_
      refine K_iast dX4_all_40 (by first | rfl | exact sk_rk (by omega) | exact sk_hh (by omega)) (by first | omega | fail) (by decide) rfl ?_
      first | refine K_incN (lv' := [(0, _), (1, _), (2, _)]) dX4_all_41 rfl (by decide) rfl rfl ?_ | refine K_iinc (lv' := [(0, _), (1, _), (2, _)]) dX4_all_41 rfl rfl (by decide) rfl rfl ?_
      refine K_goto (tgt := 21) dX4_all_44 (by decide) ?_
      exact ih
theorem id_VP {S : GS} (w : WF S) : VP S (fun f => f) := fun f hf => ⟨hf, fun e => absurd rfl e, 1, Nat.le_refl 1, by have := w.1.2.2.2.2.1; omega, rfl⟩
set_option maxRecDepth 100000 in
theorem c_X4_all {d : Nat} (hd : 20 ≤ d) {S : GS} (w : WF S) {k : Bool} {N : Mem} {K : Mej} (R : RY S N) : CK d mX4_all [.ref 40, .int (bI k)] N K (fun r N1 K1 => r = none ∧ K1 = K ∧ FY N N1 ∧ ∃ b, IsB S k b ∧ RY (plG S (pv (s_n S) b)) N1 ∧ N1 40 25 = nI (goT b (s_n S)) ∧ N1 40 24 = nI (kpT S b (s_n S))) := by
  have hn := w.1.1
  have R1 : RY S (sM (sM N 40 22 (nI 0)) 40 23 (bI k)) := R.frame (fun j _ hj => (sM_ne (Or.inr (by omega))).trans (sM_ne (Or.inr (by omega)))) (fun i hi => (sM_row (by omega)).trans (sM_row (by omega)))
  have F1 : FY N (sM (sM N 40 22 (nI 0)) 40 23 (bI k)) := ((FY.rf N).set (by decide)).set (by decide)
  have S1 : StM S k none (sM (sM N 40 22 (nI 0)) 40 23 (bI k)) := ⟨(sM_ne (Or.inr (by decide))).trans (sM_eq _ _ _ _), sM_eq _ _ _ _, fun b hb => by cases hb⟩
  have hc := c_X4_goes w (k := k) (s_n S) (d - 1) 0 0 (fun f => f) none (fun _ => False) (sM (sM N 40 22 (nI 0)) 40 23 (bI k)) K (by omega) (by omega) R1 S1 (fun g hg => absurd hg (Nat.not_lt_zero g)) ⟨fun g hg => absurd hg (Nat.not_lt_zero g), fun g h hg => absurd hg (Nat.not_lt_zero g), by decide, fun x hx => ⟨(fun z => by rw [Nat.zero_testBit] at z; cases z), fun ⟨g, hg, _⟩ => absurd hg (Nat.not_lt_zero g)⟩⟩ ⟨fun t ht => ht.elim, Or.inl ⟨rfl, fun t ht => ht⟩⟩ (fun s t hs => hs.elim)
  refine CK.start [(0, _), (1, _)] (plainFor_of_name (by decide)) (Nat.le_of_ble_eq_true rfl) rfl ?_
  refine K_aload_n dX4_all_0 rfl rfl ?_
  refine K_iconst (v := nI 0) dX4_all_1 (by decide) rfl ?_
  refine K_putZ dX4_all_2 fl_X4_181 (by first | rfl | exact sk_rk (by omega) | exact sk_hh (by omega)) rfl rfl rfl (by first | exact bI_01 _ | exact Or.inl rfl | exact Or.inr rfl | assumption) rfl ?_
  refine K_aload_n dX4_all_5 rfl rfl ?_
  refine K_iload_n dX4_all_6 rfl rfl ?_
  refine K_putZ dX4_all_7 fl_X4_185 (by first | rfl | exact sk_rk (by omega) | exact sk_hh (by omega)) rfl rfl rfl (by first | exact bI_01 _ | exact Or.inl rfl | exact Or.inr rfl | assumption) rfl ?_
  refine K_aload_n dX4_all_10 rfl rfl ?_
  refine K_iconst (v := nI 0) dX4_all_11 (by decide) rfl ?_
  refine K_iconst (v := nI 0) dX4_all_12 (by decide) rfl ?_
  refine K_iconst (v := nI 0) dX4_all_13 (by decide) rfl ?_
  refine K_iconst (v := nI 0) dX4_all_14 (by decide) rfl ?_
  refine K_iconst (v := nI 0) dX4_all_15 (by decide) rfl ?_
  refine K_callV (ci := 4) (d1 := d - 1) [_, _, _, _, _] dX4_all_16 ml_X4_208 (by decide) rfl rfl rfl (Nat.le_of_ble_eq_true rfl) hc (by omega) rfl ?_
  rintro res N2 K2 ⟨z1, z2, z3, z4, o1, z5, z6⟩
  subst z1
  subst z2
  obtain ⟨b, e1, e2, e3⟩ : ∃ b, o1 = some b ∧ VP S b ∧ ∀ t, VP S t → bt S k t b := by
    rcases z6.2 with ⟨-, y2⟩ | ⟨b, y1, y2, y3⟩
    · exact absurd (Or.inr ⟨id_VP w, fun g hg => absurd hg (Nat.not_lt_zero g)⟩) (y2 (fun f => f))
    · exact ⟨b, y1, z6.1 b y2, fun t ht => y3 t (Or.inr ⟨ht, fun g hg => absurd hg (Nat.not_lt_zero g)⟩)⟩
  subst e1
  obtain ⟨q24, q25, q26, q61⟩ := z5.2.2 b rfl
  refine K_iconst (v := nI 0) dX4_all_19 (by decide) rfl ?_
  refine K_istore_n (lv' := [(0, _), (1, _), (2, _)]) dX4_all_20 (by decide) rfl rfl ?_
  exact l_X4_all w (R1.gfb z3) (F1.trans z3.fy) q61 (fun N3 y1 y2 y3 => ⟨rfl, rfl, y3, b, ⟨e2, e3⟩, y2, by rw [y1 40 (by decide)]; exact q25, by rw [y1 40 (by decide)]; exact q24⟩) (s_n S) 0 N2 (by omega) (fun _ _ => rfl) (fun f hf => absurd hf (Nat.not_lt_zero f))
