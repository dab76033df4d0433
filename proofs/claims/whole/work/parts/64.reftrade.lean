theorem ls_X4_trade {d : Nat} (hd : 5 ≤ d) {S : GS} {N : Mem} {K : Mej} {Post : PK} {x1 x2 x3 : Int32} (R : RY S N) (w : WF S) {L : Nat} (hL : L < 2 ^ s_n S) (hI : IL S L N)
    (next : ∀ N1, (∀ r, r ≠ 68 → N1 r = N r) → (∀ f, L.testBit f = true → N1 68 f = oI (fo S L f)) → EK d mX4_trade Post 119 [(0, .ref 40), (1, .int x1), (2, .int x2), (3, .int x3), (4, .int (oI none))] [] N1 K) :
    ∀ (k : Nat) (N1 : Mem), k ≤ s_n S → (∀ r, r ≠ 68 → N1 r = N r) → (∀ f, k ≤ f → L.testBit f = true → N1 68 f = oI (fo S L f)) → EK d mX4_trade Post 81 [(0, .ref 40), (1, .int x1), (2, .int x2), (3, .int x3), (4, .int (oI (pr k)))] [] N1 K
  | 0, N1, hk, hF, hS => by
    have ob := oB_pr (a := 0) (by omega)
    refine K_iload dX4_trade_81 rfl rfl ?_
    refine K_if_ltO (tgt := 119) dX4_trade_83 (by decide) rfl (by first | assumption | fail) (fun c83 => ?_) (fun c83 => ?_)
    · exact next N1 hF (fun f hf => hS f (Nat.zero_le f) hf)
    · exact absurd rfl c83
  | k + 1, N1, hk, hF, hS => by
    have hn := w.1.1
    have ob := oB_pr (a := k + 1) (by omega)
    have R1 : RY S N1 := R.frame (fun j _ _ => by rw [hF 40 (by decide)]) (fun i hi => hF i (by omega))
    have hI1 : IL S L N1 := fun f hf => by rw [hF 67 (by decide)]; exact hI f hf
    have h67 := hI1 k (by omega)
    have nx : ∀ v, (L.testBit k = true → v = oI (fo S L k)) → EK d mX4_trade Post 81 [(0, .ref 40), (1, .int x1), (2, .int x2), (3, .int x3), (4, .int (oI (pr k)))] [] (sM N1 68 k v) K := fun v hv =>
      ls_X4_trade hd R w hL hI next k (sM N1 68 k v) (by omega) (fun r hr => (sM_row hr).trans (hF r hr)) (fun f h1 h2 => by
        rw [sM_at]
        by_cases e : f = k
        · rw [if_pos ⟨rfl, e⟩, e]
          exact hv (e ▸ h2)
        · rw [if_neg (by omega)]
          exact hS f (by omega) h2)
    refine K_iload dX4_trade_81 rfl rfl ?_
    refine K_if_ltO (tgt := 119) dX4_trade_83 (by decide) rfl (by first | assumption | fail) (fun c83 => ?_) (fun c83 => ?_)
    · cases c83
    · change EK d mX4_trade Post 86 [(0, .ref 40), (1, .int x1), (2, .int x2), (3, .int x3), (4, .int (nI k))] [] N1 K
      refine K_aload_n dX4_trade_86 rfl rfl ?_
      refine K_getR (r := 68) dX4_trade_87 fl_X4_69 rfl rfl rfl rfl ?_
      refine K_iload dX4_trade_90 rfl rfl ?_
      refine K_aload_n dX4_trade_92 rfl rfl ?_
      refine K_getR (r := 67) dX4_trade_93 fl_X4_66 rfl rfl rfl rfl ?_
      refine K_iload dX4_trade_96 rfl rfl ?_
      refine K_zald dX4_trade_98 (by first | rfl | exact sk_rk (by omega) | exact sk_hh (by omega)) (by first | omega | fail) (by decide) (by first | assumption | rfl) rfl ?_
      refine K_if_eqB (tgt := 111) dX4_trade_99 (by decide) rfl (fun c99 => ?_) (fun c99 => ?_)
      · refine K_iconst (v := (-1)) dX4_trade_111 (by decide) rfl ?_
        refine K_iast dX4_trade_112 (by first | rfl | exact sk_rk (by omega) | exact sk_hh (by omega)) (by first | omega | fail) (by decide) rfl ?_
        refine K_decO (lv' := [(0, _), (1, _), (2, _), (3, _), (4, _)]) dX4_trade_113 rfl (by decide) rfl rfl ?_
        refine K_goto (tgt := 81) dX4_trade_116 (by decide) ?_
        first | exact nx _ (fun z => by rw [c99] at z; cases z) | exact nx _ (fun _ => rfl)
      · refine K_aload_n dX4_trade_102 rfl rfl ?_
        refine K_iload dX4_trade_103 rfl rfl ?_
        refine K_cv (ci := 4) (d1 := d - 1) [_] dX4_trade_105 ml_X4_216 (by decide) rfl rfl rfl (Nat.le_of_ble_eq_true rfl) (c_X4_firstOf (by omega) R1 w (by omega) hI1) (by omega) rfl ?_
        refine K_goto (tgt := 112) dX4_trade_108 (by decide) ?_
        refine K_iast dX4_trade_112 (by first | rfl | exact sk_rk (by omega) | exact sk_hh (by omega)) (by first | omega | fail) (by decide) rfl ?_
        refine K_decO (lv' := [(0, _), (1, _), (2, _), (3, _), (4, _)]) dX4_trade_113 rfl (by decide) rfl rfl ?_
        refine K_goto (tgt := 81) dX4_trade_116 (by decide) ?_
        first | exact nx _ (fun z => by rw [c99] at z; cases z) | exact nx _ (fun _ => rfl)
def FR (n : Nat) (q : Nat → Bool) (k : Nat) (o : Option Nat) : Prop := (o = none → ∀ f, k ≤ f → f < n → q f = false) ∧ ∀ x, o = some x → k ≤ x ∧ x < n ∧ q x = true ∧ ∀ f, k ≤ f → f < x → q f = false
theorem FR.fnd {n : Nat} {q : Nat → Bool} {o : Option Nat} (h : FR n q 0 o) : fnd q n = o := by
  cases o with
  | none => exact fnd_none (fun i hi => h.1 rfl i (Nat.zero_le i) hi)
  | some x =>
    obtain ⟨-, a, b, c⟩ := h.2 x rfl
    exact fnd_first b (fun j hj => c j (Nat.zero_le j) hj) a
theorem FR.keep {n : Nat} {q : Nat → Bool} {k : Nat} {o : Option Nat} (h : FR n q (k + 1) o) (hq : q k = false) : FR n q k o := by
  have hx : ∀ f, k ≤ f → f = k ∨ k + 1 ≤ f := fun f h1 => by omega
  refine ⟨fun e f h1 h2 => ?_, fun x e => ?_⟩
  · rcases hx f h1 with rfl | h3
    · exact hq
    · exact h.1 e f h3 h2
  · obtain ⟨a, b, c, d⟩ := h.2 x e
    refine ⟨by omega, b, c, fun f h1 h2 => ?_⟩
    rcases hx f h1 with rfl | h3
    · exact hq
    · exact d f h3 h2
theorem FR.take {n : Nat} {q : Nat → Bool} {k : Nat} (hk : k < n) (hq : q k = true) : FR n q k (some k) := ⟨(fun e => by cases e), fun x e => by
  cases e
  exact ⟨Nat.le_refl k, hk, hq, fun f h1 h2 => by omega⟩⟩
theorem lf_X4_trade {d : Nat} (hd : 5 ≤ d) {S : GS} {N : Mem} {K : Mej} {Post : PK} {x1 x2 : Int32} (R : RY S N) (w : WF S) {L : Nat} {s : Nat → Nat} (hL : L < 2 ^ s_n S) (hI : IL S L N) (hs : ∀ x, L.testBit x = true → N 68 x = nI (s x) ∧ L.testBit (s x) = true)
    (next : EK d mX4_trade Post 164 [(0, .ref 40), (1, .int x1), (2, .int x2), (3, .int (oI (fnd (fun f => L.testBit f && rd s f (s_n S) (s f)) (s_n S)))), (4, .int (oI none))] [] N K) :
    ∀ (k : Nat) (o : Option Nat), k ≤ s_n S → FR (s_n S) (fun f => L.testBit f && rd s f (s_n S) (s f)) k o → EK d mX4_trade Post 127 [(0, .ref 40), (1, .int x1), (2, .int x2), (3, .int (oI o)), (4, .int (oI (pr k)))] [] N K
  | 0, o, hk, hR => by
    have ob := oB_pr (a := 0) (by omega)
    rw [hR.fnd] at next
    refine K_iload dX4_trade_127 rfl rfl ?_
    refine K_if_ltO (tgt := 164) dX4_trade_129 (by decide) rfl (by first | assumption | fail) (fun c129 => ?_) (fun c129 => ?_)
    · exact next
    · exact absurd rfl c129
  | k + 1, o, hk, hR => by
    have hn := w.1.1
    have pp := p10 hn
    have ob := oB_pr (a := k + 1) (by omega)
    have h67 := hI k (by omega)
    have nx := fun o2 hR2 => lf_X4_trade (d := d) (K := K) (Post := Post) (x1 := x1) (x2 := x2) hd R w hL hI hs next k o2 (by omega) hR2
    cases hb : L.testBit k with
    | false =>
      refine K_iload dX4_trade_127 rfl rfl ?_
      refine K_if_ltO (tgt := 164) dX4_trade_129 (by decide) rfl (by first | assumption | fail) (fun c129 => ?_) (fun c129 => ?_)
      · cases c129
      · change EK d mX4_trade Post 132 [(0, .ref 40), (1, .int x1), (2, .int x2), (3, .int (oI o)), (4, .int (nI k))] [] N K
        refine K_aload_n dX4_trade_132 rfl rfl ?_
        refine K_getR (r := 67) dX4_trade_133 fl_X4_66 rfl rfl rfl rfl ?_
        refine K_iload dX4_trade_136 rfl rfl ?_
        refine K_zald dX4_trade_138 (by first | rfl | exact sk_rk (by omega) | exact sk_hh (by omega)) (by first | omega | fail) (by decide) (by first | assumption | rfl) rfl ?_
        refine K_if_eqB (tgt := 156) dX4_trade_139 (by decide) rfl (fun c139 => ?_) (fun c139 => ?_)
        · refine K_iload_n dX4_trade_156 rfl rfl ?_
          refine K_istore_n (lv' := [(0, _), (1, _), (2, _), (3, _), (4, _)]) dX4_trade_157 (by decide) rfl rfl ?_
          refine K_decO (lv' := [(0, _), (1, _), (2, _), (3, _), (4, _)]) dX4_trade_158 rfl (by decide) rfl rfl ?_
          refine K_goto (tgt := 127) dX4_trade_161 (by decide) ?_
          exact nx o (hR.keep (by show (L.testBit k && _) = false; rw [hb]; rfl))
        · rw [hb] at c139; cases c139
    | true =>
      have hcr := c_X4_isRound (d := d - 1) (K := K) hn R.1.1 hb hs (by omega)
      refine K_iload dX4_trade_127 rfl rfl ?_
      refine K_if_ltO (tgt := 164) dX4_trade_129 (by decide) rfl (by first | assumption | fail) (fun c129 => ?_) (fun c129 => ?_)
      · cases c129
      · change EK d mX4_trade Post 132 [(0, .ref 40), (1, .int x1), (2, .int x2), (3, .int (oI o)), (4, .int (nI k))] [] N K
        refine K_aload_n dX4_trade_132 rfl rfl ?_
        refine K_getR (r := 67) dX4_trade_133 fl_X4_66 rfl rfl rfl rfl ?_
        refine K_iload dX4_trade_136 rfl rfl ?_
        refine K_zald dX4_trade_138 (by first | rfl | exact sk_rk (by omega) | exact sk_hh (by omega)) (by first | omega | fail) (by decide) (by first | assumption | rfl) rfl ?_
        refine K_if_eqB (tgt := 156) dX4_trade_139 (by decide) rfl (fun c139 => ?_) (fun c139 => ?_)
        · rw [hb] at c139; cases c139
        · refine K_aload_n dX4_trade_142 rfl rfl ?_
          refine K_iload dX4_trade_143 rfl rfl ?_
          refine K_cv (ci := 4) (d1 := d - 1) [_] dX4_trade_145 ml_X4_222 (by decide) rfl rfl rfl (Nat.le_of_ble_eq_true rfl) hcr (by omega) rfl ?_
          refine K_if_eqB (tgt := 156) dX4_trade_148 (by decide) rfl (fun c148 => ?_) (fun c148 => ?_)
          · refine K_iload_n dX4_trade_156 rfl rfl ?_
            refine K_istore_n (lv' := [(0, _), (1, _), (2, _), (3, _), (4, _)]) dX4_trade_157 (by decide) rfl rfl ?_
            refine K_decO (lv' := [(0, _), (1, _), (2, _), (3, _), (4, _)]) dX4_trade_158 rfl (by decide) rfl rfl ?_
            refine K_goto (tgt := 127) dX4_trade_161 (by decide) ?_
            first | exact nx o (hR.keep (by show (L.testBit k && _) = false; rw [hb, c148]; rfl)) | exact nx (some k) (FR.take (by omega) (by show (L.testBit k && _) = true; rw [hb, c148]; rfl))
          · refine K_iload dX4_trade_151 rfl rfl ?_
            refine K_goto (tgt := 157) dX4_trade_153 (by decide) ?_
            refine K_istore_n (lv' := [(0, _), (1, _), (2, _), (3, _), (4, _)]) dX4_trade_157 (by decide) rfl rfl ?_
            refine K_decO (lv' := [(0, _), (1, _), (2, _), (3, _), (4, _)]) dX4_trade_158 rfl (by decide) rfl rfl ?_
            refine K_goto (tgt := 127) dX4_trade_161 (by decide) ?_
            first | exact nx o (hR.keep (by show (L.testBit k && _) = false; rw [hb, c148]; rfl)) | exact nx (some k) (FR.take (by omega) (by show (L.testBit k && _) = true; rw [hb, c148]; rfl))
theorem lw_X4_trade {d : Nat} {S : GS} {N0 : Mem} {K : Mej} {Post : PK} {x2 x3 : Int32} (w : WF S) {L0 : Nat} {s : Nat → Nat} (hL0 : L0 < 2 ^ s_n S) (hs : ∀ x, L0.testBit x = true → L0.testBit (s x) = true ∧ s x ≠ x) :
    ∀ (k x : Nat) (t : Nat × (Nat → Option Nat)) (N : Mem), cnt t.1.testBit (s_n S) ≤ k → t.1 < 2 ^ s_n S → (∀ j, t.1.testBit j = true → L0.testBit j = true) → L0.testBit x = true → PW S t.2 → RY (plG S t.2) N → IL S t.1 N → FY N0 N → (∀ x, L0.testBit x = true → N 68 x = nI (s x)) →
    (∀ N1, RY (plG S (rwk s k x t).2) N1 → PW S (rwk s k x t).2 → IL S (rwk s k x t).1 N1 → FY N0 N1 → EK d mX4_trade Post 45 [(0, .ref 40), (1, .int (nI (cnt (rwk s k x t).1.testBit (s_n S))))] [] N1 K) →
    EK d mX4_trade Post 167 [(0, .ref 40), (1, .int (nI (cnt t.1.testBit (s_n S)))), (2, .int x2), (3, .int x3), (4, .int (nI x))] [] N K
  | 0, x, t, N, hc, hL, hsub, hx, hp, R, hI, F, hS, next => by
    have hn := w.1.1
    have hxn := bit_lt hL0 hx
    have h67 := hI x hxn
    have h0 := cnt_zero hL (by omega)
    have hb : t.1.testBit x = false := by rw [h0, Nat.zero_testBit]
    refine K_aload_n dX4_trade_167 rfl rfl ?_
    refine K_getR (r := 67) dX4_trade_168 fl_X4_66 rfl rfl rfl rfl ?_
    refine K_iload dX4_trade_171 rfl rfl ?_
    refine K_zald dX4_trade_173 (by first | rfl | exact sk_rk (by omega) | exact sk_hh (by omega)) (by first | omega | fail) (by decide) (by first | assumption | rfl) rfl ?_
    refine K_if_eqB (tgt := 214) dX4_trade_174 (by decide) rfl (fun c174 => ?_) (fun c174 => ?_)
    · refine K_goto (tgt := 45) dX4_trade_214 (by decide) ?_
      refine K_pick [0, 1] rfl ?_
      exact next N R hp hI F
    · rw [hb] at c174; cases c174
  | k + 1, x, t, N, hc, hL, hsub, hx, hp, R, hI, F, hS, next => by
    have hn := w.1.1
    have hxn := bit_lt hL0 hx
    have h67 := hI x hxn
    cases hb : t.1.testBit x with
    | false =>
      have e2 : rwk s (k + 1) x t = t := by show (if t.1.testBit x = true then _ else t) = t; rw [if_neg (by rw [hb]; decide)]
      rw [e2] at next
      refine K_aload_n dX4_trade_167 rfl rfl ?_
      refine K_getR (r := 67) dX4_trade_168 fl_X4_66 rfl rfl rfl rfl ?_
      refine K_iload dX4_trade_171 rfl rfl ?_
      refine K_zald dX4_trade_173 (by first | rfl | exact sk_rk (by omega) | exact sk_hh (by omega)) (by first | omega | fail) (by decide) (by first | assumption | rfl) rfl ?_
      refine K_if_eqB (tgt := 214) dX4_trade_174 (by decide) rfl (fun c174 => ?_) (fun c174 => ?_)
      · refine K_goto (tgt := 45) dX4_trade_214 (by decide) ?_
        refine K_pick [0, 1] rfl ?_
        exact next N R hp hI F
      · rw [hb] at c174; cases c174
    | true =>
      have e2 : rwk s (k + 1) x t = rwk s k (s x) (rmB t.1 x, fun i => if i = x then some (s x) else t.2 i) := by show (if t.1.testBit x = true then _ else t) = _; rw [if_pos hb]
      rw [e2] at next
      have hrc := rmB_cnt hn hL hb
      have sxn := bit_lt hL0 (hs x hx).1
      have h68 : sM N 67 x (nI 0) 68 x = nI (s x) := (sM_ne (Or.inl (by decide))).trans (hS x hx)
      have h68b : sM (sM N 67 x (nI 0)) 55 x (nI (s x)) 68 x = nI (s x) := (sM_ne (Or.inl (by decide))).trans h68
      have ih := lw_X4_trade (d := d) (K := K) (Post := Post) (x2 := x2) (x3 := x3) (N0 := N0) w hL0 hs k (s x) (rmB t.1 x, fun i => if i = x then some (s x) else t.2 i) (sM (sM N 67 x (nI 0)) 55 x (nI (s x))) (by show cnt (rmB t.1 x).testBit _ ≤ k; omega) (rmB_lt hL) (fun j hj => by
        have hj : (rmB t.1 x).testBit j = true := hj
        rw [rmB_bit (show j < 10 by have := bit_lt (rmB_lt hL) hj; omega), Bool.and_eq_true] at hj
        exact hsub j hj.1) (hs x hx).1 (fun f g hfg => by
        by_cases e3 : f = x
        · have hfg : (if f = x then some (s x) else t.2 f) = some g := hfg
          rw [if_pos e3] at hfg
          cases hfg
          rw [e3]
          exact ⟨hxn, sxn, (hs x hx).2⟩
        · have hfg : (if f = x then some (s x) else t.2 f) = some g := hfg
          rw [if_neg e3] at hfg
          exact hp f g hfg) (by
        have := RY.plG (S := plG S t.2) (N1 := sM (sM N 67 x (nI 0)) 55 x (nI (s x))) R (q := fun i => if i = x then some (s x) else t.2 i) (fun j _ _ => (sM_ne (Or.inl (by decide))).trans (sM_ne (Or.inl (by decide)))) (fun i hi => (sM_row (by omega)).trans (sM_row (by omega))) (fun f hf => by
          rw [sM_at]
          by_cases e3 : f = x
          · rw [if_pos ⟨rfl, e3⟩, if_pos e3]; rfl
          · rw [if_neg (by omega), if_neg e3, sM_ne (Or.inl (by decide))]
            exact (R.2.1 f hf).2.2.2.2.2.2.2.2.2)
        rw [plG_2] at this
        exact this) (fun f hf => by
        show sM (sM N 67 x (nI 0)) 55 x (nI (s x)) 67 f = bI ((rmB t.1 x).testBit f)
        rw [sM_ne (Or.inl (by decide)), sM_at, rmB_bit (by omega)]
        by_cases e3 : f = x
        · rw [if_pos ⟨rfl, e3⟩, e3]; simp; rfl
        · rw [if_neg (by omega), hI f hf]; simp [e3]) ((F.set (by decide)).set (by decide)) (fun z hz => (sM_ne (Or.inl (by decide))).trans ((sM_ne (Or.inl (by decide))).trans (hS z hz))) next
      rw [show cnt t.1.testBit (s_n S) = cnt (rmB t.1 x).testBit (s_n S) + 1 by omega]
      refine K_aload_n dX4_trade_167 rfl rfl ?_
      refine K_getR (r := 67) dX4_trade_168 fl_X4_66 rfl rfl rfl rfl ?_
      refine K_iload dX4_trade_171 rfl rfl ?_
      refine K_zald dX4_trade_173 (by first | rfl | exact sk_rk (by omega) | exact sk_hh (by omega)) (by first | omega | fail) (by decide) (by first | assumption | rfl) rfl ?_
      refine K_if_eqB (tgt := 214) dX4_trade_174 (by decide) rfl (fun c174 => ?_) (fun c174 => ?_)
      · rw [hb] at c174; cases c174
      · refine K_aload_n dX4_trade_177 rfl rfl ?_
        refine K_getR (r := 67) dX4_trade_178 fl_X4_66 rfl rfl rfl rfl ?_
        refine K_iload dX4_trade_181 rfl rfl ?_
        refine K_iconst (v := nI 0) dX4_trade_183 (by decide) rfl ?_
        refine K_zast dX4_trade_184 (by first | rfl | exact sk_rk (by omega) | exact sk_hh (by omega)) (by first | omega | fail) (by decide) (by first | exact bI_01 _ | exact Or.inl rfl | exact Or.inr rfl | assumption) rfl ?_
        first | refine K_decN (lv' := [(0, _), (1, _), (2, _), (3, _), (4, _)]) dX4_trade_185 rfl (by decide) rfl rfl ?_ | refine K_iinc (lv' := [(0, _), (1, _), (2, _), (3, _), (4, _)]) dX4_trade_185 rfl rfl (by decide) rfl rfl ?_
        refine K_aload_n dX4_trade_188 rfl rfl ?_
        refine K_getR (r := 55) dX4_trade_189 fl_X4_50 rfl rfl rfl rfl ?_
        refine K_iload dX4_trade_192 rfl rfl ?_
        refine K_aload_n dX4_trade_194 rfl rfl ?_
        refine K_getR (r := 68) dX4_trade_195 fl_X4_69 rfl rfl rfl rfl ?_
        refine K_iload dX4_trade_198 rfl rfl ?_
        refine K_iald dX4_trade_200 (by first | rfl | exact sk_rk (by omega) | exact sk_hh (by omega)) (by first | omega | fail) (by decide) (by first | assumption | rfl) rfl ?_
        refine K_iast dX4_trade_201 (by first | rfl | exact sk_rk (by omega) | exact sk_hh (by omega)) (by first | omega | fail) (by decide) rfl ?_
        refine K_aload_n dX4_trade_202 rfl rfl ?_
        refine K_getR (r := 68) dX4_trade_203 fl_X4_69 rfl rfl rfl rfl ?_
        refine K_iload dX4_trade_206 rfl rfl ?_
        refine K_iald dX4_trade_208 (by first | rfl | exact sk_rk (by omega) | exact sk_hh (by omega)) (by first | omega | fail) (by decide) (by first | assumption | rfl) rfl ?_
        refine K_istore (lv' := [(0, _), (1, _), (2, _), (3, _), (4, _)]) dX4_trade_209 (by decide) rfl rfl ?_
        refine K_goto (tgt := 167) dX4_trade_211 (by decide) ?_
        exact ih
