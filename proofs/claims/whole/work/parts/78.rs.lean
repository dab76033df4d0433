/-! the class's settleFirst, settleAll -/
def SF (S : GS) (k : Bool) (R : Nat → Option Int) (X : Nat) (v : Int) (D0 D : Nat → Option Int) (W : Nat) (K0 K : Mej) : Prop := DTb S D K ∧ SndS S k D ∧ (∀ Y, X ≤ Y → D Y = D0 Y) ∧ (∀ Y x, geO (D0 Y) x → geO (D Y) x) ∧ geO (D (X &&& (X - 1))) (v - ((10 * 11 ^ (9 - lst X) : Nat) : Int)) ∧ (∀ V, V ≠ 0 → (∀ i, V.testBit i = true → (X &&& (X - 1)).testBit i = true) → W < V → ∀ r, R (V ||| 2 ^ lst X) = some r → geO (D ((X &&& (X - 1)) ^^^ V)) (v + r)) ∧ ∀ b, b ≠ 15 → K b = K0 b
theorem xs_le {a b : Nat} (h : ∀ i, b.testBit i = true → a.testBit i = true) : a ^^^ b ≤ a := by
  have e : (a ^^^ b) &&& a = a ^^^ b := Nat.eq_of_testBit_eq (fun i => by
    rw [Nat.testBit_and, Nat.testBit_xor]
    cases c : b.testBit i with
    | false => simp
    | true => rw [h i c]; rfl)
  have := Nat.and_le_right (n := a ^^^ b) (m := a)
  omega
set_option maxRecDepth 100000 in
theorem l_X1_settleFirst {d : Nat} (hd : 1 ≤ d) {S : GS} {k : Bool} {X : Nat} {v : Int} {R D0 : Nat → Option Int} {N : Mem} {K0 : Mej} {x4 : Int32} {Post : PK} (w : WF S) (hX : X < 2 ^ s_n S) (h0 : X ≠ 0) (TR : RTb S R K0) (sR : SndR S k R) (hv : D0 X = some v) (bv : -300000000000000 ≤ v ∧ v ≤ 300000000000000) (hP : ∀ D K1, SF S k R X v D0 D 0 K0 K1 → Post none N K1) :
    ∀ (W : Nat) (D : Nat → Option Int) (K : Mej), (∀ i, W.testBit i = true → (X &&& (X - 1)).testBit i = true) → SF S k R X v D0 D W K0 K → EK d mX1_settleFirst Post 54 [(0, .ref 6), (1, .int (nI X)), (2, .int (nI (X &&& (X - 1)))), (3, .int (nI (2 ^ lst X))), (4, .int x4), (5, .int (nI W))] [] N K := by
  have hn := w.1.1
  have pp := p10 hn
  obtain ⟨-, lo2, lo3, -, lo5, lo6⟩ := low_all X (by omega) h0
  have rb := rst_bit (show X < 1024 by omega) h0
  obtain ⟨l1, l2⟩ := low_bit (show X < 1024 by omega) h0
  have sn := bit_lt hX l1
  have rl : X &&& (X - 1) < 2 ^ s_n S := by omega
  intro W
  induction W using Nat.strongRecOn with
  | ind W ih =>
    intro D K hW I
    obtain ⟨i1, i2, i3, i4, i5, i6, i7⟩ := I
    have wle : W ≤ X &&& (X - 1) := by
      have e : W &&& (X &&& (X - 1)) = W := Nat.eq_of_testBit_eq (fun i => by
        rw [Nat.testBit_and]
        cases c : W.testBit i with
        | false => rfl
        | true => rw [hW i c]; rfl)
      have := Nat.and_le_right (n := W) (m := X &&& (X - 1))
      omega
    by_cases hz : W = 0
    · subst hz
      refine K_iload dX1_settleFirst_54 rfl rfl ?_
      refine K_if_leN (tgt := 125) dX1_settleFirst_56 (by decide) rfl (by first | omega | fail) (fun c56 => ?_) (fun c56 => ?_)
      · refine K_ret dX1_settleFirst_125 rfl ?_
        exact hP D K ⟨i1, i2, i3, i4, i5, i6, i7⟩
      · omega
    · have hsub : ∀ i, (W - 1 &&& (X &&& (X - 1))).testBit i = true → (X &&& (X - 1)).testBit i = true := fun i hi => by
        rw [Nat.testBit_and, Bool.and_eq_true] at hi
        exact hi.2
      have hnl : W - 1 &&& (X &&& (X - 1)) < W := by
        have := Nat.and_le_left (n := W - 1) (m := X &&& (X - 1))
        omega
      have nextV : ∀ V, (∀ i, V.testBit i = true → (X &&& (X - 1)).testBit i = true) → (W - 1 &&& (X &&& (X - 1))) < V → V = W ∨ W < V := fun V h1 h2 => by
        rcases Nat.lt_trichotomy V W with h3 | h3 | h3
        · have := sub_next 10 V W (X &&& (X - 1)) (by omega) hW h1 h3
          omega
        · exact Or.inl h3
        · exact Or.inr h3
      have hor : W ||| 2 ^ lst X < 2 ^ s_n S := Nat.or_lt_two_pow (by omega) (Nat.pow_lt_pow_right (by omega) sn)
      have h14 : K 14 (W ||| 2 ^ lst X) = jO (R (W ||| 2 ^ lst X)) := by rw [i7 14 (by decide)]; exact TR _ hor
      have hxl := xs_le hW
      have h15 : K 15 ((X &&& (X - 1)) ^^^ W) = jO (D ((X &&& (X - 1)) ^^^ W)) := i1 _ (by omega)
      have h15x : K 15 X = jO (some v) := by rw [i1 X hX, i3 X (Nat.le_refl X), hv]
      cases hr : R (W ||| 2 ^ lst X) with
      | none =>
        rw [hr] at h14
        have nx := ih (W - 1 &&& (X &&& (X - 1))) hnl D K hsub ⟨i1, i2, i3, i4, i5, (fun V v0 h1 h2 r hr2 => by
          rcases nextV V h1 h2 with rfl | h3
          · rw [hr] at hr2; cases hr2
          · exact i6 V v0 h1 h3 r hr2), i7⟩
        refine K_iload dX1_settleFirst_54 rfl rfl ?_
        refine K_if_leN (tgt := 125) dX1_settleFirst_56 (by decide) rfl (by first | omega | fail) (fun c56 => ?_) (fun c56 => ?_)
        · omega
        · refine K_aload_n dX1_settleFirst_59 rfl rfl ?_
          refine K_getR (r := 14) dX1_settleFirst_60 fl_X1_21 rfl rfl rfl rfl ?_
          refine K_iload dX1_settleFirst_63 rfl rfl ?_
          refine K_iload_n dX1_settleFirst_65 rfl rfl ?_
          refine K_orN dX1_settleFirst_66 rfl ?_
          refine K_lald dX1_settleFirst_67 (by first | rfl | exact sk_rk (by omega) | exact sk_hh (by omega)) (by first | omega | fail) (by decide) (by first | assumption | rfl) rfl ?_
          refine K_ldc2 dX1_settleFirst_68 kl_X1_33 rfl ?_
          refine K_lcmp dX1_settleFirst_71 rfl ?_
          refine K_if_eq (tgt := 114) dX1_settleFirst_72 (by decide) rfl (fun c72 => ?_) (fun c72 => ?_)
          · refine K_iload dX1_settleFirst_114 rfl rfl ?_
            refine K_iconst (v := nI 1) dX1_settleFirst_116 (by decide) rfl ?_
            refine K_subN dX1_settleFirst_117 (by first | omega | fail) rfl ?_
            refine K_iload_n dX1_settleFirst_118 rfl rfl ?_
            refine K_andN dX1_settleFirst_119 rfl ?_
            refine K_istore (lv' := [(0, _), (1, _), (2, _), (3, _), (4, _), (5, _)]) dX1_settleFirst_120 (by decide) rfl rfl ?_
            refine K_goto (tgt := 54) dX1_settleFirst_122 (by decide) ?_
            exact nx
          · exact absurd ((lg_cmp_eq _ _).mpr rfl) c72
      | some r =>
        rw [hr] at h14
        have br := sR.b hn _ r hr
        have nm : jO (some r) ≠ -4611686018427387904 := fun z => by
          have := (jO_eq (o := some r) (fun x e2 => by cases e2; exact jB_of (by omega))).mp z
          cases this
        have es : jO (some v) + jO (some r) = jO (some (v + r)) := (Int64.ofInt_add _ _).symm
        have hmx : CK (d - 1) mJ9_max_f86c9 [.long (jO (D ((X &&& (X - 1)) ^^^ W))), .long (jO (some v) + jO (some r))] N K (PX (some (.long (jO (omx (D ((X &&& (X - 1)) ^^^ W)) (some (v + r)))))) N K) := by
          rw [es, ← mx_jO (fun x e => jB_of (by have := i2.b hn (show (X &&& (X - 1)) ^^^ W < 2 ^ s_n S by omega) x e; omega)) (fun x e => by cases e; exact jB_of (by omega))]
          exact c_J9_max_f86c9
        have snd : ∃ t, PVP S ((X &&& (X - 1)) ^^^ W) t ∧ v + r = scL S k ((X &&& (X - 1)) ^^^ W) t := by
          obtain ⟨t, t1, t2⟩ := i2 X v hX (by rw [i3 X (Nat.le_refl X)]; exact hv)
          obtain ⟨s, m, p, q1, q2, q3, q4, q5, q6, q7⟩ := sR _ r hr
          have yb : ∀ f, (amF p m).testBit f = (W.testBit f || decide (f = lst X)) := fun f => by rw [q6, or_bit, Bool.or_comm]
          obtain ⟨u, u1, u2⟩ := ring_snd (k := k) (X := X) (X1 := (X &&& (X - 1)) ^^^ W) t1 q4 q1 q2 q3 q5 (fun f _ hf => by
            rw [yb, Bool.or_eq_true, decide_eq_true_eq] at hf
            rcases hf with hf | rfl
            · have := hW f hf
              rw [rb, Bool.and_eq_true] at this
              exact this.1
            · exact l1) (fun f _ => by
            rw [Nat.testBit_xor, rb, yb]
            by_cases e3 : f = lst X
            · have : W.testBit f = false := by
                cases c : W.testBit f with
                | false => rfl
                | true => have := hW f c; rw [e3, lo3] at this; cases this
              rw [this]; simp [e3]
            · cases c : W.testBit f with
              | false => simp [e3]
              | true =>
                have := hW f c
                rw [rb, Bool.and_eq_true] at this
                rw [this.1]; simp [e3])
          exact ⟨u, u1, by rw [← u2, t2, q7]⟩
        have nx := ih (W - 1 &&& (X &&& (X - 1))) hnl (upR D ((X &&& (X - 1)) ^^^ W) (omx (D ((X &&& (X - 1)) ^^^ W)) (some (v + r)))) (sJ K 15 ((X &&& (X - 1)) ^^^ W) (jO (omx (D ((X &&& (X - 1)) ^^^ W)) (some (v + r))))) hsub ⟨fun Y hY => by
          rw [sJ_at]
          unfold upR
          by_cases e3 : Y = (X &&& (X - 1)) ^^^ W
          · rw [if_pos ⟨rfl, e3⟩, if_pos e3]
          · rw [if_neg (fun z => e3 z.2), if_neg e3]; exact i1 Y hY, i2.up (fun _ => snd), (fun Y hY => by
          unfold upR
          rw [if_neg (by omega)]
          exact i3 Y hY), fun Y x h => upR_mono (i4 Y x h), upR_mono i5, (fun V v0 h1 h2 r2 hr2 => by
          rcases nextV V h1 h2 with rfl | h3
          · rw [hr] at hr2
            cases hr2
            unfold upR
            rw [if_pos rfl]
            exact omx_r
          · exact upR_mono (i6 V v0 h1 h3 r2 hr2)), fun b hb => (sJ_row hb).trans (i7 b hb)⟩
        refine K_iload dX1_settleFirst_54 rfl rfl ?_
        refine K_if_leN (tgt := 125) dX1_settleFirst_56 (by decide) rfl (by first | omega | fail) (fun c56 => ?_) (fun c56 => ?_)
        · omega
        · refine K_aload_n dX1_settleFirst_59 rfl rfl ?_
          refine K_getR (r := 14) dX1_settleFirst_60 fl_X1_21 rfl rfl rfl rfl ?_
          refine K_iload dX1_settleFirst_63 rfl rfl ?_
          refine K_iload_n dX1_settleFirst_65 rfl rfl ?_
          refine K_orN dX1_settleFirst_66 rfl ?_
          refine K_lald dX1_settleFirst_67 (by first | rfl | exact sk_rk (by omega) | exact sk_hh (by omega)) (by first | omega | fail) (by decide) (by first | assumption | rfl) rfl ?_
          refine K_ldc2 dX1_settleFirst_68 kl_X1_33 rfl ?_
          refine K_lcmp dX1_settleFirst_71 rfl ?_
          refine K_if_eq (tgt := 114) dX1_settleFirst_72 (by decide) rfl (fun c72 => ?_) (fun c72 => ?_)
          · exact absurd ((lg_cmp_eq _ _).mp c72) nm
          · refine K_iload_n dX1_settleFirst_75 rfl rfl ?_
            refine K_iload dX1_settleFirst_76 rfl rfl ?_
            refine K_xorN dX1_settleFirst_78 rfl ?_
            refine K_istore (lv' := [(0, _), (1, _), (2, _), (3, _), (4, _), (5, _), (6, _)]) dX1_settleFirst_79 (by decide) rfl rfl ?_
            refine K_aload_n dX1_settleFirst_81 rfl rfl ?_
            refine K_getR (r := 15) dX1_settleFirst_82 fl_X1_24 rfl rfl rfl rfl ?_
            refine K_iload dX1_settleFirst_85 rfl rfl ?_
            refine K_aload_n dX1_settleFirst_87 rfl rfl ?_
            refine K_getR (r := 15) dX1_settleFirst_88 fl_X1_24 rfl rfl rfl rfl ?_
            refine K_iload dX1_settleFirst_91 rfl rfl ?_
            refine K_lald dX1_settleFirst_93 (by first | rfl | exact sk_rk (by omega) | exact sk_hh (by omega)) (by first | omega | fail) (by decide) (by first | assumption | rfl) rfl ?_
            refine K_aload_n dX1_settleFirst_94 rfl rfl ?_
            refine K_getR (r := 15) dX1_settleFirst_95 fl_X1_24 rfl rfl rfl rfl ?_
            refine K_iload_n dX1_settleFirst_98 rfl rfl ?_
            refine K_lald dX1_settleFirst_99 (by first | rfl | exact sk_rk (by omega) | exact sk_hh (by omega)) (by first | omega | fail) (by decide) (by first | assumption | rfl) rfl ?_
            refine K_aload_n dX1_settleFirst_100 rfl rfl ?_
            refine K_getR (r := 14) dX1_settleFirst_101 fl_X1_21 rfl rfl rfl rfl ?_
            refine K_iload dX1_settleFirst_104 rfl rfl ?_
            refine K_iload_n dX1_settleFirst_106 rfl rfl ?_
            refine K_orN dX1_settleFirst_107 rfl ?_
            refine K_lald dX1_settleFirst_108 (by first | rfl | exact sk_rk (by omega) | exact sk_hh (by omega)) (by first | omega | fail) (by decide) (by first | assumption | rfl) rfl ?_
            refine K_ladd dX1_settleFirst_109 rfl ?_
            refine K_sv (d1 := d - 1) [_, _] dX1_settleFirst_110 ml_X1_68 rfl rfl (Nat.le_of_ble_eq_true rfl) hmx (by omega) rfl ?_
            refine K_last dX1_settleFirst_113 (by first | rfl | exact sk_rk (by omega) | exact sk_hh (by omega)) (by first | omega | fail) (by decide) rfl ?_
            refine K_iload dX1_settleFirst_114 rfl rfl ?_
            refine K_iconst (v := nI 1) dX1_settleFirst_116 (by decide) rfl ?_
            refine K_subN dX1_settleFirst_117 (by first | omega | fail) rfl ?_
            refine K_iload_n dX1_settleFirst_118 rfl rfl ?_
            refine K_andN dX1_settleFirst_119 rfl ?_
            refine K_istore (lv' := [(0, _), (1, _), (2, _), (3, _), (4, _), (5, _), (6, _)]) dX1_settleFirst_120 (by decide) rfl rfl ?_
            refine K_goto (tgt := 54) dX1_settleFirst_122 (by decide) ?_
            refine K_pick [0, 1, 2, 3, 4, 5] rfl ?_
            exact nx
set_option maxRecDepth 100000 in
theorem c_X1_settleFirst {d : Nat} (hd : 1 ≤ d) {S : GS} {k : Bool} {X : Nat} {v : Int} {R D : Nat → Option Int} {N : Mem} {K : Mej} (w : WF S) (hX : X < 2 ^ s_n S) (h0 : X ≠ 0) (TD : DTb S D K) (TR : RTb S R K) (sD : SndS S k D) (sR : SndR S k R) (hv : D X = some v) (h11 : ∀ f, f < 10 → K 11 f = pl11 f) :
    CK d mX1_settleFirst [.ref 6, .int (nI X)] N K (fun r N1 K1 => r = none ∧ N1 = N ∧ (∀ b, b ≠ 15 → K1 b = K b) ∧ ∃ D2, DTb S D2 K1 ∧ SndS S k D2 ∧ (∀ Y, X ≤ Y → D2 Y = D Y) ∧ (∀ Y x, geO (D Y) x → geO (D2 Y) x) ∧ PrS D2 R X) := by
  have hn := w.1.1
  have pp := p10 hn
  obtain ⟨lo1, lo2, lo3, lo4, lo5, lo6⟩ := low_all X (by omega) h0
  have bv := sD.b hn hX v hv
  have hp := pow_le (lst X)
  have rl : X &&& (X - 1) < 2 ^ s_n S := by omega
  have l4 : 2 ^ lst X < 1024 := show 2 ^ lst X < 2 ^ 10 from Nat.pow_lt_pow_right (by omega) lo6
  have l5 : 0 < 2 ^ lst X := Nat.two_pow_pos _
  have hbc : CK (d - 1) mJ6_bitCount_0f7a4 [.int (nI (2 ^ lst X - 1))] N K (PX (some (.int (nI (lst X)))) N K) := by
    have h := c_J6_bitCount (d := d - 1) (N := N) (K := K) (m := 2 ^ lst X - 1) (by omega)
    rw [lo4] at h
    exact h
  have h15 := TD _ rl
  have h15x : K 15 X = jO (some v) := by rw [TD X hX, hv]
  have hpl := h11 (lst X) lo6
  have es : jO (some v) - 10 * pl11 (lst X) = jO (some (v - ((10 * 11 ^ (9 - lst X) : Nat) : Int))) := by
    rw [pl_int]
    show _ = Int64.ofInt _
    rw [Int64.ofInt_sub, show ((10 * 11 ^ (9 - lst X) : Nat) : Int) = 10 * ((11 ^ (9 - lst X) : Nat) : Int) from Int.natCast_mul _ _, Int64.ofInt_mul]
    rfl
  have hmx : CK (d - 1) mJ9_max_f86c9 [.long (jO (D (X &&& (X - 1)))), .long (jO (some v) - 10 * pl11 (lst X))] N K (PX (some (.long (jO (omx (D (X &&& (X - 1))) (some (v - ((10 * 11 ^ (9 - lst X) : Nat) : Int))))))) N K) := by
    rw [es, ← mx_jO (fun x e => jB_of (by have := sD.b hn rl x e; omega)) (fun x e => by cases e; exact jB_of (by omega))]
    exact c_J9_max_f86c9
  have start := l_X1_settleFirst (d := d) (N := N) (x4 := nI (lst X)) (Post := fun r N1 K1 => r = none ∧ N1 = N ∧ (∀ b, b ≠ 15 → K1 b = K b) ∧ ∃ D2, DTb S D2 K1 ∧ SndS S k D2 ∧ (∀ Y, X ≤ Y → D2 Y = D Y) ∧ (∀ Y x, geO (D Y) x → geO (D2 Y) x) ∧ PrS D2 R X) hd w hX h0 TR sR hv bv (fun D2 K1 ⟨i1, i2, i3, i4, i5, i6, i7⟩ => ⟨rfl, rfl, i7, D2, i1, i2, i3, i4, fun x e => by
    rw [i3 X (Nat.le_refl X), hv] at e
    cases e
    exact ⟨i5, fun V v0 h1 r hr => i6 V v0 h1 (by omega) r hr⟩⟩) (X &&& (X - 1)) (upR D (X &&& (X - 1)) (omx (D (X &&& (X - 1))) (some (v - ((10 * 11 ^ (9 - lst X) : Nat) : Int))))) (sJ K 15 (X &&& (X - 1)) (jO (omx (D (X &&& (X - 1))) (some (v - ((10 * 11 ^ (9 - lst X) : Nat) : Int)))))) (fun i hi => hi) ⟨fun Y hY => by
    rw [sJ_at]
    unfold upR
    by_cases e3 : Y = X &&& (X - 1)
    · rw [if_pos ⟨rfl, e3⟩, if_pos e3]
    · rw [if_neg (fun z => e3 z.2), if_neg e3]; exact TD Y hY, sD.up (fun _ => by
    obtain ⟨t, t1, t2⟩ := sD X v hX hv
    obtain ⟨u, u1, u2⟩ := stay_snd (k := k) w hX h0 t1
    exact ⟨u, u1, by rw [t2]; exact u2⟩), (fun Y hY => by
    unfold upR
    rw [if_neg (by omega)]), fun Y x h => upR_mono h, (by
    unfold upR
    rw [if_pos rfl]
    exact omx_r), (fun V v0 h1 h2 => by
    exfalso
    have e : V &&& (X &&& (X - 1)) = V := Nat.eq_of_testBit_eq (fun i => by
      rw [Nat.testBit_and]
      cases c : V.testBit i with
      | false => rfl
      | true => rw [h1 i c]; rfl)
    have := Nat.and_le_right (n := V) (m := X &&& (X - 1))
    omega), fun b hb => sJ_row hb⟩
  refine CK.start [(0, _), (1, _)] (plainFor_of_name (by decide)) (Nat.le_of_ble_eq_true rfl) rfl ?_
  refine K_iload_n dX1_settleFirst_0 rfl rfl ?_
  refine K_iload_n dX1_settleFirst_1 rfl rfl ?_
  refine K_iconst (v := nI 1) dX1_settleFirst_2 (by decide) rfl ?_
  refine K_subN dX1_settleFirst_3 (by first | omega | fail) rfl ?_
  refine K_andN dX1_settleFirst_4 rfl ?_
  refine K_istore_n (lv' := [(0, _), (1, _), (2, _)]) dX1_settleFirst_5 (by decide) rfl rfl ?_
  refine K_iload_n dX1_settleFirst_6 rfl rfl ?_
  refine K_iload_n dX1_settleFirst_7 rfl rfl ?_
  refine K_xorN dX1_settleFirst_8 rfl ?_
  refine K_istore_n (lv' := [(0, _), (1, _), (2, _), (3, _)]) dX1_settleFirst_9 (by decide) rfl rfl ?_
  rw [lo1]
  refine K_iload_n dX1_settleFirst_10 rfl rfl ?_
  refine K_iconst (v := nI 1) dX1_settleFirst_11 (by decide) rfl ?_
  refine K_subN dX1_settleFirst_12 (by first | omega | fail) rfl ?_
  refine K_sv (d1 := d - 1) [_] dX1_settleFirst_13 ml_X1_55 rfl rfl (Nat.le_of_ble_eq_true rfl) hbc (by omega) rfl ?_
  refine K_istore (lv' := [(0, _), (1, _), (2, _), (3, _), (4, _)]) dX1_settleFirst_16 (by decide) rfl rfl ?_
  refine K_aload_n dX1_settleFirst_18 rfl rfl ?_
  refine K_getR (r := 15) dX1_settleFirst_19 fl_X1_24 rfl rfl rfl rfl ?_
  refine K_iload_n dX1_settleFirst_22 rfl rfl ?_
  refine K_aload_n dX1_settleFirst_23 rfl rfl ?_
  refine K_getR (r := 15) dX1_settleFirst_24 fl_X1_24 rfl rfl rfl rfl ?_
  refine K_iload_n dX1_settleFirst_27 rfl rfl ?_
  refine K_lald dX1_settleFirst_28 (by first | rfl | exact sk_rk (by omega) | exact sk_hh (by omega)) (by first | omega | fail) (by decide) (by first | assumption | rfl) rfl ?_
  refine K_aload_n dX1_settleFirst_29 rfl rfl ?_
  refine K_getR (r := 15) dX1_settleFirst_30 fl_X1_24 rfl rfl rfl rfl ?_
  refine K_iload_n dX1_settleFirst_33 rfl rfl ?_
  refine K_lald dX1_settleFirst_34 (by first | rfl | exact sk_rk (by omega) | exact sk_hh (by omega)) (by first | omega | fail) (by decide) (by first | assumption | rfl) rfl ?_
  refine K_ldc2 dX1_settleFirst_35 kl_X1_77 rfl ?_
  refine K_aload_n dX1_settleFirst_38 rfl rfl ?_
  refine K_getR (r := 11) dX1_settleFirst_39 fl_X1_9 rfl rfl rfl rfl ?_
  refine K_iload dX1_settleFirst_42 rfl rfl ?_
  refine K_lald dX1_settleFirst_44 (by first | rfl | exact sk_rk (by omega) | exact sk_hh (by omega)) (by first | omega | fail) (by decide) (by first | assumption | rfl) rfl ?_
  refine K_lmul dX1_settleFirst_45 rfl ?_
  refine K_lsub dX1_settleFirst_46 rfl ?_
  refine K_sv (d1 := d - 1) [_, _] dX1_settleFirst_47 ml_X1_68 rfl rfl (Nat.le_of_ble_eq_true rfl) hmx (by omega) rfl ?_
  refine K_last dX1_settleFirst_50 (by first | rfl | exact sk_rk (by omega) | exact sk_hh (by omega)) (by first | omega | fail) (by decide) rfl ?_
  refine K_iload_n dX1_settleFirst_51 rfl rfl ?_
  refine K_istore (lv' := [(0, _), (1, _), (2, _), (3, _), (4, _), (5, _)]) dX1_settleFirst_52 (by decide) rfl rfl ?_
  exact start
theorem l2_X1_settleAll {d : Nat} (hd : 2 ≤ d) {S : GS} {k : Bool} {R : Nat → Option Int} {N : Mem} {K0 : Mej} (w : WF S) (TR : RTb S R K0) (sR : SndR S k R) (h11 : ∀ f, f < 10 → K0 11 f = pl11 f) :
    ∀ (X : Nat) (D : Nat → Option Int) (K : Mej), X < 2 ^ s_n S → DTb S D K → SndS S k D → geO (D (2 ^ s_n S - 1)) 0 → (∀ Y, X < Y → Y < 2 ^ s_n S → PrS D R Y) → (∀ b, b ≠ 15 → K b = K0 b) → EK d mX1_settleAll (fun r N1 K1 => r = none ∧ N1 = N ∧ (∀ b, b ≠ 15 → K1 b = K0 b) ∧ ∃ D, DTb S D K1 ∧ SndS S k D ∧ geO (D (2 ^ s_n S - 1)) 0 ∧ ∀ Y, Y ≠ 0 → Y < 2 ^ s_n S → PrS D R Y) 40 [(0, .ref 6), (1, .int (nI (2 ^ s_n S - 1))), (2, .int (nI X))] [] N K
  | 0, D, K, hX, TD, sD, g0, hP, hF => by
    have pp := p10 w.1.1
    refine K_iload_n dX1_settleAll_40 rfl rfl ?_
    refine K_if_leN (tgt := 68) dX1_settleAll_41 (by decide) rfl (by first | omega | fail) (fun c41 => ?_) (fun c41 => ?_)
    · refine K_ret dX1_settleAll_68 rfl ?_
      exact ⟨rfl, rfl, hF, D, TD, sD, g0, fun Y y0 hY => hP Y (by omega) hY⟩
    · omega
  | X + 1, D, K, hX, TD, sD, g0, hP, hF => by
    have pp := p10 w.1.1
    have h15 := TD (X + 1) hX
    have step : ∀ D2 K2, DTb S D2 K2 → SndS S k D2 → (∀ Y, X + 1 ≤ Y → D2 Y = D Y) → (∀ Y x, geO (D Y) x → geO (D2 Y) x) → PrS D2 R (X + 1) → (∀ b, b ≠ 15 → K2 b = K0 b) → EK d mX1_settleAll (fun r N1 K1 => r = none ∧ N1 = N ∧ (∀ b, b ≠ 15 → K1 b = K0 b) ∧ ∃ D, DTb S D K1 ∧ SndS S k D ∧ geO (D (2 ^ s_n S - 1)) 0 ∧ ∀ Y, Y ≠ 0 → Y < 2 ^ s_n S → PrS D R Y) 40 [(0, .ref 6), (1, .int (nI (2 ^ s_n S - 1))), (2, .int (nI X))] [] N K2 := fun D2 K2 a1 a2 a3 a4 a5 a6 =>
      l2_X1_settleAll hd w TR sR h11 X D2 K2 (by omega) a1 a2 (a4 _ _ g0) (fun Y h1 h2 => by
        rcases Nat.lt_or_ge (X + 1) Y with h3 | h3
        · exact (hP Y h3 h2).mono (a3 Y (by omega)) a4
        · rw [show Y = X + 1 by omega]; exact a5) a6
    cases hv : D (X + 1) with
    | none =>
      rw [hv] at h15
      refine K_iload_n dX1_settleAll_40 rfl rfl ?_
      refine K_if_leN (tgt := 68) dX1_settleAll_41 (by decide) rfl (by first | omega | fail) (fun c41 => ?_) (fun c41 => ?_)
      · omega
      · refine K_aload_n dX1_settleAll_44 rfl rfl ?_
        refine K_getR (r := 15) dX1_settleAll_45 fl_X1_24 rfl rfl rfl rfl ?_
        refine K_iload_n dX1_settleAll_48 rfl rfl ?_
        refine K_lald dX1_settleAll_49 (by first | rfl | exact sk_rk (by omega) | exact sk_hh (by omega)) (by first | omega | fail) (by decide) (by first | assumption | rfl) rfl ?_
        refine K_ldc2 dX1_settleAll_50 kl_X1_33 rfl ?_
        refine K_lcmp dX1_settleAll_53 rfl ?_
        refine K_if_eq (tgt := 62) dX1_settleAll_54 (by decide) rfl (fun c54 => ?_) (fun c54 => ?_)
        · first | refine K_decN (lv' := [(0, _), (1, _), (2, _)]) dX1_settleAll_62 rfl (by decide) rfl rfl ?_ | refine K_iinc (lv' := [(0, _), (1, _), (2, _)]) dX1_settleAll_62 rfl rfl (by decide) rfl rfl ?_
          refine K_goto (tgt := 40) dX1_settleAll_65 (by decide) ?_
          exact step D K TD sD (fun _ _ => rfl) (fun _ _ h => h) (fun v e => by rw [hv] at e; cases e) hF
        · exact absurd ((lg_cmp_eq _ _).mpr rfl) c54
    | some v =>
      rw [hv] at h15
      have nm : jO (some v) ≠ -4611686018427387904 := fun z => by
        have := (jO_eq (o := some v) (fun x e2 => by cases e2; exact jB_of (by have := sD.b w.1.1 hX v hv; omega))).mp z
        cases this
      have hsf := c_X1_settleFirst (d := d - 1) (N := N) (by omega) w hX (by omega) TD (fun Y hY => by rw [hF 14 (by decide)]; exact TR Y hY) sD sR hv (fun f hf => by rw [hF 11 (by decide)]; exact h11 f hf)
      refine K_iload_n dX1_settleAll_40 rfl rfl ?_
      refine K_if_leN (tgt := 68) dX1_settleAll_41 (by decide) rfl (by first | omega | fail) (fun c41 => ?_) (fun c41 => ?_)
      · omega
      · refine K_aload_n dX1_settleAll_44 rfl rfl ?_
        refine K_getR (r := 15) dX1_settleAll_45 fl_X1_24 rfl rfl rfl rfl ?_
        refine K_iload_n dX1_settleAll_48 rfl rfl ?_
        refine K_lald dX1_settleAll_49 (by first | rfl | exact sk_rk (by omega) | exact sk_hh (by omega)) (by first | omega | fail) (by decide) (by first | assumption | rfl) rfl ?_
        refine K_ldc2 dX1_settleAll_50 kl_X1_33 rfl ?_
        refine K_lcmp dX1_settleAll_53 rfl ?_
        refine K_if_eq (tgt := 62) dX1_settleAll_54 (by decide) rfl (fun c54 => ?_) (fun c54 => ?_)
        · exact absurd ((lg_cmp_eq _ _).mp c54) nm
        · refine K_aload_n dX1_settleAll_57 rfl rfl ?_
          refine K_iload_n dX1_settleAll_58 rfl rfl ?_
          refine K_callV (ci := 1) (d1 := d - 1) [_] dX1_settleAll_59 ml_X1_74 (by decide) rfl rfl rfl (Nat.le_of_ble_eq_true rfl) hsf (by omega) rfl ?_
          rintro r N2 K2 ⟨z1, z2, z3, D2, z4, z5, z6, z7, z8⟩
          subst z1
          subst z2
          first | refine K_decN (lv' := [(0, _), (1, _), (2, _)]) dX1_settleAll_62 rfl (by decide) rfl rfl ?_ | refine K_iinc (lv' := [(0, _), (1, _), (2, _)]) dX1_settleAll_62 rfl rfl (by decide) rfl rfl ?_
          refine K_goto (tgt := 40) dX1_settleAll_65 (by decide) ?_
          exact step D2 K2 z4 z5 z6 z7 z8 (fun b hb => (z3 b hb).trans (hF b hb))
def dA (n X : Nat) : Option Int := if X = 2 ^ n - 1 then some 0 else none
theorem l1_X1_settleAll {d : Nat} {c : Nat} {N : Mem} {K : Mej} {Post : PK} (hc : c ≤ 1024)
    (next : EK d mX1_settleAll Post 31 [(0, .ref 6), (1, .int (nI c)), (2, .int (nI c))] [] N (fillJ K 15 c (jO none))) :
    ∀ (kk i : Nat), i + kk = c → EK d mX1_settleAll Post 11 [(0, .ref 6), (1, .int (nI c)), (2, .int (nI i))] [] N (fillJ K 15 i (jO none))
  | 0, i, e => by
    obtain rfl : i = c := by omega
    refine K_iload_n dX1_settleAll_11 rfl rfl ?_
    refine K_iload_n dX1_settleAll_12 rfl rfl ?_
    refine K_icmp_geN (tgt := 31) dX1_settleAll_13 (by decide) rfl (by first | omega | fail) (by first | omega | fail) (fun c13 => ?_) (fun c13 => ?_)
    · exact next
    · omega
  | kk + 1, i, e => by
    have ih := l1_X1_settleAll (d := d) hc next kk (i + 1) (by omega)
    refine K_iload_n dX1_settleAll_11 rfl rfl ?_
    refine K_iload_n dX1_settleAll_12 rfl rfl ?_
    refine K_icmp_geN (tgt := 31) dX1_settleAll_13 (by decide) rfl (by first | omega | fail) (by first | omega | fail) (fun c13 => ?_) (fun c13 => ?_)
    · omega
    · refine K_aload_n dX1_settleAll_16 rfl rfl ?_
      refine K_getR (r := 15) dX1_settleAll_17 fl_X1_24 rfl rfl rfl rfl ?_
      refine K_iload_n dX1_settleAll_20 rfl rfl ?_
      refine K_ldc2 dX1_settleAll_21 kl_X1_33 rfl ?_
      refine K_last dX1_settleAll_24 (by first | rfl | exact sk_rk (by omega) | exact sk_hh (by omega)) (by first | omega | fail) (by decide) rfl ?_
      first | refine K_incN (lv' := [(0, _), (1, _), (2, _)]) dX1_settleAll_25 rfl (by decide) rfl rfl ?_ | refine K_iinc (lv' := [(0, _), (1, _), (2, _)]) dX1_settleAll_25 rfl rfl (by decide) rfl rfl ?_
      refine K_goto (tgt := 11) dX1_settleAll_28 (by decide) ?_
      show EK d _ _ _ _ _ N (sJ (fillJ K 15 i (jO none)) 15 i (jO none))
      rw [fillJ_s]
      exact ih
set_option maxRecDepth 100000 in
theorem c_X1_settleAll {d : Nat} (hd : 2 ≤ d) {S : GS} {k : Bool} {R : Nat → Option Int} {N : Mem} {K : Mej} (w : WF S) (h5 : N 6 5 = nI (s_n S)) (TR : RTb S R K) (sR : SndR S k R) (h11 : ∀ f, f < 10 → K 11 f = pl11 f) : CK d mX1_settleAll [.ref 6] N K (fun r N1 K1 => r = none ∧ N1 = N ∧ (∀ b, b ≠ 15 → K1 b = K b) ∧ ∃ D, DTb S D K1 ∧ SndS S k D ∧ geO (D (2 ^ s_n S - 1)) 0 ∧ ∀ Y, Y ≠ 0 → Y < 2 ^ s_n S → PrS D R Y) := by
  have hn := w.1.1
  have pp := p10 hn
  have p0 : 0 < 2 ^ s_n S := Nat.two_pow_pos _
  have mid : EK d mX1_settleAll (fun r N1 K1 => r = none ∧ N1 = N ∧ (∀ b, b ≠ 15 → K1 b = K b) ∧ ∃ D, DTb S D K1 ∧ SndS S k D ∧ geO (D (2 ^ s_n S - 1)) 0 ∧ ∀ Y, Y ≠ 0 → Y < 2 ^ s_n S → PrS D R Y) 31 [(0, .ref 6), (1, .int (nI (2 ^ s_n S - 1))), (2, .int (nI (2 ^ s_n S - 1)))] [] N (fillJ K 15 (2 ^ s_n S - 1) (jO none)) := by
    refine K_aload_n dX1_settleAll_31 rfl rfl ?_
    refine K_getR (r := 15) dX1_settleAll_32 fl_X1_24 rfl rfl rfl rfl ?_
    refine K_iload_n dX1_settleAll_35 rfl rfl ?_
    refine K_lconst (v := 0) dX1_settleAll_36 (by decide) rfl ?_
    refine K_last dX1_settleAll_37 (by first | rfl | exact sk_rk (by omega) | exact sk_hh (by omega)) (by first | omega | fail) (by decide) rfl ?_
    refine K_iload_n dX1_settleAll_38 rfl rfl ?_
    refine K_istore_n (lv' := [(0, _), (1, _), (2, _)]) dX1_settleAll_39 (by decide) rfl rfl ?_
    refine l2_X1_settleAll hd w TR sR h11 (2 ^ s_n S - 1) (dA (s_n S)) _ (by omega) (fun X hX => ?_) (fun X v hX e => ?_) ⟨0, if_pos rfl, Int.le_refl 0⟩ (fun Y h1 h2 => by omega) (fun b hb => ?_)
    · rw [sJ_at]
      unfold dA
      by_cases e3 : X = 2 ^ s_n S - 1
      · rw [if_pos ⟨rfl, e3⟩, if_pos e3]; rfl
      · rw [if_neg (fun z => e3 z.2), if_neg e3]
        unfold fillJ
        rw [if_pos ⟨rfl, by omega⟩]
    · unfold dA at e
      by_cases e3 : X = 2 ^ s_n S - 1
      · rw [if_pos e3] at e
        cases e
        refine ⟨fun f => f, fun f hf hx => ?_, ?_⟩
        · rw [e3, Nat.testBit_two_pow_sub_one, decide_eq_true hf] at hx; cases hx
        · have : scL S k X (fun f => f) = sumI (fun _ => 0) (s_n S) := sumI_agree (fun i hi => by rw [e3, Nat.testBit_two_pow_sub_one, decide_eq_true hi]; rfl)
          rw [this, sumI_0]
      · rw [if_neg e3] at e; cases e
    · rw [sJ_row hb]
      funext j
      unfold fillJ
      rw [if_neg (fun z => hb z.1)]
  refine CK.start [(0, _)] (plainFor_of_name (by decide)) (Nat.le_of_ble_eq_true rfl) rfl ?_
  refine K_iconst (v := nI 1) dX1_settleAll_0 (by decide) rfl ?_
  refine K_aload_n dX1_settleAll_1 rfl rfl ?_
  refine K_getI dX1_settleAll_2 fl_X1_27 (by first | rfl | exact sk_rk (by omega) | exact sk_hh (by omega)) rfl (by first | assumption | rfl) rfl ?_
  first | refine K_shl1 dX1_settleAll_5 (by first | omega | fail) rfl ?_ | refine K_shlN dX1_settleAll_5 (by first | omega | fail) (by first | omega | fail) rfl ?_ | refine K_ishl dX1_settleAll_5 rfl ?_
  refine K_iconst (v := nI 1) dX1_settleAll_6 (by decide) rfl ?_
  refine K_subN dX1_settleAll_7 (by first | omega | fail) rfl ?_
  refine K_istore_n (lv' := [(0, _), (1, _)]) dX1_settleAll_8 (by decide) rfl rfl ?_
  refine K_iconst (v := nI 0) dX1_settleAll_9 (by decide) rfl ?_
  refine K_istore_n (lv' := [(0, _), (1, _), (2, _)]) dX1_settleAll_10 (by decide) rfl rfl ?_
  have h := l1_X1_settleAll (by omega) mid (2 ^ s_n S - 1) 0 (by omega)
  rw [fillJ_0] at h
  exact h
