/-- a row of goers is paid, its first i families' part -/
def payR (S : GS) (p : Nat → Option Nat) (sg : Int32) : Nat → GS
  | 0 => S
  | i + 1 => match p i with
    | none => payR S p sg i
    | some g => payG (payR S p sg i) i g sg
theorem payR_no {S : GS} {p : Nat → Option Nat} {sg : Int32} {i : Nat} (h : p i = none) : payR S p sg (i + 1) = payR S p sg i := by
  show (match p i with | none => payR S p sg i | some g => payG (payR S p sg i) i g sg) = _
  rw [h]
theorem payR_go {S : GS} {p : Nat → Option Nat} {sg : Int32} {i g : Nat} (h : p i = some g) : payR S p sg (i + 1) = payG (payR S p sg i) i g sg := by
  show (match p i with | none => payR S p sg i | some g => payG (payR S p sg i) i g sg) = _
  rw [h]
theorem payR_pl (S : GS) (sg : Int32) : ∀ i, payR S (s_pl S) sg i = payPl S sg i
  | 0 => rfl
  | i + 1 => by
    have ih := payR_pl S sg i
    cases h : s_pl S i with
    | none => rw [payR_no h, payPl_no h, ih]
    | some g => rw [payR_go h, payPl_go h, ih]
theorem payR_rest {S : GS} {p : Nat → Option Nat} {sg : Int32} {n : Nat} (h : ∀ i, n ≤ i → i < 10 → p i = none) : ∀ k, n + k ≤ 10 → payR S p sg (n + k) = payR S p sg n
  | 0, _ => rfl
  | k + 1, hk => by
    rw [show n + (k + 1) = (n + k) + 1 by omega, payR_no (h (n + k) (by omega) (by omega))]
    exact payR_rest h k (by omega)
theorem payR_n (S : GS) (p : Nat → Option Nat) (sg : Int32) : ∀ i, s_n (payR S p sg i) = s_n S
  | 0 => rfl
  | i + 1 => by
    have ih := payR_n S p sg i
    cases h : p i with
    | none => rw [payR_no h]; exact ih
    | some g => rw [payR_go h]; exact ih
theorem payR_wf {S : GS} (w : WF S) {p : Nat → Option Nat} (hp : ∀ f g, f < 10 → p f = some g → f < s_n S ∧ g < s_n S) (sg : Int32) : ∀ i, i ≤ 10 → WF (payR S p sg i)
  | 0, _ => w
  | i + 1, hi => by
    have ih := payR_wf w hp sg i (by omega)
    have hq := payR_n S p sg i
    cases h : p i with
    | none => rw [payR_no h]; exact ih
    | some g =>
      rw [payR_go h]
      have := hp i g (by omega) h
      exact WF.pay ih (by rw [hq]; exact this.1) (by rw [hq]; exact this.2) sg
theorem l_X4_pays {d : Nat} (hd : 2 ≤ d) {S : GS} {N0 : Mem} {K : Mej} {sg : Int32} {y : Nat} {p : Nat → Option Nat} (w : WF S) (hy : y < 60) (hp : ∀ f g, f < 10 → p f = some g → f < s_n S ∧ g < s_n S) : ∀ (k i : Nat) (N : Mem), i + k = 10 → RY (payR S p sg i) N → (∀ f, f < 10 → N 75 (10 * y + f) = oI (p f)) → (∀ r, r ≠ 50 → N r = N0 r) → EK d mX4_pays (fun r N2 K2 => r = none ∧ RY (payR S p sg 10) N2 ∧ (∀ r, r ≠ 50 → N2 r = N0 r) ∧ K2 = K) 2 [(0, .ref 40), (1, .int (nI y)), (2, .int sg), (3, .int (nI i))] [] N K
  | 0, i, N, h, R, B, F => by
    obtain rfl : i = 10 := by omega
    refine K_iload_n dX4_pays_2 rfl rfl ?_
    refine K_bipush (v := nI 10) dX4_pays_3 (by decide) rfl ?_
    refine K_icmp_geN (tgt := 67) dX4_pays_5 (by decide) rfl (by first | omega | fail) (by first | omega | fail) (fun c5 => ?_) (fun c5 => ?_)
    · refine K_ret dX4_pays_67 rfl ?_
      exact ⟨rfl, R, F, rfl⟩
    · omega
  | k + 1, i, N, h, R, B, F => by
    have ih := fun N2 => l_X4_pays (N0 := N0) (K := K) (sg := sg) hd w hy hp k (i + 1) N2 (by omega)
    have hn := w.1.1
    have hb := B i (by omega)
    have wi := payR_wf w hp sg i (by omega)
    have hq := payR_n S p sg i
    cases hs : p i with
    | none =>
      rw [hs] at hb
      have hob : oB none := fun g hg => by cases hg
      refine K_iload_n dX4_pays_2 rfl rfl ?_
      refine K_bipush (v := nI 10) dX4_pays_3 (by decide) rfl ?_
      refine K_icmp_geN (tgt := 67) dX4_pays_5 (by decide) rfl (by first | omega | fail) (by first | omega | fail) (fun c5 => ?_) (fun c5 => ?_)
      · omega
      · refine K_aload_n dX4_pays_8 rfl rfl ?_
        refine K_getR (r := 75) dX4_pays_9 fl_X4_81 rfl rfl rfl rfl ?_
        refine K_bipush (v := nI 10) dX4_pays_12 (by decide) rfl ?_
        refine K_iload_n dX4_pays_14 rfl rfl ?_
        refine K_mulN dX4_pays_15 rfl ?_
        refine K_iload_n dX4_pays_16 rfl rfl ?_
        refine K_addN dX4_pays_17 rfl ?_
        refine K_iald dX4_pays_18 (by first | rfl | exact sk_rk (by omega) | exact sk_hh (by omega)) (by first | omega | fail) (by decide) (by first | assumption | rfl) rfl ?_
        refine K_istore (lv' := [(0, _), (1, _), (2, _), (3, _), (4, _)]) dX4_pays_19 (by decide) rfl rfl ?_
        refine K_iload dX4_pays_21 rfl rfl ?_
        refine K_if_ltO (tgt := 61) dX4_pays_23 (by decide) rfl (by first | assumption | fail) (fun c23 => ?_) (fun c23 => ?_)
        · first | refine K_incN (lv' := [(0, _), (1, _), (2, _), (3, _), (4, _)]) dX4_pays_61 rfl (by decide) rfl rfl ?_ | refine K_iinc (lv' := [(0, _), (1, _), (2, _), (3, _), (4, _)]) dX4_pays_61 rfl rfl (by decide) rfl rfl ?_
          refine K_goto (tgt := 2) dX4_pays_64 (by decide) ?_
          refine K_pick [0, 1, 2, 3] rfl ?_
          exact ih N (by rw [payR_no hs]; exact R) B F
        · exact absurd rfl c23
    | some g =>
      rw [hs] at hb
      have hb2 : N 75 (10 * y + i) = nI g := hb
      clear hb
      obtain ⟨b1, b2⟩ := hp i g (by omega) hs
      have p1 := (R.2.2.1 i (by omega)).1
      have R1 := R.po i (s_po (payR S p sg i) i - sg * nI (s_wo (payR S p sg i) g))
      have p2 := (R1.2.2.1 g (by omega)).1
      have R2 := R1.po g (s_po (gZ (payR S p sg i) i (s_po (payR S p sg i) i - sg * nI (s_wo (payR S p sg i) g))) g + sg * nI (s_wo (payR S p sg i) g))
      have hw1 : CK (d - 1) mX4_worth [.ref 40, .int (nI g)] N K (PX (some (.int (nI (s_wo (payR S p sg i) g)))) N K) := c_X4_worth (by omega) R wi (by rw [hq]; exact b2)
      have w1 : WF (gZ (payR S p sg i) i (s_po (payR S p sg i) i - sg * nI (s_wo (payR S p sg i) g))) := WF.po wi (by rw [hq]; exact b1) _
      have hw2 : CK (d - 1) mX4_worth [.ref 40, .int (nI g)] (sM N 50 i (s_po (payR S p sg i) i - sg * nI (s_wo (payR S p sg i) g))) K (PX (some (.int (nI (s_wo (payR S p sg i) g)))) (sM N 50 i (s_po (payR S p sg i) i - sg * nI (s_wo (payR S p sg i) g))) K) := c_X4_worth (S := gZ (payR S p sg i) i (s_po (payR S p sg i) i - sg * nI (s_wo (payR S p sg i) g))) (by omega) R1 w1 (by show g < s_n (payR S p sg i); rw [hq]; exact b2)
      refine K_iload_n dX4_pays_2 rfl rfl ?_
      refine K_bipush (v := nI 10) dX4_pays_3 (by decide) rfl ?_
      refine K_icmp_geN (tgt := 67) dX4_pays_5 (by decide) rfl (by first | omega | fail) (by first | omega | fail) (fun c5 => ?_) (fun c5 => ?_)
      · omega
      · refine K_aload_n dX4_pays_8 rfl rfl ?_
        refine K_getR (r := 75) dX4_pays_9 fl_X4_81 rfl rfl rfl rfl ?_
        refine K_bipush (v := nI 10) dX4_pays_12 (by decide) rfl ?_
        refine K_iload_n dX4_pays_14 rfl rfl ?_
        refine K_mulN dX4_pays_15 rfl ?_
        refine K_iload_n dX4_pays_16 rfl rfl ?_
        refine K_addN dX4_pays_17 rfl ?_
        refine K_iald dX4_pays_18 (by first | rfl | exact sk_rk (by omega) | exact sk_hh (by omega)) (by first | omega | fail) (by decide) (by first | assumption | rfl) rfl ?_
        refine K_istore (lv' := [(0, _), (1, _), (2, _), (3, _), (4, _)]) dX4_pays_19 (by decide) rfl rfl ?_
        refine K_iload dX4_pays_21 rfl rfl ?_
        refine K_if_ltN (tgt := 61) dX4_pays_23 (by decide) rfl (by first | omega | fail) (fun c23 => ?_) (fun c23 => ?_)
        · exact c23.elim
        · refine K_aload_n dX4_pays_26 rfl rfl ?_
          refine K_getR (r := 50) dX4_pays_27 fl_X4_35 rfl rfl rfl rfl ?_
          refine K_iload_n dX4_pays_30 rfl rfl ?_
          refine K_dup2 dX4_pays_31 rfl rfl rfl ?_
          refine K_iald dX4_pays_32 (by first | rfl | exact sk_rk (by omega) | exact sk_hh (by omega)) (by first | omega | fail) (by decide) (by first | assumption | rfl) rfl ?_
          refine K_iload_n dX4_pays_33 rfl rfl ?_
          refine K_aload_n dX4_pays_34 rfl rfl ?_
          refine K_iload dX4_pays_35 rfl rfl ?_
          refine K_cv (ci := 4) (d1 := d - 1) [_] dX4_pays_37 ml_X4_178 (by decide) rfl rfl rfl (Nat.le_of_ble_eq_true rfl) hw1 (by omega) rfl ?_
          refine K_imul dX4_pays_40 rfl ?_
          refine K_isub dX4_pays_41 rfl ?_
          refine K_iast dX4_pays_42 (by first | rfl | exact sk_rk (by omega) | exact sk_hh (by omega)) (by first | omega | fail) (by decide) rfl ?_
          refine K_aload_n dX4_pays_43 rfl rfl ?_
          refine K_getR (r := 50) dX4_pays_44 fl_X4_35 rfl rfl rfl rfl ?_
          refine K_iload dX4_pays_47 rfl rfl ?_
          refine K_dup2 dX4_pays_49 rfl rfl rfl ?_
          refine K_iald dX4_pays_50 (by first | rfl | exact sk_rk (by omega) | exact sk_hh (by omega)) (by first | omega | fail) (by decide) (by first | assumption | rfl) rfl ?_
          refine K_iload_n dX4_pays_51 rfl rfl ?_
          refine K_aload_n dX4_pays_52 rfl rfl ?_
          refine K_iload dX4_pays_53 rfl rfl ?_
          refine K_cv (ci := 4) (d1 := d - 1) [_] dX4_pays_55 ml_X4_178 (by decide) rfl rfl rfl (Nat.le_of_ble_eq_true rfl) hw2 (by omega) rfl ?_
          refine K_imul dX4_pays_58 rfl ?_
          refine K_iadd dX4_pays_59 rfl ?_
          refine K_iast dX4_pays_60 (by first | rfl | exact sk_rk (by omega) | exact sk_hh (by omega)) (by first | omega | fail) (by decide) rfl ?_
          first | refine K_incN (lv' := [(0, _), (1, _), (2, _), (3, _), (4, _)]) dX4_pays_61 rfl (by decide) rfl rfl ?_ | refine K_iinc (lv' := [(0, _), (1, _), (2, _), (3, _), (4, _)]) dX4_pays_61 rfl rfl (by decide) rfl rfl ?_
          refine K_goto (tgt := 2) dX4_pays_64 (by decide) ?_
          refine K_pick [0, 1, 2, 3] rfl ?_
          exact ih _ (by rw [payR_go hs]; exact R2) (fun f hf => by rw [sM_row (by decide), sM_row (by decide)]; exact B f hf) (fun r hr => by rw [sM_row hr, sM_row hr]; exact F r hr)
set_option maxRecDepth 100000 in
theorem c_X4_pays {d : Nat} (hd : 2 ≤ d) {S : GS} {N : Mem} {K : Mej} {sg : Int32} {y : Nat} {p : Nat → Option Nat} (R : RY S N) (w : WF S) (hy : y < 60) (hp : ∀ f g, f < 10 → p f = some g → f < s_n S ∧ g < s_n S) (B : ∀ f, f < 10 → N 75 (10 * y + f) = oI (p f)) : CK d mX4_pays [.ref 40, .int (nI y), .int sg] N K (fun r N2 K2 => r = none ∧ RY (payR S p sg 10) N2 ∧ (∀ r, r ≠ 50 → N2 r = N r) ∧ K2 = K) := by
  refine CK.start [(0, _), (1, _), (2, _)] (plainFor_of_name (by decide)) (Nat.le_of_ble_eq_true rfl) rfl ?_
  refine K_iconst (v := nI 0) dX4_pays_0 (by decide) rfl ?_
  refine K_istore_n (lv' := [(0, _), (1, _), (2, _), (3, _)]) dX4_pays_1 (by decide) rfl rfl ?_
  exact l_X4_pays hd w hy hp 10 0 N rfl R B (fun _ _ => rfl)
