set_option maxRecDepth 100000 in
theorem c_J9_max_7cf53 {d : Nat} {N : Mem} {K : Mej} {a b : Nat} (ha : a < 2 ^ 31) (hb : b < 2 ^ 31) : CK d mJ9_max_7cf53 [.int (nI a), .int (nI b)] N K (PX (some (.int (nI (max a b)))) N K) := by
  refine CK.start [(0, _), (1, _)] (by decide +kernel) (Nat.le_of_ble_eq_true rfl) rfl ?_
  refine K_iload_n dJ9_max_7cf53_0 rfl rfl ?_
  refine K_iload_n dJ9_max_7cf53_1 rfl rfl ?_
  first | refine K_icmp_ltN (tgt := 9) dJ9_max_7cf53_2 (by decide) rfl (by first | omega | fail) (by first | omega | fail) (fun c2 => ?_) (fun c2 => ?_) | refine K_icmp_lt (tgt := 9) dJ9_max_7cf53_2 (by decide) rfl (fun c2 => ?_) (fun c2 => ?_)
  · refine K_iload_n dJ9_max_7cf53_9 rfl rfl ?_
    refine K_iret dJ9_max_7cf53_10 rfl ?_
    refine ⟨?_, rfl, rfl⟩
    congr 3
    omega
  · refine K_iload_n dJ9_max_7cf53_5 rfl rfl ?_
    refine K_goto (tgt := 10) dJ9_max_7cf53_6 (by decide) ?_
    refine K_iret dJ9_max_7cf53_10 rfl ?_
    refine ⟨?_, rfl, rfl⟩
    congr 3
    omega
set_option maxRecDepth 100000 in
theorem c_J9_min_7cf53 {d : Nat} {N : Mem} {K : Mej} {a b : Nat} (ha : a < 2 ^ 31) (hb : b < 2 ^ 31) : CK d mJ9_min_7cf53 [.int (nI a), .int (nI b)] N K (PX (some (.int (nI (min a b)))) N K) := by
  refine CK.start [(0, _), (1, _)] (by decide +kernel) (Nat.le_of_ble_eq_true rfl) rfl ?_
  refine K_iload_n dJ9_min_7cf53_0 rfl rfl ?_
  refine K_iload_n dJ9_min_7cf53_1 rfl rfl ?_
  first | refine K_icmp_gtN (tgt := 9) dJ9_min_7cf53_2 (by decide) rfl (by first | omega | fail) (by first | omega | fail) (fun c2 => ?_) (fun c2 => ?_) | refine K_icmp_gt (tgt := 9) dJ9_min_7cf53_2 (by decide) rfl (fun c2 => ?_) (fun c2 => ?_)
  · refine K_iload_n dJ9_min_7cf53_9 rfl rfl ?_
    refine K_iret dJ9_min_7cf53_10 rfl ?_
    refine ⟨?_, rfl, rfl⟩
    congr 3
    omega
  · refine K_iload_n dJ9_min_7cf53_5 rfl rfl ?_
    refine K_goto (tgt := 10) dJ9_min_7cf53_6 (by decide) ?_
    refine K_iret dJ9_min_7cf53_10 rfl ?_
    refine ⟨?_, rfl, rfl⟩
    congr 3
    omega
def mxL (x y : Int64) : Int64 := if x < y then y else x
set_option maxRecDepth 100000 in
theorem c_J9_max_f86c9 {d : Nat} {N : Mem} {K : Mej} {x y : Int64} : CK d mJ9_max_f86c9 [.long x, .long y] N K (PX (some (.long (mxL x y))) N K) := by
  refine CK.start [(0, _), (2, _)] (by decide +kernel) (Nat.le_of_ble_eq_true rfl) rfl ?_
  refine K_lload_n dJ9_max_f86c9_0 rfl rfl ?_
  refine K_lload_n dJ9_max_f86c9_1 rfl rfl ?_
  refine K_lcmp dJ9_max_f86c9_2 rfl ?_
  first | refine K_if_ltN (tgt := 10) dJ9_max_f86c9_3 (by decide) rfl (by first | omega | fail) (fun c3 => ?_) (fun c3 => ?_) | refine K_if_ltO (tgt := 10) dJ9_max_f86c9_3 (by decide) rfl (by first | assumption | fail) (fun c3 => ?_) (fun c3 => ?_) | refine K_if_lt (tgt := 10) dJ9_max_f86c9_3 (by decide) rfl (fun c3 => ?_) (fun c3 => ?_)
  · refine K_lload_n dJ9_max_f86c9_10 rfl rfl ?_
    refine K_lret dJ9_max_f86c9_11 rfl ?_
    refine ⟨?_, rfl, rfl⟩
    rw [lg_cmp_lt] at c3
    simp [mxL, c3]
  · refine K_lload_n dJ9_max_f86c9_6 rfl rfl ?_
    refine K_goto (tgt := 11) dJ9_max_f86c9_7 (by decide) ?_
    refine K_lret dJ9_max_f86c9_11 rfl ?_
    refine ⟨?_, rfl, rfl⟩
    rw [lg_cmp_lt] at c3
    simp [mxL, c3]
