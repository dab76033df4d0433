def bI (b : Bool) : Int32 := cond b 1 0
def oI (p : Option Nat) : Int32 := match p with
  | none => -1
  | some g => nI g
theorem bI_t : bI true = 1 := rfl
theorem bI_f : bI false = 0 := rfl
theorem bI_01 (b : Bool) : bI b = 0 ∨ bI b = 1 := by cases b <;> simp [bI]
theorem bI_nar (b : Bool) : narrow .boolean (.int (bI b)) = .int (bI b) := by cases b <;> rfl
theorem bI_inj {a b : Bool} (h : bI a = bI b) : a = b := by
  cases a <;> cases b <;> first | rfl | (exact absurd h (by decide))
theorem nx_and (a b : Nat) : nI a &&& nI b = nI (a &&& b) := by
  apply Int32.toBitVec_inj.mp
  show (Int32.ofNat a).toBitVec &&& (Int32.ofNat b).toBitVec = (Int32.ofNat (a &&& b)).toBitVec
  simp only [Int32.toBitVec_ofNat']
  apply BitVec.eq_of_getLsbD_eq
  intro i hi
  simp [BitVec.getLsbD_ofNat, hi]
theorem nx_or (a b : Nat) : nI a ||| nI b = nI (a ||| b) := by
  apply Int32.toBitVec_inj.mp
  show (Int32.ofNat a).toBitVec ||| (Int32.ofNat b).toBitVec = (Int32.ofNat (a ||| b)).toBitVec
  simp only [Int32.toBitVec_ofNat']
  apply BitVec.eq_of_getLsbD_eq
  intro i hi
  simp [BitVec.getLsbD_ofNat, hi]
theorem nx_xor (a b : Nat) : nI a ^^^ nI b = nI (a ^^^ b) := by
  apply Int32.toBitVec_inj.mp
  show (Int32.ofNat a).toBitVec ^^^ (Int32.ofNat b).toBitVec = (Int32.ofNat (a ^^^ b)).toBitVec
  simp only [Int32.toBitVec_ofNat']
  apply BitVec.eq_of_getLsbD_eq
  intro i hi
  simp [BitVec.getLsbD_ofNat, hi]
theorem nx_c : ∀ k, k < 32 → ((nI k &&& 31).toBitVec.smod 32).toNat = k := by decide +kernel
theorem nx_shr {a k : Nat} (ha : a < 2 ^ 31) (hk : k < 32) : nI a >>> (nI k &&& 31) = nI (a >>> k) := by
  rw [pk_shrN ha _ k (nx_c k hk), Nat.shiftRight_eq_div_pow]
theorem nx_shl {a k : Nat} (hk : k < 32) (h : a * 2 ^ k < 2 ^ 32) : nI a <<< (nI k &&& 31) = nI (a * 2 ^ k) := pk_shlN _ k (nx_c k hk) h
theorem nx_bit (a k : Nat) : nI (a >>> k) &&& nI 1 = bI (a.testBit k) := by
  rw [nx_and]
  rw [Nat.testBit]
  have h : (a >>> k) &&& 1 = (a >>> k) % 2 := Nat.and_one_is_mod _
  rw [h]
  have h2 : 1 &&& (a >>> k) = (a >>> k) % 2 := by rw [Nat.and_comm]; exact Nat.and_one_is_mod _
  rw [h2]
  rcases Nat.mod_two_eq_zero_or_one (a >>> k) with e | e <;> rw [e] <;> rfl
theorem nI_neg1 {a : Nat} (h : a < 2 ^ 31) : ¬ nI a = -1 := by
  intro e
  have := congrArg Int32.toInt e
  rw [nI_toInt h] at this
  have h2 : (-1 : Int32).toInt = -1 := by decide
  omega
def oB (p : Option Nat) : Prop := ∀ g, p = some g → g < 2 ^ 31
theorem oI_none {p : Option Nat} (h : oB p) : oI p = -1 ↔ p = none := by
  cases p with
  | none => exact ⟨fun _ => rfl, fun _ => rfl⟩
  | some g => exact ⟨fun e => absurd e (nI_neg1 (h g rfl)), fun e => by cases e⟩
theorem oI_some {p : Option Nat} {g : Nat} (h : oB p) (hg : g < 2 ^ 31) : oI p = nI g ↔ p = some g := by
  cases p with
  | none => exact ⟨fun e => absurd e.symm (nI_neg1 hg), fun e => by cases e⟩
  | some f => exact ⟨fun e => by rw [(nI_eq (h f rfl) hg).mp e], fun e => by cases e; rfl⟩
theorem oI_eq {p p2 : Option Nat} (h : oB p) (h2 : oB p2) : oI p = oI p2 ↔ p = p2 := by
  cases p2 with
  | none => exact oI_none h
  | some g => exact oI_some h (h2 g rfl)
theorem oI_neg {p : Option Nat} (h : oB p) : oI p < 0 ↔ p = none := by
  cases p with
  | none => exact ⟨fun _ => rfl, fun _ => by decide⟩
  | some g => exact ⟨fun e => absurd e (nI_pos (h g rfl)), fun e => by cases e⟩
section NROWS
variable {d : Nat} {mi : MI} {Post : PK} {pc n : Nat} {lv : LV} {st rest : List Value} {N : Mem} {K : Mej}

theorem K_addN {a b : Nat} (hd : decode mi.2.1 pc = .ok (.iadd, 1))  (hn : pc + 1 = n) (k : EK d mi Post n lv (.int (nI (a + b)) :: rest) N K) : EK d mi Post pc lv (.int (nI b) :: .int (nI a) :: rest) N K := K_iadd hd hn (by rw [nI_add a b]; exact k)
theorem K_mulN {a b : Nat} (hd : decode mi.2.1 pc = .ok (.imul, 1))  (hn : pc + 1 = n) (k : EK d mi Post n lv (.int (nI (a * b)) :: rest) N K) : EK d mi Post pc lv (.int (nI b) :: .int (nI a) :: rest) N K := K_imul hd hn (by rw [pk_mul a b]; exact k)
theorem K_subN {a b : Nat} (hd : decode mi.2.1 pc = .ok (.isub, 1)) (h : b ≤ a) (hn : pc + 1 = n) (k : EK d mi Post n lv (.int (nI (a - b)) :: rest) N K) : EK d mi Post pc lv (.int (nI b) :: .int (nI a) :: rest) N K := K_isub hd hn (by rw [pk_sub h]; exact k)
theorem K_andN {a b : Nat} (hd : decode mi.2.1 pc = .ok (.iand, 1))  (hn : pc + 1 = n) (k : EK d mi Post n lv (.int (nI (a &&& b)) :: rest) N K) : EK d mi Post pc lv (.int (nI b) :: .int (nI a) :: rest) N K := K_iand hd hn (by rw [nx_and a b]; exact k)
theorem K_orN {a b : Nat} (hd : decode mi.2.1 pc = .ok (.ior, 1))  (hn : pc + 1 = n) (k : EK d mi Post n lv (.int (nI (a ||| b)) :: rest) N K) : EK d mi Post pc lv (.int (nI b) :: .int (nI a) :: rest) N K := K_ior hd hn (by rw [nx_or a b]; exact k)
theorem K_xorN {a b : Nat} (hd : decode mi.2.1 pc = .ok (.ixor, 1))  (hn : pc + 1 = n) (k : EK d mi Post n lv (.int (nI (a ^^^ b)) :: rest) N K) : EK d mi Post pc lv (.int (nI b) :: .int (nI a) :: rest) N K := K_ixor hd hn (by rw [nx_xor a b]; exact k)
theorem K_shrN {a b : Nat} (hd : decode mi.2.1 pc = .ok (.ishr, 1)) (ha : a < 2 ^ 31) (hb : b < 32) (hn : pc + 1 = n) (k : EK d mi Post n lv (.int (nI (a >>> b)) :: rest) N K) : EK d mi Post pc lv (.int (nI b) :: .int (nI a) :: rest) N K := K_ishr hd hn (by rw [nx_shr ha hb]; exact k)
theorem K_shlN {a b : Nat} (hd : decode mi.2.1 pc = .ok (.ishl, 1)) (hb : b < 32) (h : a * 2 ^ b < 2 ^ 32) (hn : pc + 1 = n) (k : EK d mi Post n lv (.int (nI (a * 2 ^ b)) :: rest) N K) : EK d mi Post pc lv (.int (nI b) :: .int (nI a) :: rest) N K := K_ishl hd hn (by rw [nx_shl hb h]; exact k)
theorem K_bitN {a b : Nat} (hd : decode mi.2.1 pc = .ok (.iand, 1))  (hn : pc + 1 = n) (k : EK d mi Post n lv (.int (bI (a.testBit b)) :: rest) N K) : EK d mi Post pc lv (.int (nI 1) :: .int (nI (a >>> b)) :: rest) N K := K_iand hd hn (by rw [nx_bit a b]; exact k)
theorem K_shl1 {b : Nat} (hd : decode mi.2.1 pc = .ok (.ishl, 1)) (hb : b < 31) (hn : pc + 1 = n) (k : EK d mi Post n lv (.int (nI (2 ^ b)) :: rest) N K) : EK d mi Post pc lv (.int (nI b) :: .int (nI 1) :: rest) N K := K_ishl hd hn (by rw [nx_shl (by omega) (by rw [Nat.one_mul]; exact Nat.pow_lt_pow_right (by omega) (by omega)), Nat.one_mul]; exact k)
theorem K_incN {z a : Nat} {lv' : LV} (hd : decode mi.2.1 pc = .ok (.iinc z 1, 3)) (hg : lvG z lv = some (.int (nI a))) (hb : z < mi.2.2.1) (hs : lvS1 z (.int (nI (a + 1))) lv = lv') (hn : pc + 3 = n) (k : EK d mi Post n lv' rest N K) : EK d mi Post pc lv rest N K := K_iinc hd hg (nI_1 a) hb hs hn k
theorem K_decN {z a : Nat} {lv' : LV} (hd : decode mi.2.1 pc = .ok (.iinc z (-1), 3)) (hg : lvG z lv = some (.int (nI (a + 1)))) (hb : z < mi.2.2.1) (hs : lvS1 z (.int (nI a)) lv = lv') (hn : pc + 3 = n) (k : EK d mi Post n lv' rest N K) : EK d mi Post pc lv rest N K := K_iinc hd hg (pk_m1 a) hb hs hn k
theorem K_icmp_eqN {a b : Nat} {off : Int} {tgt : Nat} (hd : decode mi.2.1 pc = .ok (.if_icmp .eq off, 3)) (ht : (pc : Int) + off = (tgt : Int)) (hn : pc + 3 = n) (ha : a < 2 ^ 31) (hb : b < 2 ^ 31) (kt : a = b → EK d mi Post tgt lv rest N K) (kf : a ≠ b → EK d mi Post n lv rest N K) : EK d mi Post pc lv (.int (nI b) :: .int (nI a) :: rest) N K := K_icmp_eq hd ht hn (fun h => kt ((nI_eq ha hb).mp h)) (fun h => kf (fun e => h ((nI_eq ha hb).mpr e)))
theorem K_icmp_neN {a b : Nat} {off : Int} {tgt : Nat} (hd : decode mi.2.1 pc = .ok (.if_icmp .ne off, 3)) (ht : (pc : Int) + off = (tgt : Int)) (hn : pc + 3 = n) (ha : a < 2 ^ 31) (hb : b < 2 ^ 31) (kt : a ≠ b → EK d mi Post tgt lv rest N K) (kf : a = b → EK d mi Post n lv rest N K) : EK d mi Post pc lv (.int (nI b) :: .int (nI a) :: rest) N K := K_icmp_ne hd ht hn (fun h => kt (fun e => h ((nI_eq ha hb).mpr e))) (fun h => kf ((nI_eq ha hb).mp h))
theorem K_icmp_ltN {a b : Nat} {off : Int} {tgt : Nat} (hd : decode mi.2.1 pc = .ok (.if_icmp .lt off, 3)) (ht : (pc : Int) + off = (tgt : Int)) (hn : pc + 3 = n) (ha : a < 2 ^ 31) (hb : b < 2 ^ 31) (kt : a < b → EK d mi Post tgt lv rest N K) (kf : b ≤ a → EK d mi Post n lv rest N K) : EK d mi Post pc lv (.int (nI b) :: .int (nI a) :: rest) N K := K_icmp_lt hd ht hn (fun h => kt ((nI_ltI ha hb).mp h)) (fun h => kf (Nat.not_lt.mp (fun e => h ((nI_ltI ha hb).mpr e))))
theorem K_icmp_geN {a b : Nat} {off : Int} {tgt : Nat} (hd : decode mi.2.1 pc = .ok (.if_icmp .ge off, 3)) (ht : (pc : Int) + off = (tgt : Int)) (hn : pc + 3 = n) (ha : a < 2 ^ 31) (hb : b < 2 ^ 31) (kt : b ≤ a → EK d mi Post tgt lv rest N K) (kf : a < b → EK d mi Post n lv rest N K) : EK d mi Post pc lv (.int (nI b) :: .int (nI a) :: rest) N K := K_icmp_ge hd ht hn (fun h => kt ((nI_leI hb ha).mp h)) (fun h => kf (Nat.not_le.mp (fun e => h ((nI_leI hb ha).mpr e))))
theorem K_icmp_gtN {a b : Nat} {off : Int} {tgt : Nat} (hd : decode mi.2.1 pc = .ok (.if_icmp .gt off, 3)) (ht : (pc : Int) + off = (tgt : Int)) (hn : pc + 3 = n) (ha : a < 2 ^ 31) (hb : b < 2 ^ 31) (kt : b < a → EK d mi Post tgt lv rest N K) (kf : a ≤ b → EK d mi Post n lv rest N K) : EK d mi Post pc lv (.int (nI b) :: .int (nI a) :: rest) N K := K_icmp_gt hd ht hn (fun h => kt ((nI_ltI hb ha).mp h)) (fun h => kf (Nat.not_lt.mp (fun e => h ((nI_ltI hb ha).mpr e))))
theorem K_icmp_leN {a b : Nat} {off : Int} {tgt : Nat} (hd : decode mi.2.1 pc = .ok (.if_icmp .le off, 3)) (ht : (pc : Int) + off = (tgt : Int)) (hn : pc + 3 = n) (ha : a < 2 ^ 31) (hb : b < 2 ^ 31) (kt : a ≤ b → EK d mi Post tgt lv rest N K) (kf : b < a → EK d mi Post n lv rest N K) : EK d mi Post pc lv (.int (nI b) :: .int (nI a) :: rest) N K := K_icmp_le hd ht hn (fun h => kt ((nI_leI ha hb).mp h)) (fun h => kf (Nat.not_le.mp (fun e => h ((nI_leI ha hb).mpr e))))
theorem K_if_eqN {a : Nat} {off : Int} {tgt : Nat} (hd : decode mi.2.1 pc = .ok (.ifCond .eq off, 3)) (ht : (pc : Int) + off = (tgt : Int)) (hn : pc + 3 = n) (ha : a < 2 ^ 31) (kt : a = 0 → EK d mi Post tgt lv rest N K) (kf : a ≠ 0 → EK d mi Post n lv rest N K) : EK d mi Post pc lv (.int (nI a) :: rest) N K := K_if_eq hd ht hn (fun h => kt ((nI_eq ha (show (0 : Nat) < 2 ^ 31 by decide)).mp h)) (fun h => kf (fun e => h ((nI_eq ha (show (0 : Nat) < 2 ^ 31 by decide)).mpr e)))
theorem K_if_neN {a : Nat} {off : Int} {tgt : Nat} (hd : decode mi.2.1 pc = .ok (.ifCond .ne off, 3)) (ht : (pc : Int) + off = (tgt : Int)) (hn : pc + 3 = n) (ha : a < 2 ^ 31) (kt : a ≠ 0 → EK d mi Post tgt lv rest N K) (kf : a = 0 → EK d mi Post n lv rest N K) : EK d mi Post pc lv (.int (nI a) :: rest) N K := K_if_ne hd ht hn (fun h => kt (fun e => h ((nI_eq ha (show (0 : Nat) < 2 ^ 31 by decide)).mpr e))) (fun h => kf ((nI_eq ha (show (0 : Nat) < 2 ^ 31 by decide)).mp h))
theorem K_if_ltN {a : Nat} {off : Int} {tgt : Nat} (hd : decode mi.2.1 pc = .ok (.ifCond .lt off, 3)) (ht : (pc : Int) + off = (tgt : Int)) (hn : pc + 3 = n) (ha : a < 2 ^ 31) (kt : False → EK d mi Post tgt lv rest N K) (kf : True → EK d mi Post n lv rest N K) : EK d mi Post pc lv (.int (nI a) :: rest) N K := K_if_lt hd ht hn (fun h => kt (nI_pos ha h)) (fun h => kf (trivial))
theorem K_if_geN {a : Nat} {off : Int} {tgt : Nat} (hd : decode mi.2.1 pc = .ok (.ifCond .ge off, 3)) (ht : (pc : Int) + off = (tgt : Int)) (hn : pc + 3 = n) (ha : a < 2 ^ 31) (kt : True → EK d mi Post tgt lv rest N K) (kf : False → EK d mi Post n lv rest N K) : EK d mi Post pc lv (.int (nI a) :: rest) N K := K_if_ge hd ht hn (fun h => kt (trivial)) (fun h => kf (h (nI_pos' ha)))
theorem K_if_gtN {a : Nat} {off : Int} {tgt : Nat} (hd : decode mi.2.1 pc = .ok (.ifCond .gt off, 3)) (ht : (pc : Int) + off = (tgt : Int)) (hn : pc + 3 = n) (ha : a < 2 ^ 31) (kt : 0 < a → EK d mi Post tgt lv rest N K) (kf : a = 0 → EK d mi Post n lv rest N K) : EK d mi Post pc lv (.int (nI a) :: rest) N K := K_if_gt hd ht hn (fun h => kt ((nI_ltI (show (0 : Nat) < 2 ^ 31 by decide) ha).mp h)) (fun h => kf (Nat.eq_zero_of_not_pos (fun e => h ((nI_ltI (show (0 : Nat) < 2 ^ 31 by decide) ha).mpr e))))
theorem K_if_leN {a : Nat} {off : Int} {tgt : Nat} (hd : decode mi.2.1 pc = .ok (.ifCond .le off, 3)) (ht : (pc : Int) + off = (tgt : Int)) (hn : pc + 3 = n) (ha : a < 2 ^ 31) (kt : a = 0 → EK d mi Post tgt lv rest N K) (kf : 0 < a → EK d mi Post n lv rest N K) : EK d mi Post pc lv (.int (nI a) :: rest) N K := K_if_le hd ht hn (fun h => kt (Nat.le_zero.mp ((nI_leI ha (show (0 : Nat) < 2 ^ 31 by decide)).mp h))) (fun h => kf (Nat.pos_of_ne_zero (fun e => h ((nI_leI ha (show (0 : Nat) < 2 ^ 31 by decide)).mpr (Nat.le_of_eq e)))))
theorem K_if_eqB {b : Bool} {off : Int} {tgt : Nat} (hd : decode mi.2.1 pc = .ok (.ifCond .eq off, 3)) (ht : (pc : Int) + off = (tgt : Int)) (hn : pc + 3 = n)  (kt : b = false → EK d mi Post tgt lv rest N K) (kf : b = true → EK d mi Post n lv rest N K) : EK d mi Post pc lv (.int (bI b) :: rest) N K := K_if_eq hd ht hn (fun h => kt (bI_inj (b := false) h)) (fun h => kf (by cases b with | true => rfl | false => exact absurd rfl h))
theorem K_if_neB {b : Bool} {off : Int} {tgt : Nat} (hd : decode mi.2.1 pc = .ok (.ifCond .ne off, 3)) (ht : (pc : Int) + off = (tgt : Int)) (hn : pc + 3 = n)  (kt : b = true → EK d mi Post tgt lv rest N K) (kf : b = false → EK d mi Post n lv rest N K) : EK d mi Post pc lv (.int (bI b) :: rest) N K := K_if_ne hd ht hn (fun h => kt (by cases b with | true => rfl | false => exact absurd rfl h)) (fun h => kf (bI_inj (b := false) h))
theorem K_icmp_neB1 {b : Bool} {off : Int} {tgt : Nat} (hd : decode mi.2.1 pc = .ok (.if_icmp .ne off, 3)) (ht : (pc : Int) + off = (tgt : Int)) (hn : pc + 3 = n)  (kt : b = false → EK d mi Post tgt lv rest N K) (kf : b = true → EK d mi Post n lv rest N K) : EK d mi Post pc lv (.int (nI 1) :: .int (bI b) :: rest) N K := K_icmp_ne hd ht hn (fun h => kt (by cases b with | false => rfl | true => exact absurd rfl h)) (fun h => kf (bI_inj (b := true) h))
theorem K_icmp_eqB1 {b : Bool} {off : Int} {tgt : Nat} (hd : decode mi.2.1 pc = .ok (.if_icmp .eq off, 3)) (ht : (pc : Int) + off = (tgt : Int)) (hn : pc + 3 = n)  (kt : b = true → EK d mi Post tgt lv rest N K) (kf : b = false → EK d mi Post n lv rest N K) : EK d mi Post pc lv (.int (nI 1) :: .int (bI b) :: rest) N K := K_icmp_eq hd ht hn (fun h => kt (bI_inj (b := true) h)) (fun h => kf (by cases b with | false => rfl | true => exact absurd rfl h))
theorem K_icmp_eqO {p : Option Nat} {off : Int} {tgt : Nat} (hd : decode mi.2.1 pc = .ok (.if_icmp .eq off, 3)) (ht : (pc : Int) + off = (tgt : Int)) (hn : pc + 3 = n) (ho : oB p) (kt : p = none → EK d mi Post tgt lv rest N K) (kf : p ≠ none → EK d mi Post n lv rest N K) : EK d mi Post pc lv (.int (-1) :: .int (oI p) :: rest) N K := K_icmp_eq hd ht hn (fun h => kt ((oI_none ho).mp h)) (fun h => kf (fun e => h ((oI_none ho).mpr e)))
theorem K_icmp_neO {p : Option Nat} {off : Int} {tgt : Nat} (hd : decode mi.2.1 pc = .ok (.if_icmp .ne off, 3)) (ht : (pc : Int) + off = (tgt : Int)) (hn : pc + 3 = n) (ho : oB p) (kt : p ≠ none → EK d mi Post tgt lv rest N K) (kf : p = none → EK d mi Post n lv rest N K) : EK d mi Post pc lv (.int (-1) :: .int (oI p) :: rest) N K := K_icmp_ne hd ht hn (fun h => kt (fun e => h ((oI_none ho).mpr e))) (fun h => kf ((oI_none ho).mp h))
theorem K_icmp_eqOO {p p2 : Option Nat} {off : Int} {tgt : Nat} (hd : decode mi.2.1 pc = .ok (.if_icmp .eq off, 3)) (ht : (pc : Int) + off = (tgt : Int)) (hn : pc + 3 = n) (ho : oB p) (ho2 : oB p2) (kt : p = p2 → EK d mi Post tgt lv rest N K) (kf : p ≠ p2 → EK d mi Post n lv rest N K) : EK d mi Post pc lv (.int (oI p2) :: .int (oI p) :: rest) N K := K_icmp_eq hd ht hn (fun h => kt ((oI_eq ho ho2).mp h)) (fun h => kf (fun e => h ((oI_eq ho ho2).mpr e)))
theorem K_icmp_neOO {p p2 : Option Nat} {off : Int} {tgt : Nat} (hd : decode mi.2.1 pc = .ok (.if_icmp .ne off, 3)) (ht : (pc : Int) + off = (tgt : Int)) (hn : pc + 3 = n) (ho : oB p) (ho2 : oB p2) (kt : p ≠ p2 → EK d mi Post tgt lv rest N K) (kf : p = p2 → EK d mi Post n lv rest N K) : EK d mi Post pc lv (.int (oI p2) :: .int (oI p) :: rest) N K := K_icmp_ne hd ht hn (fun h => kt (fun e => h ((oI_eq ho ho2).mpr e))) (fun h => kf ((oI_eq ho ho2).mp h))
theorem K_icmp_eqON {p : Option Nat} {g : Nat} {off : Int} {tgt : Nat} (hd : decode mi.2.1 pc = .ok (.if_icmp .eq off, 3)) (ht : (pc : Int) + off = (tgt : Int)) (hn : pc + 3 = n) (ho : oB p) (hg : g < 2 ^ 31) (kt : p = some g → EK d mi Post tgt lv rest N K) (kf : p ≠ some g → EK d mi Post n lv rest N K) : EK d mi Post pc lv (.int (nI g) :: .int (oI p) :: rest) N K := K_icmp_eq hd ht hn (fun h => kt ((oI_some ho hg).mp h)) (fun h => kf (fun e => h ((oI_some ho hg).mpr e)))
theorem K_icmp_neON {p : Option Nat} {g : Nat} {off : Int} {tgt : Nat} (hd : decode mi.2.1 pc = .ok (.if_icmp .ne off, 3)) (ht : (pc : Int) + off = (tgt : Int)) (hn : pc + 3 = n) (ho : oB p) (hg : g < 2 ^ 31) (kt : p ≠ some g → EK d mi Post tgt lv rest N K) (kf : p = some g → EK d mi Post n lv rest N K) : EK d mi Post pc lv (.int (nI g) :: .int (oI p) :: rest) N K := K_icmp_ne hd ht hn (fun h => kt (fun e => h ((oI_some ho hg).mpr e))) (fun h => kf ((oI_some ho hg).mp h))
theorem K_if_ltO {p : Option Nat} {off : Int} {tgt : Nat} (hd : decode mi.2.1 pc = .ok (.ifCond .lt off, 3)) (ht : (pc : Int) + off = (tgt : Int)) (hn : pc + 3 = n) (ho : oB p) (kt : p = none → EK d mi Post tgt lv rest N K) (kf : p ≠ none → EK d mi Post n lv rest N K) : EK d mi Post pc lv (.int (oI p) :: rest) N K := K_if_lt hd ht hn (fun h => kt ((oI_neg ho).mp h)) (fun h => kf (fun e => h ((oI_neg ho).mpr e)))
theorem K_if_geO {p : Option Nat} {off : Int} {tgt : Nat} (hd : decode mi.2.1 pc = .ok (.ifCond .ge off, 3)) (ht : (pc : Int) + off = (tgt : Int)) (hn : pc + 3 = n) (ho : oB p) (kt : p ≠ none → EK d mi Post tgt lv rest N K) (kf : p = none → EK d mi Post n lv rest N K) : EK d mi Post pc lv (.int (oI p) :: rest) N K := K_if_ge hd ht hn (fun h => kt (fun e => absurd h (by rw [e]; decide))) (fun h => kf (by cases p with | none => rfl | some g => exact absurd (nI_pos' (ho g rfl)) h))
end NROWS
