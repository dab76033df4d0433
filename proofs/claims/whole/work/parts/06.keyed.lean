/-! The two objects of the law, by keys. 0: the HomeRings; 1 households, 2 goesTo, 3 booked, 4 told, 5 shown, 6 ringSearch, 7 ways; 8 homes, 9 before, 10 starts; 11 places, 12 scores, 13 open, 14 rings, 15 settled; 20 + f: a household, 30 + f: its ranks; 40: the reference, 40 + k: the array of its field k. -/
def sk (i : Nat) : Option Shp :=
  if 20 ≤ i ∧ i < 30 then some (.inl (0, fun k => if k = 0 then some (i + 10) else none))
  else if 30 ≤ i ∧ i < 40 then some (.inr (.inl (0, 10)))
  else match i with
  | 0 => some (.inl (3, fun k => if k < 7 then some (k + 1) else none))
  | 1 => some (.inr (.inr (10, fun k => if k < 10 then some (20 + k) else none)))
  | 2 => some (.inr (.inl (0, 10)))
  | 3 => some (.inr (.inl (0, 600)))
  | 4 => some (.inr (.inl (0, 10)))
  | 5 => some (.inr (.inl (0, 10)))
  | 6 => some (.inl (1, fun k => if k < 5 then some (11 + k) else none))
  | 7 => some (.inl (2, fun k => if k < 3 then some (8 + k) else none))
  | 8 => some (.inr (.inl (0, 10)))
  | 9 => some (.inr (.inl (0, 11)))
  | 10 => some (.inr (.inl (0, 1024)))
  | 11 => some (.inr (.inl (2, 10)))
  | 12 => some (.inr (.inl (2, 100)))
  | 13 => some (.inr (.inl (2, 4608)))
  | 14 => some (.inr (.inl (2, 1024)))
  | 15 => some (.inr (.inl (2, 1024)))
  | 40 => some (.inl (4, fun k => if fr_isR 4 k = true then some (40 + k) else none))
  | 42 => some (.inr (.inl (0, 10)))
  | 43 => some (.inr (.inl (0, 10)))
  | 44 => some (.inr (.inl (0, 10)))
  | 45 => some (.inr (.inl (1, 10)))
  | 46 => some (.inr (.inl (0, 10)))
  | 47 => some (.inr (.inl (0, 10)))
  | 48 => some (.inr (.inl (0, 10)))
  | 49 => some (.inr (.inl (0, 10)))
  | 50 => some (.inr (.inl (0, 10)))
  | 51 => some (.inr (.inl (1, 10)))
  | 52 => some (.inr (.inl (0, 10)))
  | 53 => some (.inr (.inl (0, 100)))
  | 54 => some (.inr (.inl (1, 100)))
  | 55 => some (.inr (.inl (0, 10)))
  | 60 => some (.inr (.inl (0, 10)))
  | 61 => some (.inr (.inl (0, 10)))
  | 67 => some (.inr (.inl (1, 10)))
  | 68 => some (.inr (.inl (0, 10)))
  | 70 => some (.inr (.inl (0, 10)))
  | 71 => some (.inr (.inl (0, 10)))
  | 73 => some (.inr (.inl (0, 10)))
  | 75 => some (.inr (.inl (0, 600)))
  | _ => none
theorem sk_hh {f : Nat} (h : f < 10) : sk (20 + f) = some (.inl (0, fun k => if k = 0 then some (20 + f + 10) else none)) := by
  unfold sk
  rw [if_pos ⟨by omega, by omega⟩]
theorem sk_rk {f : Nat} (h : f < 10) : sk (30 + f) = some (.inr (.inl (0, 10))) := by
  unfold sk
  rw [if_neg (by omega), if_pos ⟨by omega, by omega⟩]
def shq (q : Nat → Nat) : Shp → Shp
  | .inl o => .inl (o.1, fun k => (o.2 k).map q)
  | .inr (.inl o) => .inr (.inl o)
  | .inr (.inr o) => .inr (.inr (o.1, fun k => (o.2 k).map q))
def WOK (L : List Nat) (Sh : Nat → Shp) (q qi : Nat → Nat) : Prop := (∀ i, i < 100 → qi (q i) = i) ∧ (∀ a, qi a < 100 → q (qi a) = a) ∧ ∀ i s, sk i = some s → i < 100 ∧ fr_at L Sh (q i) (shq q s)
def tv (q : Nat → Nat) : Value → Value
  | .ref i => .ref (q i)
  | v => v
def tl (q : Nat → Nat) (lv : LV) : LV := lv.map (fun p => (p.1, tv q p.2))
theorem tv_cat (q : Nat → Nat) (v : Value) : (tv q v).category = v.category := by cases v <;> rfl
theorem tv_sum (q : Nat → Nat) : ∀ st : List Value, ((st.map (tv q)).map fun v => v.category).sum = (st.map fun v => v.category).sum
  | [] => rfl
  | v :: r => by
    have := tv_sum q r
    simp only [List.map_cons, List.sum_cons, tv_cat] at this ⊢
    omega
theorem tl_G (q : Nat → Nat) (i : Nat) : ∀ lv : LV, lvG i (tl q lv) = (lvG i lv).map (tv q)
  | [] => rfl
  | a :: r => by
    have := tl_G q i r
    show cond (Nat.beq a.1 i) (some (tv q a.2)) (lvG i (tl q r)) = (cond (Nat.beq a.1 i) (some a.2) (lvG i r)).map (tv q)
    rw [this]
    cases Nat.beq a.1 i <;> rfl
theorem tl_put (q : Nat → Nat) (i : Nat) (v : Value) : ∀ lv : LV, lv_put i (tv q v) (tl q lv) = tl q (lv_put i v lv)
  | [] => rfl
  | a :: r => by
    have := tl_put q i v r
    show cond (Nat.blt a.1 i) ((a.1, tv q a.2) :: lv_put i (tv q v) (tl q r)) _ = tl q (cond (Nat.blt a.1 i) (a :: lv_put i v r) _)
    rw [this]
    cases Nat.blt a.1 i <;> rfl
theorem tl_S1 (q : Nat → Nat) (i : Nat) (v : Value) (lv : LV) : lvS1 i (tv q v) (tl q lv) = tl q (lvS1 i v lv) := by
  unfold lvS1
  rw [← tl_put]
  congr 1
  simp only [tl, List.filter_map]
  congr 1
  apply List.filter_congr
  intro x _
  simp [tv_cat]
theorem tl_S2 (q : Nat → Nat) (i : Nat) (v : Value) (lv : LV) : lvS2 i (tv q v) (tl q lv) = tl q (lvS2 i v lv) := by
  unfold lvS2
  rw [← tl_put]
  congr 1
  simp only [tl, List.filter_map]
  congr 1
  apply List.filter_congr
  intro x _
  simp [tv_cat]
def km (qi : Nat → Nat) (N : Mem) : Mem := fun a j => N (qi a) j
def kj (qi : Nat → Nat) (N : Mej) : Mej := fun a j => N (qi a) j
theorem km_set {L : List Nat} {Sh : Nat → Shp} {q qi : Nat → Nat} (hW : WOK L Sh q qi) {i : Nat} (hi : i < 100) (N : Mem) (k : Nat) (v : Int32) : sM (km qi N) (q i) k v = km qi (sM N i k v) := by
  funext a j
  rw [sM_at]
  show _ = sM N i k v (qi a) j
  rw [sM_at]
  by_cases h : a = q i
  · subst h
    rw [hW.1 i hi]
    by_cases h2 : j = k
    · simp [h2]
    · simp [h2, km, hW.1 i hi]
  · have h2 : qi a ≠ i := fun e => h (by rw [← e, hW.2.1 a (by omega)])
    simp [h, h2, km]
theorem kj_set {L : List Nat} {Sh : Nat → Shp} {q qi : Nat → Nat} (hW : WOK L Sh q qi) {i : Nat} (hi : i < 100) (N : Mej) (k : Nat) (v : Int64) : sJ (kj qi N) (q i) k v = kj qi (sJ N i k v) := by
  funext a j
  rw [sJ_at]
  show _ = sJ N i k v (qi a) j
  rw [sJ_at]
  by_cases h : a = q i
  · subst h
    rw [hW.1 i hi]
    by_cases h2 : j = k
    · simp [h2]
    · simp [h2, kj, hW.1 i hi]
  · have h2 : qi a ≠ i := fun e => h (by rw [← e, hW.2.1 a (by omega)])
    simp [h, h2, kj]
abbrev PK : Type := Option Value → Mem → Mej → Prop
def pk (L : List Nat) (Sh : Nat → Shp) (q qi : Nat → Nat) (Post : PK) : PST := fun r L1 Sh1 M1 J1 => ∃ (r' : Option Value) (N : Mem) (K : Mej), r = r'.map (tv q) ∧ L1 = L ∧ Sh1 = Sh ∧ M1 = km qi N ∧ J1 = kj qi K ∧ Post r' N K
/-- from this frame the method comes to its end with Post, in any world of that shape -/
def EK (d : Nat) (mi : MI) (Post : PK) (pc : Nat) (lv : LV) (st : List Value) (N : Mem) (K : Mej) : Prop :=
  ∀ l D cy A L Sh q qi, WOK L Sh q qi → EE l D cy d 0 0 mi A (pk L Sh q qi Post) 0 0 pc (tl q lv) (st.map (tv q)) L Sh (km qi N) (kj qi K)
/-- the contract of a method, in any world of that shape -/
def CK (d : Nat) (mi : MI) (args : List Value) (N : Mem) (K : Mej) (Post : PK) : Prop :=
  ∀ l D cy L Sh q qi, WOK L Sh q qi → Cn l D cy d 0 0 mi (args.map (tv q)) L Sh (km qi N) (kj qi K) (pk L Sh q qi Post)
/-- exactly: the answer, and the memory behind it -/
abbrev PX (r : Option Value) (N : Mem) (K : Mej) : PK := fun r1 N1 K1 => r1 = r ∧ N1 = N ∧ K1 = K
theorem tl_args (q : Nat → Nat) : ∀ (vs : List Value) (i : Nat), lv_args i (vs.map (tv q)) = tl q (lv_args i vs)
  | [], _ => rfl
  | v :: r, i => by
    have h := fun j => tl_args q r j
    cases v <;> first | (show _ :: _ = _ :: _; congr 1; exact h _)
theorem tl_sl (q : Nat → Nat) : ∀ vs : List Value, (lg_sl (vs.map (tv q))).length = (lg_sl vs).length
  | [] => rfl
  | v :: r => by
    have h := tl_sl q r
    cases v <;> simp [lg_sl, tv, Value.category] at h ⊢ <;> omega
theorem CK.start {d : Nat} {mi : MI} {args : List Value} {N : Mem} {K : Mej} {Post : PK} (lv : LV) (hy : plainFor mi.1 = true) (hlen : (lg_sl args).length ≤ mi.2.2.1) (hlv : lv_args 0 args = lv) (k : EK d mi Post 0 lv [] N K) : CK d mi args N K Post := by
  intro l D cy L Sh q qi hW
  refine Cn.start (tl q lv) hy (by rw [tl_sl]; exact hlen) (by rw [tl_args, hlv]) (fun A => ?_)
  exact k l D cy A L Sh q qi hW
section KROWS
variable {d : Nat} {mi : MI} {Post : PK} {pc n : Nat} {lv : LV} {st rest : List Value} {N : Mem} {K : Mej}

theorem K_iadd {x y : Int32} (hd : decode mi.2.1 pc = .ok (.iadd, 1))(hn : pc + 1 = n) (k : EK d mi Post n lv (.int (x + y) :: rest) N K) : EK d mi Post pc lv (.int y :: .int x :: rest) N K := by
  intro l D cy A L Sh q qi hW
  exact E_iadd hd hn (k l D cy A L Sh q qi hW)
theorem K_isub {x y : Int32} (hd : decode mi.2.1 pc = .ok (.isub, 1))(hn : pc + 1 = n) (k : EK d mi Post n lv (.int (x - y) :: rest) N K) : EK d mi Post pc lv (.int y :: .int x :: rest) N K := by
  intro l D cy A L Sh q qi hW
  exact E_isub hd hn (k l D cy A L Sh q qi hW)
theorem K_imul {x y : Int32} (hd : decode mi.2.1 pc = .ok (.imul, 1))(hn : pc + 1 = n) (k : EK d mi Post n lv (.int (x * y) :: rest) N K) : EK d mi Post pc lv (.int y :: .int x :: rest) N K := by
  intro l D cy A L Sh q qi hW
  exact E_imul hd hn (k l D cy A L Sh q qi hW)
theorem K_iand {x y : Int32} (hd : decode mi.2.1 pc = .ok (.iand, 1))(hn : pc + 1 = n) (k : EK d mi Post n lv (.int (x &&& y) :: rest) N K) : EK d mi Post pc lv (.int y :: .int x :: rest) N K := by
  intro l D cy A L Sh q qi hW
  exact E_iand hd hn (k l D cy A L Sh q qi hW)
theorem K_ior {x y : Int32} (hd : decode mi.2.1 pc = .ok (.ior, 1))(hn : pc + 1 = n) (k : EK d mi Post n lv (.int (x ||| y) :: rest) N K) : EK d mi Post pc lv (.int y :: .int x :: rest) N K := by
  intro l D cy A L Sh q qi hW
  exact E_ior hd hn (k l D cy A L Sh q qi hW)
theorem K_ixor {x y : Int32} (hd : decode mi.2.1 pc = .ok (.ixor, 1))(hn : pc + 1 = n) (k : EK d mi Post n lv (.int (x ^^^ y) :: rest) N K) : EK d mi Post pc lv (.int y :: .int x :: rest) N K := by
  intro l D cy A L Sh q qi hW
  exact E_ixor hd hn (k l D cy A L Sh q qi hW)
theorem K_ishl {x y : Int32} (hd : decode mi.2.1 pc = .ok (.ishl, 1))(hn : pc + 1 = n) (k : EK d mi Post n lv (.int (x <<< (y &&& 31)) :: rest) N K) : EK d mi Post pc lv (.int y :: .int x :: rest) N K := by
  intro l D cy A L Sh q qi hW
  exact E_ishl hd hn (k l D cy A L Sh q qi hW)
theorem K_ishr {x y : Int32} (hd : decode mi.2.1 pc = .ok (.ishr, 1))(hn : pc + 1 = n) (k : EK d mi Post n lv (.int (x >>> (y &&& 31)) :: rest) N K) : EK d mi Post pc lv (.int y :: .int x :: rest) N K := by
  intro l D cy A L Sh q qi hW
  exact E_ishr hd hn (k l D cy A L Sh q qi hW)
theorem K_iushr {x y : Int32} (hd : decode mi.2.1 pc = .ok (.iushr, 1))(hn : pc + 1 = n) (k : EK d mi Post n lv (.int ((x.toUInt32 >>> (y.toUInt32 &&& Int32.toUInt32 31)).toInt32) :: rest) N K) : EK d mi Post pc lv (.int y :: .int x :: rest) N K := by
  intro l D cy A L Sh q qi hW
  exact E_iushr hd hn (k l D cy A L Sh q qi hW)
theorem K_ladd {x y : Int64} (hd : decode mi.2.1 pc = .ok (.ladd, 1))(hn : pc + 1 = n) (k : EK d mi Post n lv (.long (x + y) :: rest) N K) : EK d mi Post pc lv (.long y :: .long x :: rest) N K := by
  intro l D cy A L Sh q qi hW
  exact E_ladd hd hn (k l D cy A L Sh q qi hW)
theorem K_lsub {x y : Int64} (hd : decode mi.2.1 pc = .ok (.lsub, 1))(hn : pc + 1 = n) (k : EK d mi Post n lv (.long (x - y) :: rest) N K) : EK d mi Post pc lv (.long y :: .long x :: rest) N K := by
  intro l D cy A L Sh q qi hW
  exact E_lsub hd hn (k l D cy A L Sh q qi hW)
theorem K_lmul {x y : Int64} (hd : decode mi.2.1 pc = .ok (.lmul, 1))(hn : pc + 1 = n) (k : EK d mi Post n lv (.long (x * y) :: rest) N K) : EK d mi Post pc lv (.long y :: .long x :: rest) N K := by
  intro l D cy A L Sh q qi hW
  exact E_lmul hd hn (k l D cy A L Sh q qi hW)
theorem K_lxor {x y : Int64} (hd : decode mi.2.1 pc = .ok (.lxor, 1))(hn : pc + 1 = n) (k : EK d mi Post n lv (.long (x ^^^ y) :: rest) N K) : EK d mi Post pc lv (.long y :: .long x :: rest) N K := by
  intro l D cy A L Sh q qi hW
  exact E_lxor hd hn (k l D cy A L Sh q qi hW)
theorem K_irem {x y : Int32} (hd : decode mi.2.1 pc = .ok (.irem, 1))(hne : ¬ y = 0)(hn : pc + 1 = n) (k : EK d mi Post n lv (.int (x - x / y * y) :: rest) N K) : EK d mi Post pc lv (.int y :: .int x :: rest) N K := by
  intro l D cy A L Sh q qi hW
  exact E_irem hd hne hn (k l D cy A L Sh q qi hW)
theorem K_ldiv {x y : Int64} (hd : decode mi.2.1 pc = .ok (.ldiv, 1))(hne : ¬ y = 0)(hn : pc + 1 = n) (k : EK d mi Post n lv (.long (x / y) :: rest) N K) : EK d mi Post pc lv (.long y :: .long x :: rest) N K := by
  intro l D cy A L Sh q qi hW
  exact E_ldiv hd hne hn (k l D cy A L Sh q qi hW)
theorem K_lrem {x y : Int64} (hd : decode mi.2.1 pc = .ok (.lrem, 1))(hne : ¬ y = 0)(hn : pc + 1 = n) (k : EK d mi Post n lv (.long (x - x / y * y) :: rest) N K) : EK d mi Post pc lv (.long y :: .long x :: rest) N K := by
  intro l D cy A L Sh q qi hW
  exact E_lrem hd hne hn (k l D cy A L Sh q qi hW)
theorem K_ineg {x : Int32} (hd : decode mi.2.1 pc = .ok (.ineg, 1))(hn : pc + 1 = n) (k : EK d mi Post n lv (.int (-x) :: rest) N K) : EK d mi Post pc lv (.int x :: rest) N K := by
  intro l D cy A L Sh q qi hW
  exact E_ineg hd hn (k l D cy A L Sh q qi hW)
theorem K_i2l {x : Int32} (hd : decode mi.2.1 pc = .ok (.i2l, 1))(hn : pc + 1 = n) (k : EK d mi Post n lv (.long x.toInt64 :: rest) N K) : EK d mi Post pc lv (.int x :: rest) N K := by
  intro l D cy A L Sh q qi hW
  exact E_i2l hd hn (k l D cy A L Sh q qi hW)
theorem K_i2b {x : Int32} (hd : decode mi.2.1 pc = .ok (.i2b, 1))(hn : pc + 1 = n) (k : EK d mi Post n lv (.int x.toInt8.toInt32 :: rest) N K) : EK d mi Post pc lv (.int x :: rest) N K := by
  intro l D cy A L Sh q qi hW
  exact E_i2b hd hn (k l D cy A L Sh q qi hW)
theorem K_lneg {x : Int64} (hd : decode mi.2.1 pc = .ok (.lneg, 1))(hn : pc + 1 = n) (k : EK d mi Post n lv (.long (-x) :: rest) N K) : EK d mi Post pc lv (.long x :: rest) N K := by
  intro l D cy A L Sh q qi hW
  exact E_lneg hd hn (k l D cy A L Sh q qi hW)
theorem K_l2i {x : Int64} (hd : decode mi.2.1 pc = .ok (.l2i, 1))(hn : pc + 1 = n) (k : EK d mi Post n lv (.int x.toInt32 :: rest) N K) : EK d mi Post pc lv (.long x :: rest) N K := by
  intro l D cy A L Sh q qi hW
  exact E_l2i hd hn (k l D cy A L Sh q qi hW)
theorem K_lcmp {x y : Int64} (hd : decode mi.2.1 pc = .ok (.lcmp, 1))(hn : pc + 1 = n) (k : EK d mi Post n lv (.int (lg_cmp x y) :: rest) N K) : EK d mi Post pc lv (.long y :: .long x :: rest) N K := by
  intro l D cy A L Sh q qi hW
  exact E_lcmp hd hn (k l D cy A L Sh q qi hW)
theorem K_dup {va : Value} (hd : decode mi.2.1 pc = .ok (.dup, 1))(hva : va.category = 1)(hn : pc + 1 = n) (k : EK d mi Post n lv (va :: va :: rest) N K) : EK d mi Post pc lv (va :: rest) N K := by
  intro l D cy A L Sh q qi hW
  exact E_dup hd ((tv_cat q va).trans hva) hn (k l D cy A L Sh q qi hW)
theorem K_dup2 {va vb : Value} (hd : decode mi.2.1 pc = .ok (.dup2, 1))(hva : va.category = 1) (hvb : vb.category = 1)(hn : pc + 1 = n) (k : EK d mi Post n lv (va :: vb :: va :: vb :: rest) N K) : EK d mi Post pc lv (va :: vb :: rest) N K := by
  intro l D cy A L Sh q qi hW
  exact E_dup2 hd ((tv_cat q va).trans hva) ((tv_cat q vb).trans hvb) hn (k l D cy A L Sh q qi hW)
theorem K_pop {va : Value} (hd : decode mi.2.1 pc = .ok (.pop, 1))(hva : va.category = 1)(hn : pc + 1 = n) (k : EK d mi Post n lv (rest) N K) : EK d mi Post pc lv (va :: rest) N K := by
  intro l D cy A L Sh q qi hW
  exact E_pop hd ((tv_cat q va).trans hva) hn (k l D cy A L Sh q qi hW)
theorem K_iconst {z : Int} {v : Int32} (hd : decode mi.2.1 pc = .ok (.iconst z, 1))(hv : Int32.ofInt z = v)(hn : pc + 1 = n) (k : EK d mi Post n lv (.int v :: rest) N K) : EK d mi Post pc lv (rest) N K := by
  intro l D cy A L Sh q qi hW
  exact E_iconst hd hv hn (k l D cy A L Sh q qi hW)
theorem K_bipush {z : Int} {v : Int32} (hd : decode mi.2.1 pc = .ok (.bipush z, 2))(hv : (Int8.ofInt z).toInt32 = v)(hn : pc + 2 = n) (k : EK d mi Post n lv (.int v :: rest) N K) : EK d mi Post pc lv (rest) N K := by
  intro l D cy A L Sh q qi hW
  exact E_bipush hd hv hn (k l D cy A L Sh q qi hW)
theorem K_sipush {z : Int} {v : Int32} (hd : decode mi.2.1 pc = .ok (.sipush z, 3))(hv : (Int16.ofInt z).toInt32 = v)(hn : pc + 3 = n) (k : EK d mi Post n lv (.int v :: rest) N K) : EK d mi Post pc lv (rest) N K := by
  intro l D cy A L Sh q qi hW
  exact E_sipush hd hv hn (k l D cy A L Sh q qi hW)
theorem K_lconst {z : Fin 2} {v : Int64} (hd : decode mi.2.1 pc = .ok (.lconst z, 1))(hv : Int64.ofNat (z : Nat) = v)(hn : pc + 1 = n) (k : EK d mi Post n lv (.long v :: rest) N K) : EK d mi Post pc lv (rest) N K := by
  intro l D cy A L Sh q qi hW
  exact E_lconst hd hv hn (k l D cy A L Sh q qi hW)
theorem K_ldcw {ix : Nat} {v : Int32} (hd : decode mi.2.1 pc = .ok (.ldc_w ix, 3))(hw : Cond.constant mi.1.cls ix v ∈ lwg)(hn : pc + 3 = n) (k : EK d mi Post n lv (.int v :: rest) N K) : EK d mi Post pc lv (rest) N K := by
  intro l D cy A L Sh q qi hW
  exact E_ldcw hd hw hn (k l D cy A L Sh q qi hW)
theorem K_ldc2 {ix : Nat} {v : Int64} (hd : decode mi.2.1 pc = .ok (.ldc2_w ix, 3))(hw : Cond.constantLong mi.1.cls ix v ∈ lwg)(hn : pc + 3 = n) (k : EK d mi Post n lv (.long v :: rest) N K) : EK d mi Post pc lv (rest) N K := by
  intro l D cy A L Sh q qi hW
  exact E_ldc2 hd hw hn (k l D cy A L Sh q qi hW)
theorem K_iload_n {z : Fin 4} {x : Int32} (hd : decode mi.2.1 pc = .ok (.iload_n z, 1))(hg : lvG (z : Nat) lv = some (.int x))(hn : pc + 1 = n) (k : EK d mi Post n lv (.int x :: rest) N K) : EK d mi Post pc lv (rest) N K := by
  intro l D cy A L Sh q qi hW
  exact E_iload_n hd (by rw [tl_G, hg]; rfl) hn (k l D cy A L Sh q qi hW)
theorem K_iload {z : Nat} {x : Int32} (hd : decode mi.2.1 pc = .ok (.iload z, 2))(hg : lvG z lv = some (.int x))(hn : pc + 2 = n) (k : EK d mi Post n lv (.int x :: rest) N K) : EK d mi Post pc lv (rest) N K := by
  intro l D cy A L Sh q qi hW
  exact E_iload hd (by rw [tl_G, hg]; rfl) hn (k l D cy A L Sh q qi hW)
theorem K_istore_n {z : Fin 4} {x : Int32} {lv' : LV} (hd : decode mi.2.1 pc = .ok (.istore_n z, 1)) (hb : (z : Nat) < mi.2.2.1) (hs : lvS1 (z : Nat) (.int x) lv = lv') (hn : pc + 1 = n) (k : EK d mi Post n lv' rest N K) : EK d mi Post pc lv (.int x :: rest) N K := by
  subst hs
  intro l D cy A L Sh q qi hW
  exact E_istore_n hd hb (tl_S1 q (z : Nat) (.int x) lv) hn (k l D cy A L Sh q qi hW)
theorem K_istore {z : Nat} {x : Int32} {lv' : LV} (hd : decode mi.2.1 pc = .ok (.istore z, 2)) (hb : z < mi.2.2.1) (hs : lvS1 z (.int x) lv = lv') (hn : pc + 2 = n) (k : EK d mi Post n lv' rest N K) : EK d mi Post pc lv (.int x :: rest) N K := by
  subst hs
  intro l D cy A L Sh q qi hW
  exact E_istore hd hb (tl_S1 q z (.int x) lv) hn (k l D cy A L Sh q qi hW)
theorem K_lload_n {z : Fin 4} {x : Int64} (hd : decode mi.2.1 pc = .ok (.lload_n z, 1))(hg : lvG (z : Nat) lv = some (.long x))(hn : pc + 1 = n) (k : EK d mi Post n lv (.long x :: rest) N K) : EK d mi Post pc lv (rest) N K := by
  intro l D cy A L Sh q qi hW
  exact E_lload_n hd (by rw [tl_G, hg]; rfl) hn (k l D cy A L Sh q qi hW)
theorem K_lload {z : Nat} {x : Int64} (hd : decode mi.2.1 pc = .ok (.lload z, 2))(hg : lvG z lv = some (.long x))(hn : pc + 2 = n) (k : EK d mi Post n lv (.long x :: rest) N K) : EK d mi Post pc lv (rest) N K := by
  intro l D cy A L Sh q qi hW
  exact E_lload hd (by rw [tl_G, hg]; rfl) hn (k l D cy A L Sh q qi hW)
theorem K_lstore_n {z : Fin 4} {x : Int64} {lv' : LV} (hd : decode mi.2.1 pc = .ok (.lstore_n z, 1)) (hb : (z : Nat) + 1 < mi.2.2.1) (hs : lvS2 (z : Nat) (.long x) lv = lv') (hn : pc + 1 = n) (k : EK d mi Post n lv' rest N K) : EK d mi Post pc lv (.long x :: rest) N K := by
  subst hs
  intro l D cy A L Sh q qi hW
  exact E_lstore_n hd hb (tl_S2 q (z : Nat) (.long x) lv) hn (k l D cy A L Sh q qi hW)
theorem K_lstore {z : Nat} {x : Int64} {lv' : LV} (hd : decode mi.2.1 pc = .ok (.lstore z, 2)) (hb : z + 1 < mi.2.2.1) (hs : lvS2 z (.long x) lv = lv') (hn : pc + 2 = n) (k : EK d mi Post n lv' rest N K) : EK d mi Post pc lv (.long x :: rest) N K := by
  subst hs
  intro l D cy A L Sh q qi hW
  exact E_lstore hd hb (tl_S2 q z (.long x) lv) hn (k l D cy A L Sh q qi hW)
theorem K_aload_n {z : Fin 4} {x : Nat} (hd : decode mi.2.1 pc = .ok (.aload_n z, 1))(hg : lvG (z : Nat) lv = some (.ref x))(hn : pc + 1 = n) (k : EK d mi Post n lv (.ref x :: rest) N K) : EK d mi Post pc lv (rest) N K := by
  intro l D cy A L Sh q qi hW
  exact E_aload_n hd (by rw [tl_G, hg]; rfl) hn (k l D cy A L Sh q qi hW)
theorem K_aload {z : Nat} {x : Nat} (hd : decode mi.2.1 pc = .ok (.aload z, 2))(hg : lvG z lv = some (.ref x))(hn : pc + 2 = n) (k : EK d mi Post n lv (.ref x :: rest) N K) : EK d mi Post pc lv (rest) N K := by
  intro l D cy A L Sh q qi hW
  exact E_aload hd (by rw [tl_G, hg]; rfl) hn (k l D cy A L Sh q qi hW)
theorem K_astore_n {z : Fin 4} {x : Nat} {lv' : LV} (hd : decode mi.2.1 pc = .ok (.astore_n z, 1)) (hb : (z : Nat) < mi.2.2.1) (hs : lvS1 (z : Nat) (.ref x) lv = lv') (hn : pc + 1 = n) (k : EK d mi Post n lv' rest N K) : EK d mi Post pc lv (.ref x :: rest) N K := by
  subst hs
  intro l D cy A L Sh q qi hW
  exact E_astore_n hd hb (tl_S1 q (z : Nat) (.ref x) lv) hn (k l D cy A L Sh q qi hW)
theorem K_astore {z : Nat} {x : Nat} {lv' : LV} (hd : decode mi.2.1 pc = .ok (.astore z, 2)) (hb : z < mi.2.2.1) (hs : lvS1 z (.ref x) lv = lv') (hn : pc + 2 = n) (k : EK d mi Post n lv' rest N K) : EK d mi Post pc lv (.ref x :: rest) N K := by
  subst hs
  intro l D cy A L Sh q qi hW
  exact E_astore hd hb (tl_S1 q z (.ref x) lv) hn (k l D cy A L Sh q qi hW)
theorem K_iinc {z : Nat} {i : Int} {x v : Int32} {lv' : LV} (hd : decode mi.2.1 pc = .ok (.iinc z i, 3)) (hg : lvG z lv = some (.int x)) (hv : x + Int32.ofInt i = v) (hb : z < mi.2.2.1) (hs : lvS1 z (.int v) lv = lv') (hn : pc + 3 = n) (k : EK d mi Post n lv' rest N K) : EK d mi Post pc lv rest N K := by
  subst hs
  intro l D cy A L Sh q qi hW
  exact E_iinc hd (by rw [tl_G, hg]; rfl) hv hb (tl_S1 q z (.int v) lv) hn (k l D cy A L Sh q qi hW)
theorem K_if_eq {x : Int32} {off : Int} {tgt : Nat} (hd : decode mi.2.1 pc = .ok (.ifCond .eq off, 3)) (ht : (pc : Int) + off = (tgt : Int)) (hn : pc + 3 = n) (kt : x = 0 → EK d mi Post tgt lv rest N K) (kf : ¬ x = 0 → EK d mi Post n lv rest N K) : EK d mi Post pc lv (.int x :: rest) N K := by
  intro l D cy A L Sh q qi hW
  exact E_if_eq hd ht hn (fun h => kt h l D cy A L Sh q qi hW) (fun h => kf h l D cy A L Sh q qi hW)
theorem K_if_ne {x : Int32} {off : Int} {tgt : Nat} (hd : decode mi.2.1 pc = .ok (.ifCond .ne off, 3)) (ht : (pc : Int) + off = (tgt : Int)) (hn : pc + 3 = n) (kt : ¬ x = 0 → EK d mi Post tgt lv rest N K) (kf : x = 0 → EK d mi Post n lv rest N K) : EK d mi Post pc lv (.int x :: rest) N K := by
  intro l D cy A L Sh q qi hW
  exact E_if_ne hd ht hn (fun h => kt h l D cy A L Sh q qi hW) (fun h => kf h l D cy A L Sh q qi hW)
theorem K_if_lt {x : Int32} {off : Int} {tgt : Nat} (hd : decode mi.2.1 pc = .ok (.ifCond .lt off, 3)) (ht : (pc : Int) + off = (tgt : Int)) (hn : pc + 3 = n) (kt : x < 0 → EK d mi Post tgt lv rest N K) (kf : ¬ x < 0 → EK d mi Post n lv rest N K) : EK d mi Post pc lv (.int x :: rest) N K := by
  intro l D cy A L Sh q qi hW
  exact E_if_lt hd ht hn (fun h => kt h l D cy A L Sh q qi hW) (fun h => kf h l D cy A L Sh q qi hW)
theorem K_if_ge {x : Int32} {off : Int} {tgt : Nat} (hd : decode mi.2.1 pc = .ok (.ifCond .ge off, 3)) (ht : (pc : Int) + off = (tgt : Int)) (hn : pc + 3 = n) (kt : 0 ≤ x → EK d mi Post tgt lv rest N K) (kf : ¬ 0 ≤ x → EK d mi Post n lv rest N K) : EK d mi Post pc lv (.int x :: rest) N K := by
  intro l D cy A L Sh q qi hW
  exact E_if_ge hd ht hn (fun h => kt h l D cy A L Sh q qi hW) (fun h => kf h l D cy A L Sh q qi hW)
theorem K_if_gt {x : Int32} {off : Int} {tgt : Nat} (hd : decode mi.2.1 pc = .ok (.ifCond .gt off, 3)) (ht : (pc : Int) + off = (tgt : Int)) (hn : pc + 3 = n) (kt : 0 < x → EK d mi Post tgt lv rest N K) (kf : ¬ 0 < x → EK d mi Post n lv rest N K) : EK d mi Post pc lv (.int x :: rest) N K := by
  intro l D cy A L Sh q qi hW
  exact E_if_gt hd ht hn (fun h => kt h l D cy A L Sh q qi hW) (fun h => kf h l D cy A L Sh q qi hW)
theorem K_if_le {x : Int32} {off : Int} {tgt : Nat} (hd : decode mi.2.1 pc = .ok (.ifCond .le off, 3)) (ht : (pc : Int) + off = (tgt : Int)) (hn : pc + 3 = n) (kt : x ≤ 0 → EK d mi Post tgt lv rest N K) (kf : ¬ x ≤ 0 → EK d mi Post n lv rest N K) : EK d mi Post pc lv (.int x :: rest) N K := by
  intro l D cy A L Sh q qi hW
  exact E_if_le hd ht hn (fun h => kt h l D cy A L Sh q qi hW) (fun h => kf h l D cy A L Sh q qi hW)
theorem K_icmp_eq {x y : Int32} {off : Int} {tgt : Nat} (hd : decode mi.2.1 pc = .ok (.if_icmp .eq off, 3)) (ht : (pc : Int) + off = (tgt : Int)) (hn : pc + 3 = n) (kt : x = y → EK d mi Post tgt lv rest N K) (kf : ¬ x = y → EK d mi Post n lv rest N K) : EK d mi Post pc lv (.int y :: .int x :: rest) N K := by
  intro l D cy A L Sh q qi hW
  exact E_icmp_eq hd ht hn (fun h => kt h l D cy A L Sh q qi hW) (fun h => kf h l D cy A L Sh q qi hW)
theorem K_icmp_ne {x y : Int32} {off : Int} {tgt : Nat} (hd : decode mi.2.1 pc = .ok (.if_icmp .ne off, 3)) (ht : (pc : Int) + off = (tgt : Int)) (hn : pc + 3 = n) (kt : ¬ x = y → EK d mi Post tgt lv rest N K) (kf : x = y → EK d mi Post n lv rest N K) : EK d mi Post pc lv (.int y :: .int x :: rest) N K := by
  intro l D cy A L Sh q qi hW
  exact E_icmp_ne hd ht hn (fun h => kt h l D cy A L Sh q qi hW) (fun h => kf h l D cy A L Sh q qi hW)
theorem K_icmp_lt {x y : Int32} {off : Int} {tgt : Nat} (hd : decode mi.2.1 pc = .ok (.if_icmp .lt off, 3)) (ht : (pc : Int) + off = (tgt : Int)) (hn : pc + 3 = n) (kt : x < y → EK d mi Post tgt lv rest N K) (kf : ¬ x < y → EK d mi Post n lv rest N K) : EK d mi Post pc lv (.int y :: .int x :: rest) N K := by
  intro l D cy A L Sh q qi hW
  exact E_icmp_lt hd ht hn (fun h => kt h l D cy A L Sh q qi hW) (fun h => kf h l D cy A L Sh q qi hW)
theorem K_icmp_ge {x y : Int32} {off : Int} {tgt : Nat} (hd : decode mi.2.1 pc = .ok (.if_icmp .ge off, 3)) (ht : (pc : Int) + off = (tgt : Int)) (hn : pc + 3 = n) (kt : y ≤ x → EK d mi Post tgt lv rest N K) (kf : ¬ y ≤ x → EK d mi Post n lv rest N K) : EK d mi Post pc lv (.int y :: .int x :: rest) N K := by
  intro l D cy A L Sh q qi hW
  exact E_icmp_ge hd ht hn (fun h => kt h l D cy A L Sh q qi hW) (fun h => kf h l D cy A L Sh q qi hW)
theorem K_icmp_gt {x y : Int32} {off : Int} {tgt : Nat} (hd : decode mi.2.1 pc = .ok (.if_icmp .gt off, 3)) (ht : (pc : Int) + off = (tgt : Int)) (hn : pc + 3 = n) (kt : y < x → EK d mi Post tgt lv rest N K) (kf : ¬ y < x → EK d mi Post n lv rest N K) : EK d mi Post pc lv (.int y :: .int x :: rest) N K := by
  intro l D cy A L Sh q qi hW
  exact E_icmp_gt hd ht hn (fun h => kt h l D cy A L Sh q qi hW) (fun h => kf h l D cy A L Sh q qi hW)
theorem K_icmp_le {x y : Int32} {off : Int} {tgt : Nat} (hd : decode mi.2.1 pc = .ok (.if_icmp .le off, 3)) (ht : (pc : Int) + off = (tgt : Int)) (hn : pc + 3 = n) (kt : x ≤ y → EK d mi Post tgt lv rest N K) (kf : ¬ x ≤ y → EK d mi Post n lv rest N K) : EK d mi Post pc lv (.int y :: .int x :: rest) N K := by
  intro l D cy A L Sh q qi hW
  exact E_icmp_le hd ht hn (fun h => kt h l D cy A L Sh q qi hW) (fun h => kf h l D cy A L Sh q qi hW)
theorem K_goto {off : Int} {tgt : Nat} (hd : decode mi.2.1 pc = .ok (.goto off, 3)) (ht : (pc : Int) + off = (tgt : Int)) (k : EK d mi Post tgt lv rest N K) : EK d mi Post pc lv rest N K := by
  intro l D cy A L Sh q qi hW
  exact E_goto hd ht (k l D cy A L Sh q qi hW)
theorem K_tswO {dflt lo hi : Int} {offs : Array Int} {len : Nat} {x : Int32} {tgt : Nat} (hd : decode mi.2.1 pc = .ok (.tableswitch dflt lo hi offs, len)) (h : x.toInt < lo ∨ hi < x.toInt) (ht : (pc : Int) + dflt = (tgt : Int)) (k : EK d mi Post tgt lv rest N K) : EK d mi Post pc lv (.int x :: rest) N K := by
  intro l D cy A L Sh q qi hW
  exact E_tswO hd h ht (k l D cy A L Sh q qi hW)
theorem K_tswI {dflt lo hi off : Int} {offs : Array Int} {len : Nat} {x : Int32} {tgt : Nat} (hd : decode mi.2.1 pc = .ok (.tableswitch dflt lo hi offs, len)) (h1 : ¬ x.toInt < lo) (h2 : ¬ hi < x.toInt) (ho : offs[(x.toInt - lo).toNat]? = some off) (ht : (pc : Int) + off = (tgt : Int)) (k : EK d mi Post tgt lv rest N K) : EK d mi Post pc lv (.int x :: rest) N K := by
  intro l D cy A L Sh q qi hW
  exact E_tswI hd h1 h2 ho ht (k l D cy A L Sh q qi hW)
theorem K_pick {lv' : LV} (ks : List Nat) (h : lv_pick lv ks = lv') (k : EK d mi Post pc lv' st N K) : EK d mi Post pc lv st N K := by
  subst h
  intro l D cy A L Sh q qi hW
  refine E_lv (fun x hx => ?_) (k l D cy A L Sh q qi hW)
  obtain ⟨y, hy, rfl⟩ := List.mem_map.mp hx
  obtain ⟨i, -, hi⟩ := List.mem_filterMap.mp hy
  exact List.mem_map.mpr ⟨y, List.mem_of_getElem? hi, rfl⟩
theorem K_iret {v : Int32} (hd : decode mi.2.1 pc = .ok (.ireturn, 1)) (hr : mi.2.2.2 = some .int) (hp : Post (some (.int v)) N K) : EK d mi Post pc lv [.int v] N K := by
  intro l D cy A L Sh q qi hW
  exact E_iret hd hr (Nat.le_refl 0) (Nat.le_refl 0) ⟨some (.int v), N, K, rfl, rfl, rfl, rfl, rfl, hp⟩
theorem K_zret {v : Int32} (hd : decode mi.2.1 pc = .ok (.ireturn, 1)) (hr : mi.2.2.2 = some .boolean) (hv : narrow .boolean (.int v) = .int v) (hp : Post (some (.int v)) N K) : EK d mi Post pc lv [.int v] N K := by
  intro l D cy A L Sh q qi hW
  exact E_zret hd hr hv (Nat.le_refl 0) (Nat.le_refl 0) ⟨some (.int v), N, K, rfl, rfl, rfl, rfl, rfl, hp⟩
theorem K_lret {v : Int64} (hd : decode mi.2.1 pc = .ok (.lreturn, 1)) (hr : mi.2.2.2 = some .long) (hp : Post (some (.long v)) N K) : EK d mi Post pc lv [.long v] N K := by
  intro l D cy A L Sh q qi hW
  exact E_lret hd hr (Nat.le_refl 0) (Nat.le_refl 0) ⟨some (.long v), N, K, rfl, rfl, rfl, rfl, rfl, hp⟩
theorem K_ret (hd : decode mi.2.1 pc = .ok (.return_, 1)) (hr : mi.2.2.2 = none) (hp : Post none N K) : EK d mi Post pc lv [] N K := by
  intro l D cy A L Sh q qi hW
  exact E_ret hd hr (Nat.le_refl 0) (Nat.le_refl 0) ⟨none, N, K, rfl, rfl, rfl, rfl, rfl, hp⟩
theorem km_at {L : List Nat} {Sh : Nat → Shp} {q qi : Nat → Nat} (hW : WOK L Sh q qi) {i : Nat} {s : Shp} (hs : sk i = some s) (N : Mem) (k : Nat) : km qi N (q i) k = N i k := by
  show N (qi (q i)) k = _
  rw [hW.1 i (hW.2.2 i s hs).1]
theorem kj_at {L : List Nat} {Sh : Nat → Shp} {q qi : Nat → Nat} (hW : WOK L Sh q qi) {i : Nat} {s : Shp} (hs : sk i = some s) (N : Mej) (k : Nat) : kj qi N (q i) k = N i k := by
  show N (qi (q i)) k = _
  rw [hW.1 i (hW.2.2 i s hs).1]
theorem K_getI {i ci k idx : Nat} {rf : Nat → Option Nat} {v : Int32} (hd : decode mi.2.1 pc = .ok (.getfield idx, 3)) (hw : fr_link mi.1.cls idx ci k) (hs : sk i = some (.inl (ci, rf))) (hi : fr_isR ci k = false) (hv : N i k = v) (hn : pc + 3 = n) (kk : EK d mi Post n lv (.int v :: rest) N K) : EK d mi Post pc lv (.ref i :: rest) N K := by
  intro l D cy A L Sh q qi hW
  exact E_getI hd hw (hW.2.2 i _ hs).2 hi ((km_at hW hs N k).trans hv) hn (kk l D cy A L Sh q qi hW)
theorem K_getR {i ci k idx r : Nat} {rf : Nat → Option Nat} (hd : decode mi.2.1 pc = .ok (.getfield idx, 3)) (hw : fr_link mi.1.cls idx ci k) (hs : sk i = some (.inl (ci, rf))) (hi : fr_isR ci k = true) (hv : rf k = some r) (hn : pc + 3 = n) (kk : EK d mi Post n lv (.ref r :: rest) N K) : EK d mi Post pc lv (.ref i :: rest) N K := by
  intro l D cy A L Sh q qi hW
  exact E_getR hd hw (hW.2.2 i _ hs).2 hi (by show (rf k).map q = some (q r); rw [hv]; rfl) hn (kk l D cy A L Sh q qi hW)
theorem K_putI {i ci k idx : Nat} {rf : Nat → Option Nat} {v : Int32} (hd : decode mi.2.1 pc = .ok (.putfield idx, 3)) (hw : fr_link mi.1.cls idx ci k) (hs : sk i = some (.inl (ci, rf))) (hi : fr_isR ci k = false) (hf : (fr_TT ci k).2.2.2 = false) (hty : fr_ty ci k = .int) (hn : pc + 3 = n) (kk : EK d mi Post n lv rest (sM N i k v) K) : EK d mi Post pc lv (.int v :: .ref i :: rest) N K := by
  intro l D cy A L Sh q qi hW
  refine E_putI hd hw (hW.2.2 i _ hs).2 hi hf hty hn ?_
  rw [km_set hW (hW.2.2 i _ hs).1]
  exact kk l D cy A L Sh q qi hW
theorem K_putZ {i ci k idx : Nat} {rf : Nat → Option Nat} {v : Int32} (hd : decode mi.2.1 pc = .ok (.putfield idx, 3)) (hw : fr_link mi.1.cls idx ci k) (hs : sk i = some (.inl (ci, rf))) (hi : fr_isR ci k = false) (hf : (fr_TT ci k).2.2.2 = false) (hty : fr_ty ci k = .boolean) (hv : v = 0 ∨ v = 1) (hn : pc + 3 = n) (kk : EK d mi Post n lv rest (sM N i k v) K) : EK d mi Post pc lv (.int v :: .ref i :: rest) N K := by
  intro l D cy A L Sh q qi hW
  refine E_putZ hd hw (hW.2.2 i _ hs).2 hi hf hty hv hn ?_
  rw [km_set hW (hW.2.2 i _ hs).1]
  exact kk l D cy A L Sh q qi hW
theorem K_iald {i m j : Nat} {v : Int32} (hd : decode mi.2.1 pc = .ok (.iaload, 1)) (hs : sk i = some (.inr (.inl (0, m)))) (hj : j < m) (hm : m < 2 ^ 31) (hv : N i j = v) (hn : pc + 1 = n) (kk : EK d mi Post n lv (.int v :: rest) N K) : EK d mi Post pc lv (.int (nI j) :: .ref i :: rest) N K := by
  intro l D cy A L Sh q qi hW
  exact E_iald hd (hW.2.2 i _ hs).2 hj hm ((km_at hW hs N j).trans hv) hn (kk l D cy A L Sh q qi hW)
theorem K_zald {i m j : Nat} {v : Int32} (hd : decode mi.2.1 pc = .ok (.baload, 1)) (hs : sk i = some (.inr (.inl (1, m)))) (hj : j < m) (hm : m < 2 ^ 31) (hv : N i j = v) (hn : pc + 1 = n) (kk : EK d mi Post n lv (.int v :: rest) N K) : EK d mi Post pc lv (.int (nI j) :: .ref i :: rest) N K := by
  intro l D cy A L Sh q qi hW
  exact E_zald hd (hW.2.2 i _ hs).2 hj hm ((km_at hW hs N j).trans hv) hn (kk l D cy A L Sh q qi hW)
theorem K_lald {i m j : Nat} {v : Int64} (hd : decode mi.2.1 pc = .ok (.laload, 1)) (hs : sk i = some (.inr (.inl (2, m)))) (hj : j < m) (hm : m < 2 ^ 31) (hv : K i j = v) (hn : pc + 1 = n) (kk : EK d mi Post n lv (.long v :: rest) N K) : EK d mi Post pc lv (.int (nI j) :: .ref i :: rest) N K := by
  intro l D cy A L Sh q qi hW
  exact E_lald hd (hW.2.2 i _ hs).2 hj hm ((kj_at hW hs K j).trans hv) hn (kk l D cy A L Sh q qi hW)
theorem K_aald {i m j r : Nat} {rf : Nat → Option Nat} (hd : decode mi.2.1 pc = .ok (.aaload, 1)) (hs : sk i = some (.inr (.inr (m, rf)))) (hj : j < m) (hm : m < 2 ^ 31) (hv : rf j = some r) (hn : pc + 1 = n) (kk : EK d mi Post n lv (.ref r :: rest) N K) : EK d mi Post pc lv (.int (nI j) :: .ref i :: rest) N K := by
  intro l D cy A L Sh q qi hW
  exact E_aald hd (hW.2.2 i _ hs).2 hj hm (by show (rf j).map q = some (q r); rw [hv]; rfl) hn (kk l D cy A L Sh q qi hW)
theorem K_iast {i m j : Nat} {v : Int32} (hd : decode mi.2.1 pc = .ok (.iastore, 1)) (hs : sk i = some (.inr (.inl (0, m)))) (hj : j < m) (hm : m < 2 ^ 31) (hn : pc + 1 = n) (kk : EK d mi Post n lv rest (sM N i j v) K) : EK d mi Post pc lv (.int v :: .int (nI j) :: .ref i :: rest) N K := by
  intro l D cy A L Sh q qi hW
  refine E_iast hd (hW.2.2 i _ hs).2 hj hm hn ?_
  rw [km_set hW (hW.2.2 i _ hs).1]
  exact kk l D cy A L Sh q qi hW
theorem K_zast {i m j : Nat} {v : Int32} (hd : decode mi.2.1 pc = .ok (.bastore, 1)) (hs : sk i = some (.inr (.inl (1, m)))) (hj : j < m) (hm : m < 2 ^ 31) (hv : v = 0 ∨ v = 1) (hn : pc + 1 = n) (kk : EK d mi Post n lv rest (sM N i j v) K) : EK d mi Post pc lv (.int v :: .int (nI j) :: .ref i :: rest) N K := by
  intro l D cy A L Sh q qi hW
  refine E_zast hd (hW.2.2 i _ hs).2 hj hm hv hn ?_
  rw [km_set hW (hW.2.2 i _ hs).1]
  exact kk l D cy A L Sh q qi hW
theorem K_last {i m j : Nat} {v : Int64} (hd : decode mi.2.1 pc = .ok (.lastore, 1)) (hs : sk i = some (.inr (.inl (2, m)))) (hj : j < m) (hm : m < 2 ^ 31) (hn : pc + 1 = n) (kk : EK d mi Post n lv rest N (sJ K i j v)) : EK d mi Post pc lv (.long v :: .int (nI j) :: .ref i :: rest) N K := by
  intro l D cy A L Sh q qi hW
  refine E_last hd (hW.2.2 i _ hs).2 hj hm hn ?_
  rw [kj_set hW (hW.2.2 i _ hs).1]
  exact kk l D cy A L Sh q qi hW
theorem K_alen {i m : Nat} (hd : decode mi.2.1 pc = .ok (.arraylength, 1)) (hs : sk i = some (.inr (.inl (2, m)))) (hn : pc + 1 = n) (kk : EK d mi Post n lv (.int (nI m) :: rest) N K) : EK d mi Post pc lv (.ref i :: rest) N K := by
  intro l D cy A L Sh q qi hW
  exact E_alen hd (hW.2.2 i _ hs).2 hn (kk l D cy A L Sh q qi hW)
theorem rev_tv (q : Nat → Nat) (As st : List Value) : (As.map (tv q)).reverse ++ st.map (tv q) = (As.reverse ++ st).map (tv q) := by simp
/-- a call: any contract -/
theorem K_callV {mj : MI} {b ci idx na d1 : Nat} {rf : Nat → Option Nat} (As : List Value) {Post1 : PK} (hd : decode mi.2.1 pc = .ok (.invokevirtual idx, 3)) (hw : fr_mlink mi.1.cls idx mj (fr_RR ci) na) (hci : ci < 5) (hb : sk b = some (.inl (ci, rf))) (hst : As.reverse ++ .ref b :: rest = st) (hlen : As.length = na) (hroom : (rest.map fun v => v.category).sum ≤ 8)
    (hM : CK d1 mj (.ref b :: As) N K Post1) (hd1 : d1 + 1 ≤ d) (hn : pc + 3 = n) (kk : ∀ r N1 K1, Post1 r N1 K1 → EK d mi Post n lv (r.toList ++ rest) N1 K1) : EK d mi Post pc lv st N K := by
  subst hst
  intro l D cy A L Sh q qi hW
  refine E_callV (As.map (tv q)) (rest := rest.map (tv q)) (b := q b) hd hw hci (hW.2.2 b _ hb).2 ?_ (by rw [List.length_map]; exact hlen) (by rw [tv_sum]; exact hroom) (hM l D cy L Sh q qi hW) hd1 (Nat.le_refl 0) (Nat.le_refl 0) hn ?_
  · exact rev_tv q As (.ref b :: rest)
  · rintro r L1 Sh1 M1 J1 ⟨r', N1, K1, h1, h2, h3, h4, h5, h6⟩
    subst h1; subst h2; subst h3; subst h4; subst h5
    have := kk r' N1 K1 h6 l D cy A L1 Sh1 q qi hW
    cases r' with
    | none => exact this
    | some v => exact this
theorem K_callS {mj : MI} {idx na d1 : Nat} (As : List Value) {Post1 : PK} (hd : decode mi.2.1 pc = .ok (.invokestatic idx, 3)) (hw : fr_slink mi.1.cls idx mj na) (hst : As.reverse ++ rest = st) (hlen : As.length = na) (hroom : (rest.map fun v => v.category).sum ≤ 8)
    (hM : CK d1 mj As N K Post1) (hd1 : d1 + 1 ≤ d) (hn : pc + 3 = n) (kk : ∀ r N1 K1, Post1 r N1 K1 → EK d mi Post n lv (r.toList ++ rest) N1 K1) : EK d mi Post pc lv st N K := by
  subst hst
  intro l D cy A L Sh q qi hW
  refine E_callS (As.map (tv q)) (rest := rest.map (tv q)) hd hw ?_ (by rw [List.length_map]; exact hlen) (by rw [tv_sum]; exact hroom) (hM l D cy L Sh q qi hW) hd1 (Nat.le_refl 0) (Nat.le_refl 0) hn ?_
  · exact rev_tv q As rest
  · rintro r L1 Sh1 M1 J1 ⟨r', N1, K1, h1, h2, h3, h4, h5, h6⟩
    subst h1; subst h2; subst h3; subst h4; subst h5
    have := kk r' N1 K1 h6 l D cy A L1 Sh1 q qi hW
    cases r' with
    | none => exact this
    | some v => exact this
/-- calls with an exact contract: an answer, or none -/
theorem K_cv {mj : MI} {b ci idx na d1 : Nat} {rf : Nat → Option Nat} (As : List Value) {v : Value} {N1 : Mem} {K1 : Mej} (hd : decode mi.2.1 pc = .ok (.invokevirtual idx, 3)) (hw : fr_mlink mi.1.cls idx mj (fr_RR ci) na) (hci : ci < 5) (hb : sk b = some (.inl (ci, rf))) (hst : As.reverse ++ .ref b :: rest = st) (hlen : As.length = na) (hroom : (rest.map fun v => v.category).sum ≤ 8) (hM : CK d1 mj (.ref b :: As) N K (PX (some v) N1 K1)) (hd1 : d1 + 1 ≤ d) (hn : pc + 3 = n) (kk : EK d mi Post n lv (v :: rest) N1 K1) : EK d mi Post pc lv st N K := by
  refine K_callV As hd hw hci hb hst hlen hroom hM hd1 hn ?_
  rintro r N2 K2 ⟨h1, h2, h3⟩
  subst h1; subst h2; subst h3
  exact kk
theorem K_c0 {mj : MI} {b ci idx na d1 : Nat} {rf : Nat → Option Nat} (As : List Value) {N1 : Mem} {K1 : Mej} (hd : decode mi.2.1 pc = .ok (.invokevirtual idx, 3)) (hw : fr_mlink mi.1.cls idx mj (fr_RR ci) na) (hci : ci < 5) (hb : sk b = some (.inl (ci, rf))) (hst : As.reverse ++ .ref b :: rest = st) (hlen : As.length = na) (hroom : (rest.map fun v => v.category).sum ≤ 8) (hM : CK d1 mj (.ref b :: As) N K (PX none N1 K1)) (hd1 : d1 + 1 ≤ d) (hn : pc + 3 = n) (kk : EK d mi Post n lv rest N1 K1) : EK d mi Post pc lv st N K := by
  refine K_callV As hd hw hci hb hst hlen hroom hM hd1 hn ?_
  rintro r N2 K2 ⟨h1, h2, h3⟩
  subst h1; subst h2; subst h3
  exact kk
theorem K_sv {mj : MI} {idx na d1 : Nat} (As : List Value) {v : Value} {N1 : Mem} {K1 : Mej} (hd : decode mi.2.1 pc = .ok (.invokestatic idx, 3)) (hw : fr_slink mi.1.cls idx mj na) (hst : As.reverse ++ rest = st) (hlen : As.length = na) (hroom : (rest.map fun v => v.category).sum ≤ 8) (hM : CK d1 mj As N K (PX (some v) N1 K1)) (hd1 : d1 + 1 ≤ d) (hn : pc + 3 = n) (kk : EK d mi Post n lv (v :: rest) N1 K1) : EK d mi Post pc lv st N K := by
  refine K_callS As hd hw hst hlen hroom hM hd1 hn ?_
  rintro r N2 K2 ⟨h1, h2, h3⟩
  subst h1; subst h2; subst h3
  exact kk
end KROWS
