/-! The memory behind the constructors holds the first ghost state -/
def kM (q : Nat → Nat) (B : Nat) (M : Mem) : Mem := fun i j => if i < 100 then M (qk q B i) j else M (i - 100) j
def kJ (q : Nat → Nat) (B : Nat) (J : Mej) : Mej := fun i j => if i < 100 then J (qk q B i) j else J (i - 100) j
theorem km_of {q qi : Nat → Nat} {B : Nat} (h2 : ∀ a, (qi a < 100 ∧ qk q B (qi a) = a) ∨ qi a = a + 100) (M : Mem) : km qi (kM q B M) = M := by
  funext a j
  show (if qi a < 100 then M (qk q B (qi a)) j else M (qi a - 100) j) = M a j
  rcases h2 a with ⟨h, e⟩ | e
  · rw [if_pos h, e]
  · rw [if_neg (by omega), show qi a - 100 = a by omega]
theorem kj_of {q qi : Nat → Nat} {B : Nat} (h2 : ∀ a, (qi a < 100 ∧ qk q B (qi a) = a) ∨ qi a = a + 100) (J : Mej) : kj qi (kJ q B J) = J := by
  funext a j
  show (if qi a < 100 then J (qk q B (qi a)) j else J (qi a - 100) j) = J a j
  rcases h2 a with ⟨h, e⟩ | e
  · rw [if_pos h, e]
  · rw [if_neg (by omega), show qi a - 100 = a by omega]
theorem kM_at {q : Nat → Nat} {B : Nat} {N : Mem} {K : Mej} {L : List Nat} {Sh : Nat → Shp} {M : Mem} {J : Mej} (hA : AOK 60 q T5 N K L Sh M J) {i : Nat} (hi : i < 100) (hp : pm i < 60) : kM q B M i = N (pm i) := by
  rw [← (hA.1 (pm i) hp).1.2.1]
  funext j
  show (if i < 100 then M (qk q B i) j else M (i - 100) j) = M (q (pm i)) j
  rw [if_pos hi]
  unfold qk
  rw [if_pos hp]
theorem kJ_at {q : Nat → Nat} {B : Nat} {N : Mem} {K : Mej} {L : List Nat} {Sh : Nat → Shp} {M : Mem} {J : Mej} (hA : AOK 60 q T5 N K L Sh M J) {i : Nat} (hi : i < 100) (hp : pm i < 60) : kJ q B J i = K (pm i) := by
  rw [← (hA.1 (pm i) hp).1.2.2]
  funext j
  show (if i < 100 then J (qk q B i) j else J (i - 100) j) = J (q (pm i)) j
  rw [if_pos hi]
  unfold qk
  rw [if_pos hp]
set_option maxRecDepth 100000 in
theorem rx_S0 {N : Mem} {K : Mej} (hN : ∀ i, i < 100 → pm i < 60 → N i = N5 (pm i)) (hK : ∀ f, f < 10 → K 11 f = pl11 f) : RX S0 N K := by
  refine ⟨?_, fun f hf => ?_, fun f g hf hg => ?_, fun f hf => ?_, fun y f hy => absurd hy (Nat.not_lt_zero y), fun i hi => absurd hi (Nat.not_lt_zero i), hK⟩
  · rw [hN 0 (by decide) (by decide)]
    exact ⟨rfl, rfl, rfl, rfl, rfl, rfl, rfl⟩
  · have e : N (20 + f) = hhN := by
      rcases (show f = 0 ∨ f = 1 ∨ f = 2 ∨ f = 3 ∨ f = 4 ∨ f = 5 ∨ f = 6 ∨ f = 7 ∨ f = 8 ∨ f = 9 by omega) with rfl | rfl | rfl | rfl | rfl | rfl | rfl | rfl | rfl | rfl <;> exact (hN _ (by decide) (by decide)).trans rfl
    rw [e]
    exact ⟨rfl, rfl, rfl, rfl, rfl, rfl, rfl, rfl, rfl, rfl, ⟨0, by decide, rfl, fun g _ => Nat.zero_testBit g⟩, rfl⟩
  · have e : N (30 + f) = fun _ => 0 := by
      rcases (show f = 0 ∨ f = 1 ∨ f = 2 ∨ f = 3 ∨ f = 4 ∨ f = 5 ∨ f = 6 ∨ f = 7 ∨ f = 8 ∨ f = 9 by omega) with rfl | rfl | rfl | rfl | rfl | rfl | rfl | rfl | rfl | rfl <;> exact (hN _ (by decide) (by decide)).trans rfl
    rw [e]
    rfl
  · rw [hN 2 (by decide) (by decide)]
    show (if f < 10 then (-1 : Int32) else 0) = -1
    rw [if_pos hf]
set_option maxRecDepth 100000 in
theorem ry_S0 {N : Mem} (hN : ∀ i, i < 100 → pm i < 60 → N i = N5 (pm i)) : RY S0 N := by
  refine ⟨?_, fun f hf => absurd hf (Nat.not_lt_zero f), fun f hf => ⟨?_, ?_, fun k hk => absurd hk (Nat.not_lt_zero k), fun g hg => ?_⟩, fun y f hy => absurd hy (Nat.not_lt_zero y), fun i hi => absurd hi (Nat.not_lt_zero i)⟩
  · rw [hN 40 (by decide) (by decide)]
    exact ⟨rfl, rfl, rfl, rfl, rfl, rfl, rfl⟩
  · rw [hN 50 (by decide) (by decide)]
    rfl
  · rw [hN 52 (by decide) (by decide)]
    rfl
  · rw [hN 54 (by decide) (by decide)]
    rfl
/-- what holds between two calls -/
def Inv (S : GS) (N : Mem) (K : Mej) : Prop := RX S N K ∧ RY S N ∧ WF S ∧ CHk S
set_option maxRecDepth 100000 in
theorem start_of {q : Nat → Nat} {K : Mej} {L : List Nat} {Sh : Nat → Shp} {M : Mem} {J : Mej} (hA : AOK 60 q T5 N5 (K5 K) L Sh M J) (hK : ∀ f, f < 10 → K 7 f = pl11 f) :
    ∃ (g qi : Nat → Nat) (N' : Mem) (K' : Mej), WOK L Sh g qi ∧ fr_at L Sh (g 99) outS ∧ km qi N' = M ∧ kj qi K' = J ∧ Inv S0 N' K' ∧ g 0 = q 0 ∧ g 40 = q 36 ∧ g 99 = q 59 := by
  obtain ⟨B, hB⟩ := big_ex q 60
  obtain ⟨qi, h1, h2⟩ := qi_ex (qk_inj (B := B) hA.2 hB)
  refine ⟨qk q B, qi, kM q B M, kJ q B J, wok_of hA h1 h2, (hA.1 59 (by decide)).1.1, km_of h2 M, kj_of h2 J, ⟨rx_S0 (fun i hi hp => kM_at hA hi hp) (fun f hf => ?_), ry_S0 (fun i hi hp => kM_at hA hi hp), wf_S0, ch_S0⟩, rfl, rfl, rfl⟩
  rw [kJ_at hA (i := 11) (by decide) (by decide)]
  exact hK f hf
