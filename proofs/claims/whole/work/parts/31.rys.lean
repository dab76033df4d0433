def FY (N N1 : Mem) : Prop := ∀ i, i < 40 → N1 i = N i
theorem FY.rf (N : Mem) : FY N N := fun _ _ => rfl
theorem FY.set {N N1 : Mem} (h : FY N N1) {a k : Nat} {v : Int32} (ha : 40 ≤ a) : FY N (sM N1 a k v) := fun i hi => (sM_row (by omega)).trans (h i hi)
theorem FY.trans {N N1 N2 : Mem} (h : FY N N1) (h2 : FY N1 N2) : FY N N2 := fun i hi => (h2 i hi).trans (h i hi)
abbrev PRY (r : Int32) (S1 : GS) (N : Mem) (K : Mej) : PK := fun r1 N1 K1 => r1 = some (.int r) ∧ RY S1 N1 ∧ FY N N1 ∧ K1 = K
theorem RY.frame {S : GS} {N N1 : Mem} (R : RY S N) (h0 : ∀ k, k ≠ 0 → k < 20 ∨ k = 29 ∨ k = 34 → N1 40 k = N 40 k) (h : ∀ i, (42 ≤ i ∧ i ≤ 55) ∨ i = 70 ∨ i = 75 → N1 i = N i) : RY S N1 := by
  refine ⟨?_, fun f hf => ?_, fun f hf => ?_, fun y f hy hf => ?_, fun i hi => ?_⟩
  · obtain ⟨a1, a2, a3, a4, a5, a6, a7⟩ := R.1
    exact ⟨(h0 1 (by decide) (by decide)).trans a1, (h0 16 (by decide) (by decide)).trans a2, (h0 17 (by decide) (by decide)).trans a3, (h0 18 (by decide) (by decide)).trans a4, (h0 19 (by decide) (by decide)).trans a5, (h0 29 (by decide) (by decide)).trans a6, (h0 34 (by decide) (by decide)).trans a7⟩
  · rw [h 42 (by decide), h 43 (by decide), h 44 (by decide), h 45 (by decide), h 46 (by decide), h 47 (by decide), h 48 (by decide), h 49 (by decide), h 51 (by decide), h 55 (by decide)]
    exact R.2.1 f hf
  · rw [h 50 (by decide), h 52 (by decide), h 53 (by decide), h 54 (by decide)]
    exact R.2.2.1 f hf
  · rw [h 75 (by decide)]; exact R.2.2.2.1 y f hy hf
  · rw [h 70 (by decide)]; exact R.2.2.2.2 i hi
theorem RY.thr {S : GS} {N : Mem} (R : RY S N) (v : Int32) : RY S (sM N 40 0 v) := R.frame (fun k hk _ => sM_ne (Or.inr hk)) (fun i hi => sM_row (by omega))
theorem RY.scr {S : GS} {N : Mem} (R : RY S N) {a k : Nat} {v : Int32} (h : a < 40 ∨ (56 ≤ a ∧ a ≠ 70 ∧ a ≠ 75)) : RY S (sM N a k v) := R.frame (fun j _ _ => sM_ne (Or.inl (by omega))) (fun i hi => sM_row (by omega))
theorem RY.c0 {S : GS} {N : Mem} (R : RY S N) : RY (gC S) (sM (sM N 40 0 (nI 0)) 40 19 (nI 0)) := by
  have R := R.thr (nI 0)
  refine ⟨?_, fun f hf => ?_, fun f hf => ?_, fun y f hy hf => ?_, fun i hi => ?_⟩
  · obtain ⟨a1, a2, a3, a4, a5, a6, a7⟩ := R.1
    exact ⟨(sM_ne (Or.inr (by decide))).trans a1, (sM_ne (Or.inr (by decide))).trans a2, (sM_ne (Or.inr (by decide))).trans a3, (sM_ne (Or.inr (by decide))).trans a4, sM_eq _ _ _ _, (sM_ne (Or.inr (by decide))).trans a6, (sM_ne (Or.inr (by decide))).trans a7⟩
  · exact R.2.1 f hf
  · exact R.2.2.1 f hf
  · exact R.2.2.2.1 y f hy hf
  · exact R.2.2.2.2 i hi
theorem FY.c0 (N : Mem) : FY N (sM (sM N 40 0 (nI 0)) 40 19 (nI 0)) := ((FY.rf N).set (by decide)).set (by decide)
theorem FY.t0 (N : Mem) : FY N (sM N 40 0 (nI 0)) := (FY.rf N).set (by decide)
theorem RY.sc16 {S : GS} {N : Mem} (R : RY S N) (v : Nat) : RY (gN S 0 1 v) (sM N 40 16 (nI v)) := by
  refine ⟨?_, fun f hf => ?_, fun f hf => ?_, fun y f hy hf => ?_, fun i hi => ?_⟩
  · obtain ⟨a1, a16, a17, a18, a19, a29, a34⟩ := R.1
    exact ⟨(sM_ne (Or.inr (by decide))).trans a1, sM_eq _ _ _ _, (sM_ne (Or.inr (by decide))).trans a17, (sM_ne (Or.inr (by decide))).trans a18, (sM_ne (Or.inr (by decide))).trans a19, (sM_ne (Or.inr (by decide))).trans a29, (sM_ne (Or.inr (by decide))).trans a34⟩
  · exact R.2.1 f hf
  · obtain ⟨c1, c2, c3, c4⟩ := R.2.2.1 f hf
    exact ⟨c1, c2, fun k hk => by rw [wl_gN (by decide)]; exact c3 k hk, c4⟩
  · exact R.2.2.2.1 y f hy hf
  · exact R.2.2.2.2 i hi
theorem RY.sc17 {S : GS} {N : Mem} (R : RY S N) (v : Nat) : RY (gN S 0 2 v) (sM N 40 17 (nI v)) := by
  refine ⟨?_, fun f hf => ?_, fun f hf => ?_, fun y f hy hf => ?_, fun i hi => ?_⟩
  · obtain ⟨a1, a16, a17, a18, a19, a29, a34⟩ := R.1
    exact ⟨(sM_ne (Or.inr (by decide))).trans a1, (sM_ne (Or.inr (by decide))).trans a16, sM_eq _ _ _ _, (sM_ne (Or.inr (by decide))).trans a18, (sM_ne (Or.inr (by decide))).trans a19, (sM_ne (Or.inr (by decide))).trans a29, (sM_ne (Or.inr (by decide))).trans a34⟩
  · exact R.2.1 f hf
  · obtain ⟨c1, c2, c3, c4⟩ := R.2.2.1 f hf
    exact ⟨c1, c2, fun k hk => by rw [wl_gN (by decide)]; exact c3 k hk, c4⟩
  · exact R.2.2.2.1 y f hy hf
  · exact R.2.2.2.2 i hi
theorem RY.sc18 {S : GS} {N : Mem} (R : RY S N) (v : Nat) : RY (gN S 0 3 v) (sM N 40 18 (nI v)) := by
  refine ⟨?_, fun f hf => ?_, fun f hf => ?_, fun y f hy hf => ?_, fun i hi => ?_⟩
  · obtain ⟨a1, a16, a17, a18, a19, a29, a34⟩ := R.1
    exact ⟨(sM_ne (Or.inr (by decide))).trans a1, (sM_ne (Or.inr (by decide))).trans a16, (sM_ne (Or.inr (by decide))).trans a17, sM_eq _ _ _ _, (sM_ne (Or.inr (by decide))).trans a19, (sM_ne (Or.inr (by decide))).trans a29, (sM_ne (Or.inr (by decide))).trans a34⟩
  · exact R.2.1 f hf
  · obtain ⟨c1, c2, c3, c4⟩ := R.2.2.1 f hf
    exact ⟨c1, c2, fun k hk => by rw [wl_gN (by decide)]; exact c3 k hk, c4⟩
  · exact R.2.2.2.1 y f hy hf
  · exact R.2.2.2.2 i hi
theorem RY.a46 {S : GS} {N : Mem} (R : RY S N) {f : Nat} (v : Nat) : RY (gN S 4 f v) (sM N 46 f (nI v)) := by
  refine ⟨?_, fun f2 hf2 => ?_, fun f2 hf2 => ?_, fun y f2 hy hf2 => ?_, fun i hi => ?_⟩
  · rw [sM_row (by decide)]; exact R.1
  · obtain ⟨b42, b43, b44, b45, b46, b47, b48, b49, b51, b55⟩ := R.2.1 f2 hf2
    refine ⟨?_, ?_, ?_, ?_, ?_, ?_, ?_, ?_, ?_, ?_⟩
    · rw [sM_row (by decide)]; exact b42.trans (by simp [s_kd, gN])
    · rw [sM_row (by decide)]; exact b43.trans (by simp [s_bd, gN])
    · rw [sM_row (by decide)]; exact b44.trans (by simp [s_ps, gN])
    · rw [sM_row (by decide)]; exact b45.trans (by simp [s_pt, gN])
    · rw [sM_at]
      by_cases e : f2 = f
      · subst e
        simp [s_ff, gN]
      · rw [if_neg (by omega), b46]
        simp [s_ff, gN, e]
    · rw [sM_row (by decide)]; exact b47.trans (by simp [s_ft, gN])
    · rw [sM_row (by decide)]; exact b48.trans (by simp [s_tf, gN])
    · rw [sM_row (by decide)]; exact b49.trans (by simp [s_tt, gN])
    · rw [sM_row (by decide)]; exact b51.trans (by simp [s_pr, gN])
    · rw [sM_row (by decide)]; exact b55.trans (by simp [s_pl, gN])
  · obtain ⟨c1, c2, c3, c4⟩ := R.2.2.1 f2 hf2
    refine ⟨by rw [sM_row (by decide)]; exact c1, by rw [sM_row (by decide)]; exact c2.trans (by simp [s_wc, gN]), fun k hk => ?_, fun g hg => by rw [sM_row (by decide)]; exact c4 g hg⟩
    rw [sM_row (by decide), wl_gN (by decide)]
    exact c3 k (by simpa [s_wc, gN] using hk)
  · rw [sM_row (by decide)]; exact R.2.2.2.1 y f2 hy hf2
  · rw [sM_row (by decide)]; exact R.2.2.2.2 i hi
theorem RY.a47 {S : GS} {N : Mem} (R : RY S N) {f : Nat} (v : Nat) : RY (gN S 5 f v) (sM N 47 f (nI v)) := by
  refine ⟨?_, fun f2 hf2 => ?_, fun f2 hf2 => ?_, fun y f2 hy hf2 => ?_, fun i hi => ?_⟩
  · rw [sM_row (by decide)]; exact R.1
  · obtain ⟨b42, b43, b44, b45, b46, b47, b48, b49, b51, b55⟩ := R.2.1 f2 hf2
    refine ⟨?_, ?_, ?_, ?_, ?_, ?_, ?_, ?_, ?_, ?_⟩
    · rw [sM_row (by decide)]; exact b42.trans (by simp [s_kd, gN])
    · rw [sM_row (by decide)]; exact b43.trans (by simp [s_bd, gN])
    · rw [sM_row (by decide)]; exact b44.trans (by simp [s_ps, gN])
    · rw [sM_row (by decide)]; exact b45.trans (by simp [s_pt, gN])
    · rw [sM_row (by decide)]; exact b46.trans (by simp [s_ff, gN])
    · rw [sM_at]
      by_cases e : f2 = f
      · subst e
        simp [s_ft, gN]
      · rw [if_neg (by omega), b47]
        simp [s_ft, gN, e]
    · rw [sM_row (by decide)]; exact b48.trans (by simp [s_tf, gN])
    · rw [sM_row (by decide)]; exact b49.trans (by simp [s_tt, gN])
    · rw [sM_row (by decide)]; exact b51.trans (by simp [s_pr, gN])
    · rw [sM_row (by decide)]; exact b55.trans (by simp [s_pl, gN])
  · obtain ⟨c1, c2, c3, c4⟩ := R.2.2.1 f2 hf2
    refine ⟨by rw [sM_row (by decide)]; exact c1, by rw [sM_row (by decide)]; exact c2.trans (by simp [s_wc, gN]), fun k hk => ?_, fun g hg => by rw [sM_row (by decide)]; exact c4 g hg⟩
    rw [sM_row (by decide), wl_gN (by decide)]
    exact c3 k (by simpa [s_wc, gN] using hk)
  · rw [sM_row (by decide)]; exact R.2.2.2.1 y f2 hy hf2
  · rw [sM_row (by decide)]; exact R.2.2.2.2 i hi
theorem RY.a48 {S : GS} {N : Mem} (R : RY S N) {f : Nat} (v : Nat) : RY (gN S 6 f v) (sM N 48 f (nI v)) := by
  refine ⟨?_, fun f2 hf2 => ?_, fun f2 hf2 => ?_, fun y f2 hy hf2 => ?_, fun i hi => ?_⟩
  · rw [sM_row (by decide)]; exact R.1
  · obtain ⟨b42, b43, b44, b45, b46, b47, b48, b49, b51, b55⟩ := R.2.1 f2 hf2
    refine ⟨?_, ?_, ?_, ?_, ?_, ?_, ?_, ?_, ?_, ?_⟩
    · rw [sM_row (by decide)]; exact b42.trans (by simp [s_kd, gN])
    · rw [sM_row (by decide)]; exact b43.trans (by simp [s_bd, gN])
    · rw [sM_row (by decide)]; exact b44.trans (by simp [s_ps, gN])
    · rw [sM_row (by decide)]; exact b45.trans (by simp [s_pt, gN])
    · rw [sM_row (by decide)]; exact b46.trans (by simp [s_ff, gN])
    · rw [sM_row (by decide)]; exact b47.trans (by simp [s_ft, gN])
    · rw [sM_at]
      by_cases e : f2 = f
      · subst e
        simp [s_tf, gN]
      · rw [if_neg (by omega), b48]
        simp [s_tf, gN, e]
    · rw [sM_row (by decide)]; exact b49.trans (by simp [s_tt, gN])
    · rw [sM_row (by decide)]; exact b51.trans (by simp [s_pr, gN])
    · rw [sM_row (by decide)]; exact b55.trans (by simp [s_pl, gN])
  · obtain ⟨c1, c2, c3, c4⟩ := R.2.2.1 f2 hf2
    refine ⟨by rw [sM_row (by decide)]; exact c1, by rw [sM_row (by decide)]; exact c2.trans (by simp [s_wc, gN]), fun k hk => ?_, fun g hg => by rw [sM_row (by decide)]; exact c4 g hg⟩
    rw [sM_row (by decide), wl_gN (by decide)]
    exact c3 k (by simpa [s_wc, gN] using hk)
  · rw [sM_row (by decide)]; exact R.2.2.2.1 y f2 hy hf2
  · rw [sM_row (by decide)]; exact R.2.2.2.2 i hi
theorem RY.a49 {S : GS} {N : Mem} (R : RY S N) {f : Nat} (v : Nat) : RY (gN S 7 f v) (sM N 49 f (nI v)) := by
  refine ⟨?_, fun f2 hf2 => ?_, fun f2 hf2 => ?_, fun y f2 hy hf2 => ?_, fun i hi => ?_⟩
  · rw [sM_row (by decide)]; exact R.1
  · obtain ⟨b42, b43, b44, b45, b46, b47, b48, b49, b51, b55⟩ := R.2.1 f2 hf2
    refine ⟨?_, ?_, ?_, ?_, ?_, ?_, ?_, ?_, ?_, ?_⟩
    · rw [sM_row (by decide)]; exact b42.trans (by simp [s_kd, gN])
    · rw [sM_row (by decide)]; exact b43.trans (by simp [s_bd, gN])
    · rw [sM_row (by decide)]; exact b44.trans (by simp [s_ps, gN])
    · rw [sM_row (by decide)]; exact b45.trans (by simp [s_pt, gN])
    · rw [sM_row (by decide)]; exact b46.trans (by simp [s_ff, gN])
    · rw [sM_row (by decide)]; exact b47.trans (by simp [s_ft, gN])
    · rw [sM_row (by decide)]; exact b48.trans (by simp [s_tf, gN])
    · rw [sM_at]
      by_cases e : f2 = f
      · subst e
        simp [s_tt, gN]
      · rw [if_neg (by omega), b49]
        simp [s_tt, gN, e]
    · rw [sM_row (by decide)]; exact b51.trans (by simp [s_pr, gN])
    · rw [sM_row (by decide)]; exact b55.trans (by simp [s_pl, gN])
  · obtain ⟨c1, c2, c3, c4⟩ := R.2.2.1 f2 hf2
    refine ⟨by rw [sM_row (by decide)]; exact c1, by rw [sM_row (by decide)]; exact c2.trans (by simp [s_wc, gN]), fun k hk => ?_, fun g hg => by rw [sM_row (by decide)]; exact c4 g hg⟩
    rw [sM_row (by decide), wl_gN (by decide)]
    exact c3 k (by simpa [s_wc, gN] using hk)
  · rw [sM_row (by decide)]; exact R.2.2.2.1 y f2 hy hf2
  · rw [sM_row (by decide)]; exact R.2.2.2.2 i hi
theorem RY.a51 {S : GS} {N : Mem} (R : RY S N) {f : Nat} (v : Bool) : RY (gB S 1 f 0 v) (sM N 51 f (bI v)) := by
  refine ⟨?_, fun f2 hf2 => ?_, fun f2 hf2 => ?_, fun y f2 hy hf2 => ?_, fun i hi => ?_⟩
  · rw [sM_row (by decide)]; exact R.1
  · obtain ⟨b42, b43, b44, b45, b46, b47, b48, b49, b51, b55⟩ := R.2.1 f2 hf2
    refine ⟨?_, ?_, ?_, ?_, ?_, ?_, ?_, ?_, ?_, ?_⟩
    · rw [sM_row (by decide)]; exact b42.trans (by simp [s_kd, gB])
    · rw [sM_row (by decide)]; exact b43.trans (by simp [s_bd, gB])
    · rw [sM_row (by decide)]; exact b44.trans (by simp [s_ps, gB])
    · rw [sM_row (by decide)]; exact b45.trans (by simp [s_pt, gB])
    · rw [sM_row (by decide)]; exact b46.trans (by simp [s_ff, gB])
    · rw [sM_row (by decide)]; exact b47.trans (by simp [s_ft, gB])
    · rw [sM_row (by decide)]; exact b48.trans (by simp [s_tf, gB])
    · rw [sM_row (by decide)]; exact b49.trans (by simp [s_tt, gB])
    · rw [sM_at]
      by_cases e : f2 = f
      · subst e
        simp [s_pr, gB]
      · rw [if_neg (by omega), b51]
        simp [s_pr, gB, e]
    · rw [sM_row (by decide)]; exact b55.trans (by simp [s_pl, gB])
  · obtain ⟨c1, c2, c3, c4⟩ := R.2.2.1 f2 hf2
    exact ⟨by rw [sM_row (by decide)]; exact c1, by rw [sM_row (by decide)]; exact c2, fun k hk => by rw [sM_row (by decide)]; exact c3 k hk, fun g hg => by rw [sM_row (by decide)]; exact (c4 g hg).trans (by simp [s_br, gB])⟩
  · rw [sM_row (by decide)]; exact R.2.2.2.1 y f2 hy hf2
  · rw [sM_row (by decide)]; exact R.2.2.2.2 i hi
theorem RY.a55 {S : GS} {N : Mem} (R : RY S N) {f : Nat} (v : Option Nat) : RY (gP S 0 f 0 v) (sM N 55 f (oI v)) := by
  refine ⟨?_, fun f2 hf2 => ?_, fun f2 hf2 => ?_, fun y f2 hy hf2 => ?_, fun i hi => ?_⟩
  · rw [sM_row (by decide)]; exact R.1
  · obtain ⟨b42, b43, b44, b45, b46, b47, b48, b49, b51, b55⟩ := R.2.1 f2 hf2
    refine ⟨?_, ?_, ?_, ?_, ?_, ?_, ?_, ?_, ?_, ?_⟩
    · rw [sM_row (by decide)]; exact b42.trans (by simp [s_kd, gP])
    · rw [sM_row (by decide)]; exact b43.trans (by simp [s_bd, gP])
    · rw [sM_row (by decide)]; exact b44.trans (by simp [s_ps, gP])
    · rw [sM_row (by decide)]; exact b45.trans (by simp [s_pt, gP])
    · rw [sM_row (by decide)]; exact b46.trans (by simp [s_ff, gP])
    · rw [sM_row (by decide)]; exact b47.trans (by simp [s_ft, gP])
    · rw [sM_row (by decide)]; exact b48.trans (by simp [s_tf, gP])
    · rw [sM_row (by decide)]; exact b49.trans (by simp [s_tt, gP])
    · rw [sM_row (by decide)]; exact b51.trans (by simp [s_pr, gP])
    · rw [sM_at]
      by_cases e : f2 = f
      · subst e
        simp [s_pl, gP]
      · rw [if_neg (by omega), b55]
        simp [s_pl, gP, e]
  · obtain ⟨c1, c2, c3, c4⟩ := R.2.2.1 f2 hf2
    exact ⟨by rw [sM_row (by decide)]; exact c1, by rw [sM_row (by decide)]; exact c2, fun k hk => by rw [sM_row (by decide)]; exact c3 k hk, fun g hg => by rw [sM_row (by decide)]; exact (c4 g hg).trans (by simp [s_br, gP])⟩
  · rw [sM_row (by decide)]; exact (R.2.2.2.1 y f2 hy hf2).trans (by simp [s_bk, gP])
  · rw [sM_row (by decide)]; exact R.2.2.2.2 i hi
