theorem wl_gN {S : GS} {k i v f : Nat} (h : k < 20) : s_wl (gN S k i v) f = s_wl S f := by
  funext j
  simp [s_wl, gN, show ¬ 20 + f = k by omega]
theorem rk_gN {S : GS} {k i v f g : Nat} (h : k < 20) (h8 : k ≠ 8) : s_rk (gN S k i v) f g = s_rk S f g := by
  unfold s_rk
  rw [wl_gN h, show s_wc (gN S k i v) f = s_wc S f by simp [s_wc, gN, Ne.symm h8]]
theorem RX.sc7 {S : GS} {N : Mem} {K : Mej} (R : RX S N K) (v : Nat) : RX (gN S 0 0 v) (sM N 0 7 (nI v)) K := by
  refine ⟨?_, fun f2 hf2 => ?_, fun f2 g hf2 hg => ?_, fun f2 hf2 => ?_, fun y f2 hy hf2 => ?_, fun i hi => ?_, R.2.2.2.2.2.2⟩
  · obtain ⟨a7, a8, a9, a10, a11, a12, a13⟩ := R.1
    exact ⟨by simp [s_n, gN, sM_at], by rw [sM_at, if_neg (by decide)]; exact a8.trans (by simp [s_yr, gN]), by rw [sM_at, if_neg (by decide)]; exact a9.trans (by simp [s_tc, gN]), by rw [sM_at, if_neg (by decide)]; exact a10.trans (by simp [s_st, gN]), by rw [sM_at, if_neg (by decide)]; exact a11.trans (by simp [s_mo, gN]), by rw [sM_at, if_neg (by decide)]; exact a12.trans (by simp [s_li, gN]), by rw [sM_at, if_neg (by decide)]; exact a13.trans (by simp [s_ch, gN])⟩
  · rw [sM_row (by omega)]
    obtain ⟨b1, b2, b3, b4, b5, b6, b7, b8, b9, b10, ⟨m, hm, b11, hb⟩, b12⟩ := R.2.1 f2 hf2
    exact ⟨b1.trans (by simp [s_wc, gN]), b2.trans (by simp [s_kd, gN]), b3.trans (by simp [s_bd, gN]), b4.trans (by simp [s_ps, gN]), b5.trans (by simp [s_pt, gN]), b6.trans (by simp [s_pr, gN]), b7.trans (by simp [s_ff, gN]), b8.trans (by simp [s_ft, gN]), b9.trans (by simp [s_tf, gN]), b10.trans (by simp [s_tt, gN]), ⟨m, hm, b11, hb⟩, b12⟩
  · rw [sM_row (by omega), rk_gN (by decide) (by decide)]; exact R.2.2.1 f2 g hf2 hg
  · rw [sM_row (by decide)]; exact R.2.2.2.1 f2 hf2
  · rw [sM_row (by decide)]; exact R.2.2.2.2.1 y f2 (by simpa [s_yr, gN] using hy) hf2
  · rw [sM_row (by decide)]; exact (R.2.2.2.2.2.1 i (by simpa [s_tc, gN] using hi)).trans (by simp [s_td, gN])
theorem RX.sc8 {S : GS} {N : Mem} {K : Mej} (R : RX S N K) (v : Nat) (hx : ∀ y f, y < v → f < 10 → N 3 (y * 10 + f) = oI (s_bk S y f)) : RX (gN S 0 4 v) (sM N 0 8 (nI v)) K := by
  refine ⟨?_, fun f2 hf2 => ?_, fun f2 g hf2 hg => ?_, fun f2 hf2 => ?_, fun y f2 hy hf2 => ?_, fun i hi => ?_, R.2.2.2.2.2.2⟩
  · obtain ⟨a7, a8, a9, a10, a11, a12, a13⟩ := R.1
    exact ⟨by rw [sM_at, if_neg (by decide)]; exact a7.trans (by simp [s_n, gN]), by simp [s_yr, gN, sM_at], by rw [sM_at, if_neg (by decide)]; exact a9.trans (by simp [s_tc, gN]), by rw [sM_at, if_neg (by decide)]; exact a10.trans (by simp [s_st, gN]), by rw [sM_at, if_neg (by decide)]; exact a11.trans (by simp [s_mo, gN]), by rw [sM_at, if_neg (by decide)]; exact a12.trans (by simp [s_li, gN]), by rw [sM_at, if_neg (by decide)]; exact a13.trans (by simp [s_ch, gN])⟩
  · rw [sM_row (by omega)]
    obtain ⟨b1, b2, b3, b4, b5, b6, b7, b8, b9, b10, ⟨m, hm, b11, hb⟩, b12⟩ := R.2.1 f2 hf2
    exact ⟨b1.trans (by simp [s_wc, gN]), b2.trans (by simp [s_kd, gN]), b3.trans (by simp [s_bd, gN]), b4.trans (by simp [s_ps, gN]), b5.trans (by simp [s_pt, gN]), b6.trans (by simp [s_pr, gN]), b7.trans (by simp [s_ff, gN]), b8.trans (by simp [s_ft, gN]), b9.trans (by simp [s_tf, gN]), b10.trans (by simp [s_tt, gN]), ⟨m, hm, b11, hb⟩, b12⟩
  · rw [sM_row (by omega), rk_gN (by decide) (by decide)]; exact R.2.2.1 f2 g hf2 hg
  · rw [sM_row (by decide)]; exact R.2.2.2.1 f2 hf2
  · rw [sM_row (by decide)]; exact hx y f2 (by simpa [s_yr, gN] using hy) hf2
  · rw [sM_row (by decide)]; exact (R.2.2.2.2.2.1 i (by simpa [s_tc, gN] using hi)).trans (by simp [s_td, gN])
theorem RX.sc9 {S : GS} {N : Mem} {K : Mej} (R : RX S N K) (v : Nat) (hx : ∀ i, i < v → N 4 i = nI (s_td S i)) : RX (gN S 0 5 v) (sM N 0 9 (nI v)) K := by
  refine ⟨?_, fun f2 hf2 => ?_, fun f2 g hf2 hg => ?_, fun f2 hf2 => ?_, fun y f2 hy hf2 => ?_, fun i hi => ?_, R.2.2.2.2.2.2⟩
  · obtain ⟨a7, a8, a9, a10, a11, a12, a13⟩ := R.1
    exact ⟨by rw [sM_at, if_neg (by decide)]; exact a7.trans (by simp [s_n, gN]), by rw [sM_at, if_neg (by decide)]; exact a8.trans (by simp [s_yr, gN]), by simp [s_tc, gN, sM_at], by rw [sM_at, if_neg (by decide)]; exact a10.trans (by simp [s_st, gN]), by rw [sM_at, if_neg (by decide)]; exact a11.trans (by simp [s_mo, gN]), by rw [sM_at, if_neg (by decide)]; exact a12.trans (by simp [s_li, gN]), by rw [sM_at, if_neg (by decide)]; exact a13.trans (by simp [s_ch, gN])⟩
  · rw [sM_row (by omega)]
    obtain ⟨b1, b2, b3, b4, b5, b6, b7, b8, b9, b10, ⟨m, hm, b11, hb⟩, b12⟩ := R.2.1 f2 hf2
    exact ⟨b1.trans (by simp [s_wc, gN]), b2.trans (by simp [s_kd, gN]), b3.trans (by simp [s_bd, gN]), b4.trans (by simp [s_ps, gN]), b5.trans (by simp [s_pt, gN]), b6.trans (by simp [s_pr, gN]), b7.trans (by simp [s_ff, gN]), b8.trans (by simp [s_ft, gN]), b9.trans (by simp [s_tf, gN]), b10.trans (by simp [s_tt, gN]), ⟨m, hm, b11, hb⟩, b12⟩
  · rw [sM_row (by omega), rk_gN (by decide) (by decide)]; exact R.2.2.1 f2 g hf2 hg
  · rw [sM_row (by decide)]; exact R.2.2.2.1 f2 hf2
  · rw [sM_row (by decide)]; exact R.2.2.2.2.1 y f2 (by simpa [s_yr, gN] using hy) hf2
  · rw [sM_row (by decide)]; exact (hx i (by simpa [s_tc, gN] using hi)).trans (by simp [s_td, gN])
theorem RX.sc10 {S : GS} {N : Mem} {K : Mej} (R : RX S N K) (v : Nat) : RX (gN S 0 1 v) (sM N 0 10 (nI v)) K := by
  refine ⟨?_, fun f2 hf2 => ?_, fun f2 g hf2 hg => ?_, fun f2 hf2 => ?_, fun y f2 hy hf2 => ?_, fun i hi => ?_, R.2.2.2.2.2.2⟩
  · obtain ⟨a7, a8, a9, a10, a11, a12, a13⟩ := R.1
    exact ⟨by rw [sM_at, if_neg (by decide)]; exact a7.trans (by simp [s_n, gN]), by rw [sM_at, if_neg (by decide)]; exact a8.trans (by simp [s_yr, gN]), by rw [sM_at, if_neg (by decide)]; exact a9.trans (by simp [s_tc, gN]), by simp [s_st, gN, sM_at], by rw [sM_at, if_neg (by decide)]; exact a11.trans (by simp [s_mo, gN]), by rw [sM_at, if_neg (by decide)]; exact a12.trans (by simp [s_li, gN]), by rw [sM_at, if_neg (by decide)]; exact a13.trans (by simp [s_ch, gN])⟩
  · rw [sM_row (by omega)]
    obtain ⟨b1, b2, b3, b4, b5, b6, b7, b8, b9, b10, ⟨m, hm, b11, hb⟩, b12⟩ := R.2.1 f2 hf2
    exact ⟨b1.trans (by simp [s_wc, gN]), b2.trans (by simp [s_kd, gN]), b3.trans (by simp [s_bd, gN]), b4.trans (by simp [s_ps, gN]), b5.trans (by simp [s_pt, gN]), b6.trans (by simp [s_pr, gN]), b7.trans (by simp [s_ff, gN]), b8.trans (by simp [s_ft, gN]), b9.trans (by simp [s_tf, gN]), b10.trans (by simp [s_tt, gN]), ⟨m, hm, b11, hb⟩, b12⟩
  · rw [sM_row (by omega), rk_gN (by decide) (by decide)]; exact R.2.2.1 f2 g hf2 hg
  · rw [sM_row (by decide)]; exact R.2.2.2.1 f2 hf2
  · rw [sM_row (by decide)]; exact R.2.2.2.2.1 y f2 (by simpa [s_yr, gN] using hy) hf2
  · rw [sM_row (by decide)]; exact (R.2.2.2.2.2.1 i (by simpa [s_tc, gN] using hi)).trans (by simp [s_td, gN])
theorem RX.sc11 {S : GS} {N : Mem} {K : Mej} (R : RX S N K) (v : Nat) : RX (gN S 0 2 v) (sM N 0 11 (nI v)) K := by
  refine ⟨?_, fun f2 hf2 => ?_, fun f2 g hf2 hg => ?_, fun f2 hf2 => ?_, fun y f2 hy hf2 => ?_, fun i hi => ?_, R.2.2.2.2.2.2⟩
  · obtain ⟨a7, a8, a9, a10, a11, a12, a13⟩ := R.1
    exact ⟨by rw [sM_at, if_neg (by decide)]; exact a7.trans (by simp [s_n, gN]), by rw [sM_at, if_neg (by decide)]; exact a8.trans (by simp [s_yr, gN]), by rw [sM_at, if_neg (by decide)]; exact a9.trans (by simp [s_tc, gN]), by rw [sM_at, if_neg (by decide)]; exact a10.trans (by simp [s_st, gN]), by simp [s_mo, gN, sM_at], by rw [sM_at, if_neg (by decide)]; exact a12.trans (by simp [s_li, gN]), by rw [sM_at, if_neg (by decide)]; exact a13.trans (by simp [s_ch, gN])⟩
  · rw [sM_row (by omega)]
    obtain ⟨b1, b2, b3, b4, b5, b6, b7, b8, b9, b10, ⟨m, hm, b11, hb⟩, b12⟩ := R.2.1 f2 hf2
    exact ⟨b1.trans (by simp [s_wc, gN]), b2.trans (by simp [s_kd, gN]), b3.trans (by simp [s_bd, gN]), b4.trans (by simp [s_ps, gN]), b5.trans (by simp [s_pt, gN]), b6.trans (by simp [s_pr, gN]), b7.trans (by simp [s_ff, gN]), b8.trans (by simp [s_ft, gN]), b9.trans (by simp [s_tf, gN]), b10.trans (by simp [s_tt, gN]), ⟨m, hm, b11, hb⟩, b12⟩
  · rw [sM_row (by omega), rk_gN (by decide) (by decide)]; exact R.2.2.1 f2 g hf2 hg
  · rw [sM_row (by decide)]; exact R.2.2.2.1 f2 hf2
  · rw [sM_row (by decide)]; exact R.2.2.2.2.1 y f2 (by simpa [s_yr, gN] using hy) hf2
  · rw [sM_row (by decide)]; exact (R.2.2.2.2.2.1 i (by simpa [s_tc, gN] using hi)).trans (by simp [s_td, gN])
theorem RX.sc12 {S : GS} {N : Mem} {K : Mej} (R : RX S N K) (v : Nat) : RX (gN S 0 3 v) (sM N 0 12 (nI v)) K := by
  refine ⟨?_, fun f2 hf2 => ?_, fun f2 g hf2 hg => ?_, fun f2 hf2 => ?_, fun y f2 hy hf2 => ?_, fun i hi => ?_, R.2.2.2.2.2.2⟩
  · obtain ⟨a7, a8, a9, a10, a11, a12, a13⟩ := R.1
    exact ⟨by rw [sM_at, if_neg (by decide)]; exact a7.trans (by simp [s_n, gN]), by rw [sM_at, if_neg (by decide)]; exact a8.trans (by simp [s_yr, gN]), by rw [sM_at, if_neg (by decide)]; exact a9.trans (by simp [s_tc, gN]), by rw [sM_at, if_neg (by decide)]; exact a10.trans (by simp [s_st, gN]), by rw [sM_at, if_neg (by decide)]; exact a11.trans (by simp [s_mo, gN]), by simp [s_li, gN, sM_at], by rw [sM_at, if_neg (by decide)]; exact a13.trans (by simp [s_ch, gN])⟩
  · rw [sM_row (by omega)]
    obtain ⟨b1, b2, b3, b4, b5, b6, b7, b8, b9, b10, ⟨m, hm, b11, hb⟩, b12⟩ := R.2.1 f2 hf2
    exact ⟨b1.trans (by simp [s_wc, gN]), b2.trans (by simp [s_kd, gN]), b3.trans (by simp [s_bd, gN]), b4.trans (by simp [s_ps, gN]), b5.trans (by simp [s_pt, gN]), b6.trans (by simp [s_pr, gN]), b7.trans (by simp [s_ff, gN]), b8.trans (by simp [s_ft, gN]), b9.trans (by simp [s_tf, gN]), b10.trans (by simp [s_tt, gN]), ⟨m, hm, b11, hb⟩, b12⟩
  · rw [sM_row (by omega), rk_gN (by decide) (by decide)]; exact R.2.2.1 f2 g hf2 hg
  · rw [sM_row (by decide)]; exact R.2.2.2.1 f2 hf2
  · rw [sM_row (by decide)]; exact R.2.2.2.2.1 y f2 (by simpa [s_yr, gN] using hy) hf2
  · rw [sM_row (by decide)]; exact (R.2.2.2.2.2.1 i (by simpa [s_tc, gN] using hi)).trans (by simp [s_td, gN])
theorem RX.h2 {S : GS} {N : Mem} {K : Mej} (R : RX S N K) {f : Nat} (hf : f < 10) (v : Nat) : RX (gN S 1 f v) (sM N (20 + f) 2 (nI v)) K := by
  refine ⟨?_, fun f2 hf2 => ?_, fun f2 g hf2 hg => ?_, fun f2 hf2 => ?_, fun y f2 hy hf2 => ?_, fun i hi => ?_, R.2.2.2.2.2.2⟩
  · rw [sM_row (by omega)]
    obtain ⟨a7, a8, a9, a10, a11, a12, a13⟩ := R.1
    exact ⟨a7.trans (by simp [s_n, gN]), a8.trans (by simp [s_yr, gN]), a9.trans (by simp [s_tc, gN]), a10.trans (by simp [s_st, gN]), a11.trans (by simp [s_mo, gN]), a12.trans (by simp [s_li, gN]), a13.trans (by simp [s_ch, gN])⟩
  · obtain ⟨b1, b2, b3, b4, b5, b6, b7, b8, b9, b10, ⟨m, hm, b11, hb⟩, b12⟩ := R.2.1 f2 hf2
    refine ⟨?_, ?_, ?_, ?_, ?_, ?_, ?_, ?_, ?_, ?_, ⟨m, hm, ?_, fun z hz => (hb z hz).trans (by simp [s_br, gN])⟩, ?_⟩ <;> rw [sM_at]
    · rw [if_neg (by omega)]; exact b1.trans (by simp [s_wc, gN])
    · by_cases e : f2 = f
      · subst e
        simp [s_kd, gN]
      · rw [if_neg (by omega), b2]
        simp [s_kd, gN, e]
    · rw [if_neg (by omega)]; exact b3.trans (by simp [s_bd, gN])
    · rw [if_neg (by omega)]; exact b4.trans (by simp [s_ps, gN])
    · rw [if_neg (by omega)]; exact b5.trans (by simp [s_pt, gN])
    · rw [if_neg (by omega)]; exact b6.trans (by simp [s_pr, gN])
    · rw [if_neg (by omega)]; exact b7.trans (by simp [s_ff, gN])
    · rw [if_neg (by omega)]; exact b8.trans (by simp [s_ft, gN])
    · rw [if_neg (by omega)]; exact b9.trans (by simp [s_tf, gN])
    · rw [if_neg (by omega)]; exact b10.trans (by simp [s_tt, gN])
    · rw [if_neg (by omega)]; exact b11
    · rw [if_neg (by omega)]; exact b12
  · rw [sM_row (by omega), rk_gN (by decide) (by decide)]; exact R.2.2.1 f2 g hf2 hg
  · rw [sM_row (by omega)]; exact R.2.2.2.1 f2 hf2
  · rw [sM_row (by omega)]; exact R.2.2.2.2.1 y f2 (by simpa [s_yr, gN] using hy) hf2
  · rw [sM_row (by omega)]; exact (R.2.2.2.2.2.1 i (by simpa [s_tc, gN] using hi)).trans (by simp [s_td, gN])
theorem RX.h3 {S : GS} {N : Mem} {K : Mej} (R : RX S N K) {f : Nat} (hf : f < 10) (v : Nat) : RX (gN S 2 f v) (sM N (20 + f) 3 (nI v)) K := by
  refine ⟨?_, fun f2 hf2 => ?_, fun f2 g hf2 hg => ?_, fun f2 hf2 => ?_, fun y f2 hy hf2 => ?_, fun i hi => ?_, R.2.2.2.2.2.2⟩
  · rw [sM_row (by omega)]
    obtain ⟨a7, a8, a9, a10, a11, a12, a13⟩ := R.1
    exact ⟨a7.trans (by simp [s_n, gN]), a8.trans (by simp [s_yr, gN]), a9.trans (by simp [s_tc, gN]), a10.trans (by simp [s_st, gN]), a11.trans (by simp [s_mo, gN]), a12.trans (by simp [s_li, gN]), a13.trans (by simp [s_ch, gN])⟩
  · obtain ⟨b1, b2, b3, b4, b5, b6, b7, b8, b9, b10, ⟨m, hm, b11, hb⟩, b12⟩ := R.2.1 f2 hf2
    refine ⟨?_, ?_, ?_, ?_, ?_, ?_, ?_, ?_, ?_, ?_, ⟨m, hm, ?_, fun z hz => (hb z hz).trans (by simp [s_br, gN])⟩, ?_⟩ <;> rw [sM_at]
    · rw [if_neg (by omega)]; exact b1.trans (by simp [s_wc, gN])
    · rw [if_neg (by omega)]; exact b2.trans (by simp [s_kd, gN])
    · by_cases e : f2 = f
      · subst e
        simp [s_bd, gN]
      · rw [if_neg (by omega), b3]
        simp [s_bd, gN, e]
    · rw [if_neg (by omega)]; exact b4.trans (by simp [s_ps, gN])
    · rw [if_neg (by omega)]; exact b5.trans (by simp [s_pt, gN])
    · rw [if_neg (by omega)]; exact b6.trans (by simp [s_pr, gN])
    · rw [if_neg (by omega)]; exact b7.trans (by simp [s_ff, gN])
    · rw [if_neg (by omega)]; exact b8.trans (by simp [s_ft, gN])
    · rw [if_neg (by omega)]; exact b9.trans (by simp [s_tf, gN])
    · rw [if_neg (by omega)]; exact b10.trans (by simp [s_tt, gN])
    · rw [if_neg (by omega)]; exact b11
    · rw [if_neg (by omega)]; exact b12
  · rw [sM_row (by omega), rk_gN (by decide) (by decide)]; exact R.2.2.1 f2 g hf2 hg
  · rw [sM_row (by omega)]; exact R.2.2.2.1 f2 hf2
  · rw [sM_row (by omega)]; exact R.2.2.2.2.1 y f2 (by simpa [s_yr, gN] using hy) hf2
  · rw [sM_row (by omega)]; exact (R.2.2.2.2.2.1 i (by simpa [s_tc, gN] using hi)).trans (by simp [s_td, gN])
theorem RX.h4 {S : GS} {N : Mem} {K : Mej} (R : RX S N K) {f : Nat} (hf : f < 10) (v : Nat) : RX (gN S 3 f v) (sM N (20 + f) 4 (nI v)) K := by
  refine ⟨?_, fun f2 hf2 => ?_, fun f2 g hf2 hg => ?_, fun f2 hf2 => ?_, fun y f2 hy hf2 => ?_, fun i hi => ?_, R.2.2.2.2.2.2⟩
  · rw [sM_row (by omega)]
    obtain ⟨a7, a8, a9, a10, a11, a12, a13⟩ := R.1
    exact ⟨a7.trans (by simp [s_n, gN]), a8.trans (by simp [s_yr, gN]), a9.trans (by simp [s_tc, gN]), a10.trans (by simp [s_st, gN]), a11.trans (by simp [s_mo, gN]), a12.trans (by simp [s_li, gN]), a13.trans (by simp [s_ch, gN])⟩
  · obtain ⟨b1, b2, b3, b4, b5, b6, b7, b8, b9, b10, ⟨m, hm, b11, hb⟩, b12⟩ := R.2.1 f2 hf2
    refine ⟨?_, ?_, ?_, ?_, ?_, ?_, ?_, ?_, ?_, ?_, ⟨m, hm, ?_, fun z hz => (hb z hz).trans (by simp [s_br, gN])⟩, ?_⟩ <;> rw [sM_at]
    · rw [if_neg (by omega)]; exact b1.trans (by simp [s_wc, gN])
    · rw [if_neg (by omega)]; exact b2.trans (by simp [s_kd, gN])
    · rw [if_neg (by omega)]; exact b3.trans (by simp [s_bd, gN])
    · by_cases e : f2 = f
      · subst e
        simp [s_ps, gN]
      · rw [if_neg (by omega), b4]
        simp [s_ps, gN, e]
    · rw [if_neg (by omega)]; exact b5.trans (by simp [s_pt, gN])
    · rw [if_neg (by omega)]; exact b6.trans (by simp [s_pr, gN])
    · rw [if_neg (by omega)]; exact b7.trans (by simp [s_ff, gN])
    · rw [if_neg (by omega)]; exact b8.trans (by simp [s_ft, gN])
    · rw [if_neg (by omega)]; exact b9.trans (by simp [s_tf, gN])
    · rw [if_neg (by omega)]; exact b10.trans (by simp [s_tt, gN])
    · rw [if_neg (by omega)]; exact b11
    · rw [if_neg (by omega)]; exact b12
  · rw [sM_row (by omega), rk_gN (by decide) (by decide)]; exact R.2.2.1 f2 g hf2 hg
  · rw [sM_row (by omega)]; exact R.2.2.2.1 f2 hf2
  · rw [sM_row (by omega)]; exact R.2.2.2.2.1 y f2 (by simpa [s_yr, gN] using hy) hf2
  · rw [sM_row (by omega)]; exact (R.2.2.2.2.2.1 i (by simpa [s_tc, gN] using hi)).trans (by simp [s_td, gN])
theorem RX.h5 {S : GS} {N : Mem} {K : Mej} (R : RX S N K) {f : Nat} (hf : f < 10) (v : Bool) : RX (gB S 0 f 0 v) (sM N (20 + f) 5 (bI v)) K := by
  refine ⟨?_, fun f2 hf2 => ?_, fun f2 g hf2 hg => ?_, fun f2 hf2 => ?_, fun y f2 hy hf2 => ?_, fun i hi => ?_, R.2.2.2.2.2.2⟩
  · rw [sM_row (by omega)]
    obtain ⟨a7, a8, a9, a10, a11, a12, a13⟩ := R.1
    exact ⟨a7.trans (by simp [s_n, gB]), a8.trans (by simp [s_yr, gB]), a9.trans (by simp [s_tc, gB]), a10.trans (by simp [s_st, gB]), a11.trans (by simp [s_mo, gB]), a12.trans (by simp [s_li, gB]), a13.trans (by simp [s_ch, gB])⟩
  · obtain ⟨b1, b2, b3, b4, b5, b6, b7, b8, b9, b10, ⟨m, hm, b11, hb⟩, b12⟩ := R.2.1 f2 hf2
    refine ⟨?_, ?_, ?_, ?_, ?_, ?_, ?_, ?_, ?_, ?_, ⟨m, hm, ?_, fun z hz => (hb z hz).trans (by simp [s_br, gB])⟩, ?_⟩ <;> rw [sM_at]
    · rw [if_neg (by omega)]; exact b1.trans (by simp [s_wc, gB])
    · rw [if_neg (by omega)]; exact b2.trans (by simp [s_kd, gB])
    · rw [if_neg (by omega)]; exact b3.trans (by simp [s_bd, gB])
    · rw [if_neg (by omega)]; exact b4.trans (by simp [s_ps, gB])
    · by_cases e : f2 = f
      · subst e
        simp [s_pt, gB]
      · rw [if_neg (by omega), b5]
        simp [s_pt, gB, e]
    · rw [if_neg (by omega)]; exact b6.trans (by simp [s_pr, gB])
    · rw [if_neg (by omega)]; exact b7.trans (by simp [s_ff, gB])
    · rw [if_neg (by omega)]; exact b8.trans (by simp [s_ft, gB])
    · rw [if_neg (by omega)]; exact b9.trans (by simp [s_tf, gB])
    · rw [if_neg (by omega)]; exact b10.trans (by simp [s_tt, gB])
    · rw [if_neg (by omega)]; exact b11
    · rw [if_neg (by omega)]; exact b12
  · rw [sM_row (by omega)]; exact R.2.2.1 f2 g hf2 hg
  · rw [sM_row (by omega)]; exact R.2.2.2.1 f2 hf2
  · rw [sM_row (by omega)]; exact R.2.2.2.2.1 y f2 (by simpa [s_yr, gB] using hy) hf2
  · rw [sM_row (by omega)]; exact (R.2.2.2.2.2.1 i (by simpa [s_tc, gB] using hi)).trans (by simp [s_td, gB])
theorem RX.h6 {S : GS} {N : Mem} {K : Mej} (R : RX S N K) {f : Nat} (hf : f < 10) (v : Bool) : RX (gB S 1 f 0 v) (sM N (20 + f) 6 (bI v)) K := by
  refine ⟨?_, fun f2 hf2 => ?_, fun f2 g hf2 hg => ?_, fun f2 hf2 => ?_, fun y f2 hy hf2 => ?_, fun i hi => ?_, R.2.2.2.2.2.2⟩
  · rw [sM_row (by omega)]
    obtain ⟨a7, a8, a9, a10, a11, a12, a13⟩ := R.1
    exact ⟨a7.trans (by simp [s_n, gB]), a8.trans (by simp [s_yr, gB]), a9.trans (by simp [s_tc, gB]), a10.trans (by simp [s_st, gB]), a11.trans (by simp [s_mo, gB]), a12.trans (by simp [s_li, gB]), a13.trans (by simp [s_ch, gB])⟩
  · obtain ⟨b1, b2, b3, b4, b5, b6, b7, b8, b9, b10, ⟨m, hm, b11, hb⟩, b12⟩ := R.2.1 f2 hf2
    refine ⟨?_, ?_, ?_, ?_, ?_, ?_, ?_, ?_, ?_, ?_, ⟨m, hm, ?_, fun z hz => (hb z hz).trans (by simp [s_br, gB])⟩, ?_⟩ <;> rw [sM_at]
    · rw [if_neg (by omega)]; exact b1.trans (by simp [s_wc, gB])
    · rw [if_neg (by omega)]; exact b2.trans (by simp [s_kd, gB])
    · rw [if_neg (by omega)]; exact b3.trans (by simp [s_bd, gB])
    · rw [if_neg (by omega)]; exact b4.trans (by simp [s_ps, gB])
    · rw [if_neg (by omega)]; exact b5.trans (by simp [s_pt, gB])
    · by_cases e : f2 = f
      · subst e
        simp [s_pr, gB]
      · rw [if_neg (by omega), b6]
        simp [s_pr, gB, e]
    · rw [if_neg (by omega)]; exact b7.trans (by simp [s_ff, gB])
    · rw [if_neg (by omega)]; exact b8.trans (by simp [s_ft, gB])
    · rw [if_neg (by omega)]; exact b9.trans (by simp [s_tf, gB])
    · rw [if_neg (by omega)]; exact b10.trans (by simp [s_tt, gB])
    · rw [if_neg (by omega)]; exact b11
    · rw [if_neg (by omega)]; exact b12
  · rw [sM_row (by omega)]; exact R.2.2.1 f2 g hf2 hg
  · rw [sM_row (by omega)]; exact R.2.2.2.1 f2 hf2
  · rw [sM_row (by omega)]; exact R.2.2.2.2.1 y f2 (by simpa [s_yr, gB] using hy) hf2
  · rw [sM_row (by omega)]; exact (R.2.2.2.2.2.1 i (by simpa [s_tc, gB] using hi)).trans (by simp [s_td, gB])
theorem RX.h7 {S : GS} {N : Mem} {K : Mej} (R : RX S N K) {f : Nat} (hf : f < 10) (v : Nat) : RX (gN S 4 f v) (sM N (20 + f) 7 (nI v)) K := by
  refine ⟨?_, fun f2 hf2 => ?_, fun f2 g hf2 hg => ?_, fun f2 hf2 => ?_, fun y f2 hy hf2 => ?_, fun i hi => ?_, R.2.2.2.2.2.2⟩
  · rw [sM_row (by omega)]
    obtain ⟨a7, a8, a9, a10, a11, a12, a13⟩ := R.1
    exact ⟨a7.trans (by simp [s_n, gN]), a8.trans (by simp [s_yr, gN]), a9.trans (by simp [s_tc, gN]), a10.trans (by simp [s_st, gN]), a11.trans (by simp [s_mo, gN]), a12.trans (by simp [s_li, gN]), a13.trans (by simp [s_ch, gN])⟩
  · obtain ⟨b1, b2, b3, b4, b5, b6, b7, b8, b9, b10, ⟨m, hm, b11, hb⟩, b12⟩ := R.2.1 f2 hf2
    refine ⟨?_, ?_, ?_, ?_, ?_, ?_, ?_, ?_, ?_, ?_, ⟨m, hm, ?_, fun z hz => (hb z hz).trans (by simp [s_br, gN])⟩, ?_⟩ <;> rw [sM_at]
    · rw [if_neg (by omega)]; exact b1.trans (by simp [s_wc, gN])
    · rw [if_neg (by omega)]; exact b2.trans (by simp [s_kd, gN])
    · rw [if_neg (by omega)]; exact b3.trans (by simp [s_bd, gN])
    · rw [if_neg (by omega)]; exact b4.trans (by simp [s_ps, gN])
    · rw [if_neg (by omega)]; exact b5.trans (by simp [s_pt, gN])
    · rw [if_neg (by omega)]; exact b6.trans (by simp [s_pr, gN])
    · by_cases e : f2 = f
      · subst e
        simp [s_ff, gN]
      · rw [if_neg (by omega), b7]
        simp [s_ff, gN, e]
    · rw [if_neg (by omega)]; exact b8.trans (by simp [s_ft, gN])
    · rw [if_neg (by omega)]; exact b9.trans (by simp [s_tf, gN])
    · rw [if_neg (by omega)]; exact b10.trans (by simp [s_tt, gN])
    · rw [if_neg (by omega)]; exact b11
    · rw [if_neg (by omega)]; exact b12
  · rw [sM_row (by omega), rk_gN (by decide) (by decide)]; exact R.2.2.1 f2 g hf2 hg
  · rw [sM_row (by omega)]; exact R.2.2.2.1 f2 hf2
  · rw [sM_row (by omega)]; exact R.2.2.2.2.1 y f2 (by simpa [s_yr, gN] using hy) hf2
  · rw [sM_row (by omega)]; exact (R.2.2.2.2.2.1 i (by simpa [s_tc, gN] using hi)).trans (by simp [s_td, gN])
theorem RX.h8 {S : GS} {N : Mem} {K : Mej} (R : RX S N K) {f : Nat} (hf : f < 10) (v : Nat) : RX (gN S 5 f v) (sM N (20 + f) 8 (nI v)) K := by
  refine ⟨?_, fun f2 hf2 => ?_, fun f2 g hf2 hg => ?_, fun f2 hf2 => ?_, fun y f2 hy hf2 => ?_, fun i hi => ?_, R.2.2.2.2.2.2⟩
  · rw [sM_row (by omega)]
    obtain ⟨a7, a8, a9, a10, a11, a12, a13⟩ := R.1
    exact ⟨a7.trans (by simp [s_n, gN]), a8.trans (by simp [s_yr, gN]), a9.trans (by simp [s_tc, gN]), a10.trans (by simp [s_st, gN]), a11.trans (by simp [s_mo, gN]), a12.trans (by simp [s_li, gN]), a13.trans (by simp [s_ch, gN])⟩
  · obtain ⟨b1, b2, b3, b4, b5, b6, b7, b8, b9, b10, ⟨m, hm, b11, hb⟩, b12⟩ := R.2.1 f2 hf2
    refine ⟨?_, ?_, ?_, ?_, ?_, ?_, ?_, ?_, ?_, ?_, ⟨m, hm, ?_, fun z hz => (hb z hz).trans (by simp [s_br, gN])⟩, ?_⟩ <;> rw [sM_at]
    · rw [if_neg (by omega)]; exact b1.trans (by simp [s_wc, gN])
    · rw [if_neg (by omega)]; exact b2.trans (by simp [s_kd, gN])
    · rw [if_neg (by omega)]; exact b3.trans (by simp [s_bd, gN])
    · rw [if_neg (by omega)]; exact b4.trans (by simp [s_ps, gN])
    · rw [if_neg (by omega)]; exact b5.trans (by simp [s_pt, gN])
    · rw [if_neg (by omega)]; exact b6.trans (by simp [s_pr, gN])
    · rw [if_neg (by omega)]; exact b7.trans (by simp [s_ff, gN])
    · by_cases e : f2 = f
      · subst e
        simp [s_ft, gN]
      · rw [if_neg (by omega), b8]
        simp [s_ft, gN, e]
    · rw [if_neg (by omega)]; exact b9.trans (by simp [s_tf, gN])
    · rw [if_neg (by omega)]; exact b10.trans (by simp [s_tt, gN])
    · rw [if_neg (by omega)]; exact b11
    · rw [if_neg (by omega)]; exact b12
  · rw [sM_row (by omega), rk_gN (by decide) (by decide)]; exact R.2.2.1 f2 g hf2 hg
  · rw [sM_row (by omega)]; exact R.2.2.2.1 f2 hf2
  · rw [sM_row (by omega)]; exact R.2.2.2.2.1 y f2 (by simpa [s_yr, gN] using hy) hf2
  · rw [sM_row (by omega)]; exact (R.2.2.2.2.2.1 i (by simpa [s_tc, gN] using hi)).trans (by simp [s_td, gN])
theorem RX.h9 {S : GS} {N : Mem} {K : Mej} (R : RX S N K) {f : Nat} (hf : f < 10) (v : Nat) : RX (gN S 6 f v) (sM N (20 + f) 9 (nI v)) K := by
  refine ⟨?_, fun f2 hf2 => ?_, fun f2 g hf2 hg => ?_, fun f2 hf2 => ?_, fun y f2 hy hf2 => ?_, fun i hi => ?_, R.2.2.2.2.2.2⟩
  · rw [sM_row (by omega)]
    obtain ⟨a7, a8, a9, a10, a11, a12, a13⟩ := R.1
    exact ⟨a7.trans (by simp [s_n, gN]), a8.trans (by simp [s_yr, gN]), a9.trans (by simp [s_tc, gN]), a10.trans (by simp [s_st, gN]), a11.trans (by simp [s_mo, gN]), a12.trans (by simp [s_li, gN]), a13.trans (by simp [s_ch, gN])⟩
  · obtain ⟨b1, b2, b3, b4, b5, b6, b7, b8, b9, b10, ⟨m, hm, b11, hb⟩, b12⟩ := R.2.1 f2 hf2
    refine ⟨?_, ?_, ?_, ?_, ?_, ?_, ?_, ?_, ?_, ?_, ⟨m, hm, ?_, fun z hz => (hb z hz).trans (by simp [s_br, gN])⟩, ?_⟩ <;> rw [sM_at]
    · rw [if_neg (by omega)]; exact b1.trans (by simp [s_wc, gN])
    · rw [if_neg (by omega)]; exact b2.trans (by simp [s_kd, gN])
    · rw [if_neg (by omega)]; exact b3.trans (by simp [s_bd, gN])
    · rw [if_neg (by omega)]; exact b4.trans (by simp [s_ps, gN])
    · rw [if_neg (by omega)]; exact b5.trans (by simp [s_pt, gN])
    · rw [if_neg (by omega)]; exact b6.trans (by simp [s_pr, gN])
    · rw [if_neg (by omega)]; exact b7.trans (by simp [s_ff, gN])
    · rw [if_neg (by omega)]; exact b8.trans (by simp [s_ft, gN])
    · by_cases e : f2 = f
      · subst e
        simp [s_tf, gN]
      · rw [if_neg (by omega), b9]
        simp [s_tf, gN, e]
    · rw [if_neg (by omega)]; exact b10.trans (by simp [s_tt, gN])
    · rw [if_neg (by omega)]; exact b11
    · rw [if_neg (by omega)]; exact b12
  · rw [sM_row (by omega), rk_gN (by decide) (by decide)]; exact R.2.2.1 f2 g hf2 hg
  · rw [sM_row (by omega)]; exact R.2.2.2.1 f2 hf2
  · rw [sM_row (by omega)]; exact R.2.2.2.2.1 y f2 (by simpa [s_yr, gN] using hy) hf2
  · rw [sM_row (by omega)]; exact (R.2.2.2.2.2.1 i (by simpa [s_tc, gN] using hi)).trans (by simp [s_td, gN])
theorem RX.h10 {S : GS} {N : Mem} {K : Mej} (R : RX S N K) {f : Nat} (hf : f < 10) (v : Nat) : RX (gN S 7 f v) (sM N (20 + f) 10 (nI v)) K := by
  refine ⟨?_, fun f2 hf2 => ?_, fun f2 g hf2 hg => ?_, fun f2 hf2 => ?_, fun y f2 hy hf2 => ?_, fun i hi => ?_, R.2.2.2.2.2.2⟩
  · rw [sM_row (by omega)]
    obtain ⟨a7, a8, a9, a10, a11, a12, a13⟩ := R.1
    exact ⟨a7.trans (by simp [s_n, gN]), a8.trans (by simp [s_yr, gN]), a9.trans (by simp [s_tc, gN]), a10.trans (by simp [s_st, gN]), a11.trans (by simp [s_mo, gN]), a12.trans (by simp [s_li, gN]), a13.trans (by simp [s_ch, gN])⟩
  · obtain ⟨b1, b2, b3, b4, b5, b6, b7, b8, b9, b10, ⟨m, hm, b11, hb⟩, b12⟩ := R.2.1 f2 hf2
    refine ⟨?_, ?_, ?_, ?_, ?_, ?_, ?_, ?_, ?_, ?_, ⟨m, hm, ?_, fun z hz => (hb z hz).trans (by simp [s_br, gN])⟩, ?_⟩ <;> rw [sM_at]
    · rw [if_neg (by omega)]; exact b1.trans (by simp [s_wc, gN])
    · rw [if_neg (by omega)]; exact b2.trans (by simp [s_kd, gN])
    · rw [if_neg (by omega)]; exact b3.trans (by simp [s_bd, gN])
    · rw [if_neg (by omega)]; exact b4.trans (by simp [s_ps, gN])
    · rw [if_neg (by omega)]; exact b5.trans (by simp [s_pt, gN])
    · rw [if_neg (by omega)]; exact b6.trans (by simp [s_pr, gN])
    · rw [if_neg (by omega)]; exact b7.trans (by simp [s_ff, gN])
    · rw [if_neg (by omega)]; exact b8.trans (by simp [s_ft, gN])
    · rw [if_neg (by omega)]; exact b9.trans (by simp [s_tf, gN])
    · by_cases e : f2 = f
      · subst e
        simp [s_tt, gN]
      · rw [if_neg (by omega), b10]
        simp [s_tt, gN, e]
    · rw [if_neg (by omega)]; exact b11
    · rw [if_neg (by omega)]; exact b12
  · rw [sM_row (by omega), rk_gN (by decide) (by decide)]; exact R.2.2.1 f2 g hf2 hg
  · rw [sM_row (by omega)]; exact R.2.2.2.1 f2 hf2
  · rw [sM_row (by omega)]; exact R.2.2.2.2.1 y f2 (by simpa [s_yr, gN] using hy) hf2
  · rw [sM_row (by omega)]; exact (R.2.2.2.2.2.1 i (by simpa [s_tc, gN] using hi)).trans (by simp [s_td, gN])
