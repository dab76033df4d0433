/-! a chain that stands has two at least -/
def CHk (S : GS) : Prop := s_ch S = true → 2 ≤ s_tc S
theorem ch_off {S : GS} (h : s_ch S = false) : CHk S := fun z => by rw [h] at z; cases z
theorem ch_gC (S : GS) : s_ch (gC S) = false := rfl
theorem ch_chain (S : GS) (x : Int32) : CHk (o_chain S x).2 := by
  unfold o_chain
  split
  · split
    · split
      · exact ch_off rfl
      · next h => exact fun _ => show 2 ≤ (lwR (cCh S x.toNatClampNeg) (s_n S) x.toNatClampNeg).length by omega
    · exact ch_off rfl
  · exact ch_off rfl
theorem ch_blocks (S : GS) : CHk (o_blocks S).2 := by
  unfold o_blocks
  split
  · exact ch_off rfl
  · exact ch_off rfl
theorem ch_best (S : GS) : CHk (o_best S).2 := ch_off rfl
theorem ch_mend (S : GS) : CHk (o_mend S).2 := ch_off rfl
theorem ch_trade (S : GS) : CHk (o_trade S).2 := ch_off rfl
