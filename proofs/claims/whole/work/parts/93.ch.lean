/-! the chain is off behind all other calls -/
theorem ch_payPl (S : GS) (sg : Int32) : ∀ i, s_ch (payPl S sg i) = s_ch S
  | 0 => rfl
  | i + 1 => by
    have ih := ch_payPl S sg i
    unfold payPl
    split
    · exact ih
    · exact ih
theorem ch_trv (S : GS) : ∀ i, s_ch (trv S i) = s_ch S
  | 0 => rfl
  | i + 1 => ch_trv S i
theorem ch_unP (S : GS) (y : Nat) : ∀ i, s_ch (unP S y i) = s_ch S
  | 0 => rfl
  | i + 1 => ch_unP S y i
theorem ch_family (S : GS) (k b p : Int32) (pet : Bool) : CHk (o_family S k b p pet).2 := by
  unfold o_family
  split
  · exact ch_off rfl
  · exact ch_off rfl
theorem ch_weeks (S : GS) (x k a b : Int32) : CHk (o_weeks S x k a b).2 := by
  unfold o_weeks
  split
  · split
    · exact ch_off rfl
    · split
      · exact ch_off rfl
      · exact ch_off rfl
  · exact ch_off rfl
theorem ch_wish (S : GS) (x y : Int32) : CHk (o_wish S x y).2 := by
  unfold o_wish
  split
  · exact ch_off rfl
  · exact ch_off rfl
theorem ch_bar (S : GS) (x y : Int32) (b : Bool) : CHk (o_bar S x y b).2 := by
  unfold o_bar
  split
  · exact ch_off rfl
  · exact ch_off rfl
theorem ch_in (S : GS) (x : Int32) (b : Bool) : CHk (o_in S x b).2 := by
  unfold o_in
  split
  · exact ch_off rfl
  · exact ch_off rfl
theorem ch_set (S : GS) (x v : Int32) : CHk (o_set S x v).2 := by
  unfold o_set
  split
  · exact ch_off rfl
  · split
    · exact ch_off rfl
    · split
      · exact ch_off rfl
      · exact ch_off rfl
theorem ch_put (S : GS) (x y : Int32) : CHk (o_put S x y).2 := by
  unfold o_put
  split
  · exact ch_off rfl
  · exact ch_off rfl
theorem ch_ring (S : GS) (x : Int32) : CHk (o_ring S x).2 := by
  unfold o_ring
  split
  · split
    · exact ch_off rfl
    · exact ch_off rfl
  · exact ch_off rfl
theorem ch_travel {S : GS} (h : CHk S) : CHk (o_travel S).2 := by
  unfold o_travel
  split
  · exact ch_off (ch_trv (gC S) _)
  · exact h
theorem ch_book (S : GS) : CHk (o_book S).2 := by
  unfold o_book
  split
  · exact ch_off rfl
  · exact ch_off (ch_payPl (gC S) (nI 1) (s_n S))
theorem ch_undo (S : GS) : CHk (o_undo S).2 := by
  unfold o_undo
  split
  · exact ch_off rfl
  · exact ch_off ((ch_payPl (unG S) (-1) (s_n S)).trans (ch_unP (gN (gC S) 0 4 (s_yr S - 1)) (s_yr S - 1) 10))
theorem ch_cpF (f : Nat) (bt : Bool) (a st : Int32) : ∀ (k i : Nat) (S : GS), s_ch (cpF f bt a st k i S) = s_ch S
  | 0, _, S => rfl
  | k + 1, i, S => by
    unfold cpF
    split
    · exact ch_cpF f bt a st k (i + 1) (addW S f (shv bt a st i).toNatClampNeg)
    · rfl
theorem ch_wishes (S : GS) (x kd n a st : Int32) : CHk (o_wishes S x kd n a st).2 := by
  unfold o_wishes
  split
  · split
    · exact ch_off rfl
    · refine ch_off ?_
      show s_ch (wsG S x.toNatClampNeg kd n a st) = false
      unfold wsG
      split
      · rfl
      · exact ch_cpF _ _ _ _ _ _ _
  · exact ch_off rfl
