abbrev mX0_init : MI := (yX0_init, cX0_init, 1, none)
abbrev mX0_moveIn : MI := (yX0_moveIn, cX0_moveIn, 5, none)
abbrev mX0_sleeps : MI := (yX0_sleeps, cX0_sleeps, 1, (some .int))
abbrev mX0_worth : MI := (yX0_worth, cX0_worth, 2, (some .int))
abbrev mX0_welcomesPets : MI := (yX0_welcomesPets, cX0_welcomesPets, 1, (some .boolean))
abbrev mX0_weeksAt : MI := (yX0_weeksAt, cX0_weeksAt, 2, (some .int))
abbrev mX0_addWish : MI := (yX0_addWish, cX0_addWish, 2, none)
abbrev mX0_dropWishes : MI := (yX0_dropWishes, cX0_dropWishes, 2, none)
abbrev mX0_barFrom : MI := (yX0_barFrom, cX0_barFrom, 3, none)
abbrev mX0_isBarredFrom : MI := (yX0_isBarredFrom, cX0_isBarredFrom, 2, (some .boolean))
abbrev mX1_init : MI := (yX1_init, cX1_init, 4, none)
abbrev mX1_clear : MI := (yX1_clear, cX1_clear, 3, none)
abbrev mX1_allow : MI := (yX1_allow, cX1_allow, 4, none)
abbrev mX1_replacePlan : MI := (yX1_replacePlan, cX1_replacePlan, 3, (some .int))
abbrev mX1_findRings : MI := (yX1_findRings, cX1_findRings, 3, none)
abbrev mX1_openWays : MI := (yX1_openWays, cX1_openWays, 5, none)
abbrev mX1_growWays : MI := (yX1_growWays, cX1_growWays, 7, none)
abbrev mX1_closeWay : MI := (yX1_closeWay, cX1_closeWay, 7, none)
abbrev mX1_growWay : MI := (yX1_growWay, cX1_growWay, 8, none)
abbrev mX1_settleAll : MI := (yX1_settleAll, cX1_settleAll, 3, none)
abbrev mX1_settleFirst : MI := (yX1_settleFirst, cX1_settleFirst, 7, none)
abbrev mX1_readPlan : MI := (yX1_readPlan, cX1_readPlan, 10, (some .int))
abbrev mX2_init : MI := (yX2_init, cX2_init, 1, none)
abbrev mX2_clear : MI := (yX2_clear, cX2_clear, 3, none)
abbrev mX2_add : MI := (yX2_add, cX2_add, 3, none)
abbrev mX2_tellShortestRing : MI := (yX2_tellShortestRing, cX2_tellShortestRing, 6, (some .int))
abbrev mX2_lengthFrom : MI := (yX2_lengthFrom, cX2_lengthFrom, 4, (some .int))
abbrev mX2_tellLongestWay : MI := (yX2_tellLongestWay, cX2_tellLongestWay, 7, (some .int))
abbrev mX2_findStarts : MI := (yX2_findStarts, cX2_findStarts, 3, none)
abbrev mX2_startsWithin : MI := (yX2_startsWithin, cX2_startsWithin, 5, (some .int))
abbrev mX2_mostSteps : MI := (yX2_mostSteps, cX2_mostSteps, 5, (some .int))
abbrev mX2_startsApart : MI := (yX2_startsApart, cX2_startsApart, 5, (some .int))
abbrev mX2_leastOf : MI := (yX2_leastOf, cX2_leastOf, 2, (some .int))
abbrev mX3_init : MI := (yX3_init, cX3_init, 2, none)
abbrev mX3_family : MI := (yX3_family, cX3_family, 6, (some .int))
abbrev mX3_weeks : MI := (yX3_weeks, cX3_weeks, 5, (some .boolean))
abbrev mX3_wish : MI := (yX3_wish, cX3_wish, 3, (some .int))
abbrev mX3_wishes : MI := (yX3_wishes, cX3_wishes, 6, (some .int))
abbrev mX3_bar : MI := (yX3_bar, cX3_bar, 4, (some .boolean))
abbrev mX3_in : MI := (yX3_in, cX3_in, 3, (some .boolean))
abbrev mX3_set : MI := (yX3_set, cX3_set, 4, (some .int))
abbrev mX3_count : MI := (yX3_count, cX3_count, 2, (some .int))
abbrev mX3_of : MI := (yX3_of, cX3_of, 4, (some .int))
abbrev mX3_rank : MI := (yX3_rank, cX3_rank, 3, (some .int))
abbrev mX3_can : MI := (yX3_can, cX3_can, 3, (some .int))
abbrev mX3_week : MI := (yX3_week, cX3_week, 3, (some .int))
abbrev mX3_put : MI := (yX3_put, cX3_put, 3, (some .boolean))
abbrev mX3_wrong : MI := (yX3_wrong, cX3_wrong, 2, (some .int))
abbrev mX3_best : MI := (yX3_best, cX3_best, 1, (some .int))
abbrev mX3_mend : MI := (yX3_mend, cX3_mend, 1, (some .int))
abbrev mX3_trade : MI := (yX3_trade, cX3_trade, 3, (some .int))
abbrev mX3_blocks : MI := (yX3_blocks, cX3_blocks, 3, (some .int))
abbrev mX3_ring : MI := (yX3_ring, cX3_ring, 5, (some .int))
abbrev mX3_chain : MI := (yX3_chain, cX3_chain, 3, (some .int))
abbrev mX3_travel : MI := (yX3_travel, cX3_travel, 2, (some .int))
abbrev mX3_book : MI := (yX3_book, cX3_book, 3, (some .int))
abbrev mX3_went : MI := (yX3_went, cX3_went, 3, (some .int))
abbrev mX3_undo : MI := (yX3_undo, cX3_undo, 2, (some .int))
abbrev mX3_row : MI := (yX3_row, cX3_row, 2, (some .int))
abbrev mX3_keepRow : MI := (yX3_keepRow, cX3_keepRow, 2, none)
abbrev mX3_isOneToNine : MI := (yX3_isOneToNine, cX3_isOneToNine, 1, (some .boolean))
abbrev mX3_isFamily : MI := (yX3_isFamily, cX3_isFamily, 2, (some .boolean))
abbrev mX3_areTwo : MI := (yX3_areTwo, cX3_areTwo, 3, (some .boolean))
abbrev mX3_canBecomeWish : MI := (yX3_canBecomeWish, cX3_canBecomeWish, 3, (some .boolean))
abbrev mX3_copySheet : MI := (yX3_copySheet, cX3_copySheet, 9, none)
abbrev mX3_hindrance : MI := (yX3_hindrance, cX3_hindrance, 5, (some .int))
abbrev mX3_takes : MI := (yX3_takes, cX3_takes, 3, (some .boolean))
abbrev mX3_countTaken : MI := (yX3_countTaken, cX3_countTaken, 4, (some .int))
abbrev mX3_countPresent : MI := (yX3_countPresent, cX3_countPresent, 3, (some .int))
abbrev mX3_countGoing : MI := (yX3_countGoing, cX3_countGoing, 3, (some .int))
abbrev mX3_planRank : MI := (yX3_planRank, cX3_planRank, 2, (some .int))
abbrev mX3_sumOfRanks : MI := (yX3_sumOfRanks, cX3_sumOfRanks, 3, (some .int))
abbrev mX3_firstGuest : MI := (yX3_firstGuest, cX3_firstGuest, 3, (some .int))
abbrev mX3_isLiked : MI := (yX3_isLiked, cX3_isLiked, 4, (some .boolean))
abbrev mX3_faultOfClosing : MI := (yX3_faultOfClosing, cX3_faultOfClosing, 2, (some .int))
abbrev mX3_hasRival : MI := (yX3_hasRival, cX3_hasRival, 3, (some .boolean))
abbrev mX3_faultOfLength : MI := (yX3_faultOfLength, cX3_faultOfLength, 2, (some .int))
abbrev mX3_ringLength : MI := (yX3_ringLength, cX3_ringLength, 4, (some .int))
abbrev mX3_countRings : MI := (yX3_countRings, cX3_countRings, 3, (some .int))
abbrev mX3_isLeastOfRing : MI := (yX3_isLeastOfRing, cX3_isLeastOfRing, 5, (some .boolean))
abbrev mX3_clearPlan : MI := (yX3_clearPlan, cX3_clearPlan, 2, none)
abbrev mX3_planRings : MI := (yX3_planRings, cX3_planRings, 5, (some .int))
abbrev mX3_showHomes : MI := (yX3_showHomes, cX3_showHomes, 5, (some .int))
abbrev mX3_firstWithoutHome : MI := (yX3_firstWithoutHome, cX3_firstWithoutHome, 3, (some .int))
abbrev mX3_likedMost : MI := (yX3_likedMost, cX3_likedMost, 6, (some .int))
abbrev mX3_sendShownRing : MI := (yX3_sendShownRing, cX3_sendShownRing, 3, (some .int))
abbrev mX3_comesRound : MI := (yX3_comesRound, cX3_comesRound, 4, (some .boolean))
abbrev mX3_sendAsShown : MI := (yX3_sendAsShown, cX3_sendAsShown, 5, (some .int))
abbrev mX3_addChainWaysTo : MI := (yX3_addChainWaysTo, cX3_addChainWaysTo, 6, none)
abbrev mX3_pay : MI := (yX3_pay, cX3_pay, 5, none)
abbrev mX3_payPlan : MI := (yX3_payPlan, cX3_payPlan, 3, none)
abbrev mX4_init : MI := (yX4_init, cX4_init, 1, none)
abbrev mX4_thrown : MI := (yX4_thrown, cX4_thrown, 1, (some .int))
abbrev mX4_lies : MI := (yX4_lies, cX4_lies, 6, (some .boolean))
abbrev mX4_refuse : MI := (yX4_refuse, cX4_refuse, 1, (some .int))
abbrev mX4_isFamily : MI := (yX4_isFamily, cX4_isFamily, 2, (some .boolean))
abbrev mX4_areTwo : MI := (yX4_areTwo, cX4_areTwo, 3, (some .boolean))
abbrev mX4_family : MI := (yX4_family, cX4_family, 6, (some .int))
abbrev mX4_weeks : MI := (yX4_weeks, cX4_weeks, 5, (some .boolean))
abbrev mX4_rankOf : MI := (yX4_rankOf, cX4_rankOf, 4, (some .int))
abbrev mX4_wants : MI := (yX4_wants, cX4_wants, 3, none)
abbrev mX4_wish : MI := (yX4_wish, cX4_wish, 3, (some .int))
abbrev mX4_wishes : MI := (yX4_wishes, cX4_wishes, 8, (some .int))
abbrev mX4_bar : MI := (yX4_bar, cX4_bar, 4, (some .boolean))
abbrev mX4_in : MI := (yX4_in, cX4_in, 3, (some .boolean))
abbrev mX4_set : MI := (yX4_set, cX4_set, 4, (some .int))
abbrev mX4_sleeps : MI := (yX4_sleeps, cX4_sleeps, 2, (some .int))
abbrev mX4_worth : MI := (yX4_worth, cX4_worth, 2, (some .int))
abbrev mX4_barrier : MI := (yX4_barrier, cX4_barrier, 4, (some .int))
abbrev mX4_takes : MI := (yX4_takes, cX4_takes, 3, (some .boolean))
abbrev mX4_rank : MI := (yX4_rank, cX4_rank, 3, (some .int))
abbrev mX4_can : MI := (yX4_can, cX4_can, 3, (some .int))
abbrev mX4_week : MI := (yX4_week, cX4_week, 3, (some .int))
abbrev mX4_guest : MI := (yX4_guest, cX4_guest, 3, (some .int))
abbrev mX4_goesAtAll : MI := (yX4_goesAtAll, cX4_goesAtAll, 2, (some .boolean))
abbrev mX4_open : MI := (yX4_open, cX4_open, 3, (some .int))
abbrev mX4_ringOf : MI := (yX4_ringOf, cX4_ringOf, 4, (some .int))
abbrev mX4_wrong : MI := (yX4_wrong, cX4_wrong, 3, (some .int))
abbrev mX4_goers : MI := (yX4_goers, cX4_goers, 3, (some .int))
abbrev mX4_rings : MI := (yX4_rings, cX4_rings, 5, (some .int))
abbrev mX4_count : MI := (yX4_count, cX4_count, 5, (some .int))
abbrev mX4_of : MI := (yX4_of, cX4_of, 5, (some .int))
abbrev mX4_put : MI := (yX4_put, cX4_put, 3, (some .boolean))
abbrev mX4_mayBe : MI := (yX4_mayBe, cX4_mayBe, 7, (some .boolean))
abbrev mX4_isShort : MI := (yX4_isShort, cX4_isShort, 9, (some .boolean))
abbrev mX4_offers : MI := (yX4_offers, cX4_offers, 6, none)
abbrev mX4_goes : MI := (yX4_goes, cX4_goes, 7, none)
abbrev mX4_all : MI := (yX4_all, cX4_all, 3, none)
abbrev mX4_best : MI := (yX4_best, cX4_best, 1, (some .int))
abbrev mX4_mend : MI := (yX4_mend, cX4_mend, 1, (some .int))
abbrev mX4_firstOf : MI := (yX4_firstOf, cX4_firstOf, 4, (some .int))
abbrev mX4_leaver : MI := (yX4_leaver, cX4_leaver, 2, (some .int))
abbrev mX4_isRound : MI := (yX4_isRound, cX4_isRound, 4, (some .boolean))
abbrev mX4_trade : MI := (yX4_trade, cX4_trade, 5, (some .int))
abbrev mX4_wouldRather : MI := (yX4_wouldRather, cX4_wouldRather, 4, (some .boolean))
abbrev mX4_closes : MI := (yX4_closes, cX4_closes, 6, (some .boolean))
abbrev mX4_tells : MI := (yX4_tells, cX4_tells, 3, (some .int))
abbrev mX4_blocks : MI := (yX4_blocks, cX4_blocks, 3, (some .int))
abbrev mX4_ring : MI := (yX4_ring, cX4_ring, 4, (some .int))
abbrev mX4_goesOn : MI := (yX4_goesOn, cX4_goesOn, 6, none)
abbrev mX4_chain : MI := (yX4_chain, cX4_chain, 3, (some .int))
abbrev mX4_travel : MI := (yX4_travel, cX4_travel, 3, (some .int))
abbrev mX4_book : MI := (yX4_book, cX4_book, 3, (some .int))
abbrev mX4_pays : MI := (yX4_pays, cX4_pays, 5, none)
abbrev mX4_went : MI := (yX4_went, cX4_went, 3, (some .int))
abbrev mX4_undo : MI := (yX4_undo, cX4_undo, 2, (some .int))
abbrev mX4_row : MI := (yX4_row, cX4_row, 2, (some .int))
abbrev mJ6_bitCount_0f7a4 : MI := (yJ6_bitCount_0f7a4, cJ6_bitCount_0f7a4, 1, (some .int))
abbrev mJ9_floorMod_f86c9 : MI := (yJ9_floorMod_f86c9, cJ9_floorMod_f86c9, 6, (some .long))
abbrev mJ9_max_7cf53 : MI := (yJ9_max_7cf53, cJ9_max_7cf53, 2, (some .int))
abbrev mJ9_max_f86c9 : MI := (yJ9_max_f86c9, cJ9_max_f86c9, 4, (some .long))
abbrev mJ9_min_7cf53 : MI := (yJ9_min_7cf53, cJ9_min_7cf53, 2, (some .int))
theorem wi_L : Cond.initialized RL ∈ lwg := lwg_of (List.mem_of_getElem? (i := 73) (by decide +kernel)) rfl
theorem wi_X3 : Cond.initialized RX3 ∈ lwg := lwg_of (List.mem_of_getElem? (i := 74) (by decide +kernel)) rfl
theorem wi_X1 : Cond.initialized RX1 ∈ lwg := lwg_of (List.mem_of_getElem? (i := 75) (by decide +kernel)) rfl
theorem wi_X2 : Cond.initialized RX2 ∈ lwg := lwg_of (List.mem_of_getElem? (i := 76) (by decide +kernel)) rfl
theorem wi_X0 : Cond.initialized RX0 ∈ lwg := lwg_of (List.mem_of_getElem? (i := 77) (by decide +kernel)) rfl
theorem wi_X4 : Cond.initialized RX4 ∈ lwg := lwg_of (List.mem_of_getElem? (i := 78) (by decide +kernel)) rfl
theorem wi_J9 : Cond.initialized RJ9 ∈ lwg := lwg_of (List.mem_of_getElem? (i := 79) (by decide +kernel)) rfl
theorem wi_J6 : Cond.initialized RJ6 ∈ lwg := lwg_of (List.mem_of_getElem? (i := 84) (by decide +kernel)) rfl
theorem wc_X0_init : Cond.code yX0_init cX0_init 1 none ∈ lwg := lwg_of (List.mem_of_getElem? (i := 145) (by decide +kernel)) rfl
theorem wm_X0_init : Cond.instanceMethod yX0_init ∈ lwg := lwg_of (List.mem_of_getElem? (i := 144) (by decide +kernel)) rfl
theorem wc_X0_moveIn : Cond.code yX0_moveIn cX0_moveIn 5 none ∈ lwg := lwg_of (List.mem_of_getElem? (i := 250) (by decide +kernel)) rfl
theorem wm_X0_moveIn : Cond.instanceMethod yX0_moveIn ∈ lwg := lwg_of (List.mem_of_getElem? (i := 248) (by decide +kernel)) rfl
theorem ws_X0_moveIn : Cond.selects RX0 yX0_moveIn yX0_moveIn ∈ lwg := lwg_of (List.mem_of_getElem? (i := 249) (by decide +kernel)) rfl
theorem wc_X0_sleeps : Cond.code yX0_sleeps cX0_sleeps 1 (some .int) ∈ lwg := lwg_of (List.mem_of_getElem? (i := 338) (by decide +kernel)) rfl
theorem wm_X0_sleeps : Cond.instanceMethod yX0_sleeps ∈ lwg := lwg_of (List.mem_of_getElem? (i := 336) (by decide +kernel)) rfl
theorem ws_X0_sleeps : Cond.selects RX0 yX0_sleeps yX0_sleeps ∈ lwg := lwg_of (List.mem_of_getElem? (i := 337) (by decide +kernel)) rfl
theorem wc_X0_worth : Cond.code yX0_worth cX0_worth 2 (some .int) ∈ lwg := lwg_of (List.mem_of_getElem? (i := 551) (by decide +kernel)) rfl
theorem wm_X0_worth : Cond.instanceMethod yX0_worth ∈ lwg := lwg_of (List.mem_of_getElem? (i := 549) (by decide +kernel)) rfl
theorem ws_X0_worth : Cond.selects RX0 yX0_worth yX0_worth ∈ lwg := lwg_of (List.mem_of_getElem? (i := 550) (by decide +kernel)) rfl
theorem wc_X0_welcomesPets : Cond.code yX0_welcomesPets cX0_welcomesPets 1 (some .boolean) ∈ lwg := lwg_of (List.mem_of_getElem? (i := 342) (by decide +kernel)) rfl
theorem wm_X0_welcomesPets : Cond.instanceMethod yX0_welcomesPets ∈ lwg := lwg_of (List.mem_of_getElem? (i := 340) (by decide +kernel)) rfl
theorem ws_X0_welcomesPets : Cond.selects RX0 yX0_welcomesPets yX0_welcomesPets ∈ lwg := lwg_of (List.mem_of_getElem? (i := 341) (by decide +kernel)) rfl
theorem wc_X0_weeksAt : Cond.code yX0_weeksAt cX0_weeksAt 2 (some .int) ∈ lwg := lwg_of (List.mem_of_getElem? (i := 346) (by decide +kernel)) rfl
theorem wm_X0_weeksAt : Cond.instanceMethod yX0_weeksAt ∈ lwg := lwg_of (List.mem_of_getElem? (i := 344) (by decide +kernel)) rfl
theorem ws_X0_weeksAt : Cond.selects RX0 yX0_weeksAt yX0_weeksAt ∈ lwg := lwg_of (List.mem_of_getElem? (i := 345) (by decide +kernel)) rfl
theorem wc_X0_addWish : Cond.code yX0_addWish cX0_addWish 2 none ∈ lwg := lwg_of (List.mem_of_getElem? (i := 274) (by decide +kernel)) rfl
theorem wm_X0_addWish : Cond.instanceMethod yX0_addWish ∈ lwg := lwg_of (List.mem_of_getElem? (i := 272) (by decide +kernel)) rfl
theorem ws_X0_addWish : Cond.selects RX0 yX0_addWish yX0_addWish ∈ lwg := lwg_of (List.mem_of_getElem? (i := 273) (by decide +kernel)) rfl
theorem wc_X0_dropWishes : Cond.code yX0_dropWishes cX0_dropWishes 2 none ∈ lwg := lwg_of (List.mem_of_getElem? (i := 282) (by decide +kernel)) rfl
theorem wm_X0_dropWishes : Cond.instanceMethod yX0_dropWishes ∈ lwg := lwg_of (List.mem_of_getElem? (i := 280) (by decide +kernel)) rfl
theorem ws_X0_dropWishes : Cond.selects RX0 yX0_dropWishes yX0_dropWishes ∈ lwg := lwg_of (List.mem_of_getElem? (i := 281) (by decide +kernel)) rfl
theorem wc_X0_barFrom : Cond.code yX0_barFrom cX0_barFrom 3 none ∈ lwg := lwg_of (List.mem_of_getElem? (i := 294) (by decide +kernel)) rfl
theorem wm_X0_barFrom : Cond.instanceMethod yX0_barFrom ∈ lwg := lwg_of (List.mem_of_getElem? (i := 292) (by decide +kernel)) rfl
theorem ws_X0_barFrom : Cond.selects RX0 yX0_barFrom yX0_barFrom ∈ lwg := lwg_of (List.mem_of_getElem? (i := 293) (by decide +kernel)) rfl
theorem wc_X0_isBarredFrom : Cond.code yX0_isBarredFrom cX0_isBarredFrom 2 (some .boolean) ∈ lwg := lwg_of (List.mem_of_getElem? (i := 334) (by decide +kernel)) rfl
theorem wm_X0_isBarredFrom : Cond.instanceMethod yX0_isBarredFrom ∈ lwg := lwg_of (List.mem_of_getElem? (i := 332) (by decide +kernel)) rfl
theorem ws_X0_isBarredFrom : Cond.selects RX0 yX0_isBarredFrom yX0_isBarredFrom ∈ lwg := lwg_of (List.mem_of_getElem? (i := 333) (by decide +kernel)) rfl
theorem wc_X1_init : Cond.code yX1_init cX1_init 4 none ∈ lwg := lwg_of (List.mem_of_getElem? (i := 99) (by decide +kernel)) rfl
theorem wm_X1_init : Cond.instanceMethod yX1_init ∈ lwg := lwg_of (List.mem_of_getElem? (i := 98) (by decide +kernel)) rfl
theorem wc_X1_clear : Cond.code yX1_clear cX1_clear 3 none ∈ lwg := lwg_of (List.mem_of_getElem? (i := 413) (by decide +kernel)) rfl
theorem wm_X1_clear : Cond.instanceMethod yX1_clear ∈ lwg := lwg_of (List.mem_of_getElem? (i := 411) (by decide +kernel)) rfl
theorem ws_X1_clear : Cond.selects RX1 yX1_clear yX1_clear ∈ lwg := lwg_of (List.mem_of_getElem? (i := 412) (by decide +kernel)) rfl
theorem wc_X1_allow : Cond.code yX1_allow cX1_allow 4 none ∈ lwg := lwg_of (List.mem_of_getElem? (i := 418) (by decide +kernel)) rfl
theorem wm_X1_allow : Cond.instanceMethod yX1_allow ∈ lwg := lwg_of (List.mem_of_getElem? (i := 416) (by decide +kernel)) rfl
theorem ws_X1_allow : Cond.selects RX1 yX1_allow yX1_allow ∈ lwg := lwg_of (List.mem_of_getElem? (i := 417) (by decide +kernel)) rfl
theorem wc_X1_replacePlan : Cond.code yX1_replacePlan cX1_replacePlan 3 (some .int) ∈ lwg := lwg_of (List.mem_of_getElem? (i := 423) (by decide +kernel)) rfl
theorem wm_X1_replacePlan : Cond.instanceMethod yX1_replacePlan ∈ lwg := lwg_of (List.mem_of_getElem? (i := 421) (by decide +kernel)) rfl
theorem ws_X1_replacePlan : Cond.selects RX1 yX1_replacePlan yX1_replacePlan ∈ lwg := lwg_of (List.mem_of_getElem? (i := 422) (by decide +kernel)) rfl
theorem wc_X1_findRings : Cond.code yX1_findRings cX1_findRings 3 none ∈ lwg := lwg_of (List.mem_of_getElem? (i := 427) (by decide +kernel)) rfl
theorem wm_X1_findRings : Cond.instanceMethod yX1_findRings ∈ lwg := lwg_of (List.mem_of_getElem? (i := 426) (by decide +kernel)) rfl
theorem ws_X1_findRings : Cond.selects RX1 yX1_findRings yX1_findRings ∈ lwg := lwg_of (List.mem_of_getElem? (i := 18) (by decide +kernel)) rfl
theorem wc_X1_openWays : Cond.code yX1_openWays cX1_openWays 5 none ∈ lwg := lwg_of (List.mem_of_getElem? (i := 431) (by decide +kernel)) rfl
theorem wm_X1_openWays : Cond.instanceMethod yX1_openWays ∈ lwg := lwg_of (List.mem_of_getElem? (i := 430) (by decide +kernel)) rfl
theorem ws_X1_openWays : Cond.selects RX1 yX1_openWays yX1_openWays ∈ lwg := lwg_of (List.mem_of_getElem? (i := 19) (by decide +kernel)) rfl
theorem wc_X1_growWays : Cond.code yX1_growWays cX1_growWays 7 none ∈ lwg := lwg_of (List.mem_of_getElem? (i := 435) (by decide +kernel)) rfl
theorem wm_X1_growWays : Cond.instanceMethod yX1_growWays ∈ lwg := lwg_of (List.mem_of_getElem? (i := 434) (by decide +kernel)) rfl
theorem ws_X1_growWays : Cond.selects RX1 yX1_growWays yX1_growWays ∈ lwg := lwg_of (List.mem_of_getElem? (i := 20) (by decide +kernel)) rfl
theorem wc_X1_closeWay : Cond.code yX1_closeWay cX1_closeWay 7 none ∈ lwg := lwg_of (List.mem_of_getElem? (i := 445) (by decide +kernel)) rfl
theorem wm_X1_closeWay : Cond.instanceMethod yX1_closeWay ∈ lwg := lwg_of (List.mem_of_getElem? (i := 444) (by decide +kernel)) rfl
theorem ws_X1_closeWay : Cond.selects RX1 yX1_closeWay yX1_closeWay ∈ lwg := lwg_of (List.mem_of_getElem? (i := 21) (by decide +kernel)) rfl
theorem wc_X1_growWay : Cond.code yX1_growWay cX1_growWay 8 none ∈ lwg := lwg_of (List.mem_of_getElem? (i := 452) (by decide +kernel)) rfl
theorem wm_X1_growWay : Cond.instanceMethod yX1_growWay ∈ lwg := lwg_of (List.mem_of_getElem? (i := 451) (by decide +kernel)) rfl
theorem ws_X1_growWay : Cond.selects RX1 yX1_growWay yX1_growWay ∈ lwg := lwg_of (List.mem_of_getElem? (i := 22) (by decide +kernel)) rfl
theorem wc_X1_settleAll : Cond.code yX1_settleAll cX1_settleAll 3 none ∈ lwg := lwg_of (List.mem_of_getElem? (i := 456) (by decide +kernel)) rfl
theorem wm_X1_settleAll : Cond.instanceMethod yX1_settleAll ∈ lwg := lwg_of (List.mem_of_getElem? (i := 455) (by decide +kernel)) rfl
theorem ws_X1_settleAll : Cond.selects RX1 yX1_settleAll yX1_settleAll ∈ lwg := lwg_of (List.mem_of_getElem? (i := 23) (by decide +kernel)) rfl
theorem wc_X1_settleFirst : Cond.code yX1_settleFirst cX1_settleFirst 7 none ∈ lwg := lwg_of (List.mem_of_getElem? (i := 460) (by decide +kernel)) rfl
theorem wm_X1_settleFirst : Cond.instanceMethod yX1_settleFirst ∈ lwg := lwg_of (List.mem_of_getElem? (i := 459) (by decide +kernel)) rfl
theorem ws_X1_settleFirst : Cond.selects RX1 yX1_settleFirst yX1_settleFirst ∈ lwg := lwg_of (List.mem_of_getElem? (i := 24) (by decide +kernel)) rfl
theorem wc_X1_readPlan : Cond.code yX1_readPlan cX1_readPlan 10 (some .int) ∈ lwg := lwg_of (List.mem_of_getElem? (i := 465) (by decide +kernel)) rfl
theorem wm_X1_readPlan : Cond.instanceMethod yX1_readPlan ∈ lwg := lwg_of (List.mem_of_getElem? (i := 464) (by decide +kernel)) rfl
theorem ws_X1_readPlan : Cond.selects RX1 yX1_readPlan yX1_readPlan ∈ lwg := lwg_of (List.mem_of_getElem? (i := 25) (by decide +kernel)) rfl
theorem wc_X2_init : Cond.code yX2_init cX2_init 1 none ∈ lwg := lwg_of (List.mem_of_getElem? (i := 127) (by decide +kernel)) rfl
theorem wm_X2_init : Cond.instanceMethod yX2_init ∈ lwg := lwg_of (List.mem_of_getElem? (i := 126) (by decide +kernel)) rfl
theorem wc_X2_clear : Cond.code yX2_clear cX2_clear 3 none ∈ lwg := lwg_of (List.mem_of_getElem? (i := 512) (by decide +kernel)) rfl
theorem wm_X2_clear : Cond.instanceMethod yX2_clear ∈ lwg := lwg_of (List.mem_of_getElem? (i := 510) (by decide +kernel)) rfl
theorem ws_X2_clear : Cond.selects RX2 yX2_clear yX2_clear ∈ lwg := lwg_of (List.mem_of_getElem? (i := 511) (by decide +kernel)) rfl
theorem wc_X2_add : Cond.code yX2_add cX2_add 3 none ∈ lwg := lwg_of (List.mem_of_getElem? (i := 520) (by decide +kernel)) rfl
theorem wm_X2_add : Cond.instanceMethod yX2_add ∈ lwg := lwg_of (List.mem_of_getElem? (i := 518) (by decide +kernel)) rfl
theorem ws_X2_add : Cond.selects RX2 yX2_add yX2_add ∈ lwg := lwg_of (List.mem_of_getElem? (i := 519) (by decide +kernel)) rfl
theorem wc_X2_tellShortestRing : Cond.code yX2_tellShortestRing cX2_tellShortestRing 6 (some .int) ∈ lwg := lwg_of (List.mem_of_getElem? (i := 524) (by decide +kernel)) rfl
theorem wm_X2_tellShortestRing : Cond.instanceMethod yX2_tellShortestRing ∈ lwg := lwg_of (List.mem_of_getElem? (i := 522) (by decide +kernel)) rfl
theorem ws_X2_tellShortestRing : Cond.selects RX2 yX2_tellShortestRing yX2_tellShortestRing ∈ lwg := lwg_of (List.mem_of_getElem? (i := 523) (by decide +kernel)) rfl
theorem wc_X2_lengthFrom : Cond.code yX2_lengthFrom cX2_lengthFrom 4 (some .int) ∈ lwg := lwg_of (List.mem_of_getElem? (i := 528) (by decide +kernel)) rfl
theorem wm_X2_lengthFrom : Cond.instanceMethod yX2_lengthFrom ∈ lwg := lwg_of (List.mem_of_getElem? (i := 527) (by decide +kernel)) rfl
theorem ws_X2_lengthFrom : Cond.selects RX2 yX2_lengthFrom yX2_lengthFrom ∈ lwg := lwg_of (List.mem_of_getElem? (i := 34) (by decide +kernel)) rfl
theorem wc_X2_tellLongestWay : Cond.code yX2_tellLongestWay cX2_tellLongestWay 7 (some .int) ∈ lwg := lwg_of (List.mem_of_getElem? (i := 556) (by decide +kernel)) rfl
theorem wm_X2_tellLongestWay : Cond.instanceMethod yX2_tellLongestWay ∈ lwg := lwg_of (List.mem_of_getElem? (i := 554) (by decide +kernel)) rfl
theorem ws_X2_tellLongestWay : Cond.selects RX2 yX2_tellLongestWay yX2_tellLongestWay ∈ lwg := lwg_of (List.mem_of_getElem? (i := 555) (by decide +kernel)) rfl
theorem wc_X2_findStarts : Cond.code yX2_findStarts cX2_findStarts 3 none ∈ lwg := lwg_of (List.mem_of_getElem? (i := 560) (by decide +kernel)) rfl
theorem wm_X2_findStarts : Cond.instanceMethod yX2_findStarts ∈ lwg := lwg_of (List.mem_of_getElem? (i := 559) (by decide +kernel)) rfl
theorem ws_X2_findStarts : Cond.selects RX2 yX2_findStarts yX2_findStarts ∈ lwg := lwg_of (List.mem_of_getElem? (i := 37) (by decide +kernel)) rfl
theorem wc_X2_startsWithin : Cond.code yX2_startsWithin cX2_startsWithin 5 (some .int) ∈ lwg := lwg_of (List.mem_of_getElem? (i := 564) (by decide +kernel)) rfl
theorem wm_X2_startsWithin : Cond.instanceMethod yX2_startsWithin ∈ lwg := lwg_of (List.mem_of_getElem? (i := 563) (by decide +kernel)) rfl
theorem ws_X2_startsWithin : Cond.selects RX2 yX2_startsWithin yX2_startsWithin ∈ lwg := lwg_of (List.mem_of_getElem? (i := 38) (by decide +kernel)) rfl
theorem wc_X2_mostSteps : Cond.code yX2_mostSteps cX2_mostSteps 5 (some .int) ∈ lwg := lwg_of (List.mem_of_getElem? (i := 568) (by decide +kernel)) rfl
theorem wm_X2_mostSteps : Cond.instanceMethod yX2_mostSteps ∈ lwg := lwg_of (List.mem_of_getElem? (i := 567) (by decide +kernel)) rfl
theorem ws_X2_mostSteps : Cond.selects RX2 yX2_mostSteps yX2_mostSteps ∈ lwg := lwg_of (List.mem_of_getElem? (i := 39) (by decide +kernel)) rfl
theorem wc_X2_startsApart : Cond.code yX2_startsApart cX2_startsApart 5 (some .int) ∈ lwg := lwg_of (List.mem_of_getElem? (i := 574) (by decide +kernel)) rfl
theorem wm_X2_startsApart : Cond.instanceMethod yX2_startsApart ∈ lwg := lwg_of (List.mem_of_getElem? (i := 573) (by decide +kernel)) rfl
theorem ws_X2_startsApart : Cond.selects RX2 yX2_startsApart yX2_startsApart ∈ lwg := lwg_of (List.mem_of_getElem? (i := 40) (by decide +kernel)) rfl
theorem wc_X2_leastOf : Cond.code yX2_leastOf cX2_leastOf 2 (some .int) ∈ lwg := lwg_of (List.mem_of_getElem? (i := 531) (by decide +kernel)) rfl
theorem wt_X2_leastOf : Cond.static yX2_leastOf ∈ lwg := lwg_of (List.mem_of_getElem? (i := 530) (by decide +kernel)) rfl
theorem wc_X3_init : Cond.code yX3_init cX3_init 2 none ∈ lwg := lwg_of (List.mem_of_getElem? (i := 89) (by decide +kernel)) rfl
theorem wm_X3_init : Cond.instanceMethod yX3_init ∈ lwg := lwg_of (List.mem_of_getElem? (i := 88) (by decide +kernel)) rfl
theorem wc_X3_family : Cond.code yX3_family cX3_family 6 (some .int) ∈ lwg := lwg_of (List.mem_of_getElem? (i := 243) (by decide +kernel)) rfl
theorem wm_X3_family : Cond.instanceMethod yX3_family ∈ lwg := lwg_of (List.mem_of_getElem? (i := 241) (by decide +kernel)) rfl
theorem ws_X3_family : Cond.selects RX3 yX3_family yX3_family ∈ lwg := lwg_of (List.mem_of_getElem? (i := 242) (by decide +kernel)) rfl
theorem wc_X3_weeks : Cond.code yX3_weeks cX3_weeks 5 (some .boolean) ∈ lwg := lwg_of (List.mem_of_getElem? (i := 254) (by decide +kernel)) rfl
theorem wm_X3_weeks : Cond.instanceMethod yX3_weeks ∈ lwg := lwg_of (List.mem_of_getElem? (i := 252) (by decide +kernel)) rfl
theorem ws_X3_weeks : Cond.selects RX3 yX3_weeks yX3_weeks ∈ lwg := lwg_of (List.mem_of_getElem? (i := 253) (by decide +kernel)) rfl
theorem wc_X3_wish : Cond.code yX3_wish cX3_wish 3 (some .int) ∈ lwg := lwg_of (List.mem_of_getElem? (i := 262) (by decide +kernel)) rfl
theorem wm_X3_wish : Cond.instanceMethod yX3_wish ∈ lwg := lwg_of (List.mem_of_getElem? (i := 260) (by decide +kernel)) rfl
theorem ws_X3_wish : Cond.selects RX3 yX3_wish yX3_wish ∈ lwg := lwg_of (List.mem_of_getElem? (i := 261) (by decide +kernel)) rfl
theorem wc_X3_wishes : Cond.code yX3_wishes cX3_wishes 6 (some .int) ∈ lwg := lwg_of (List.mem_of_getElem? (i := 278) (by decide +kernel)) rfl
theorem wm_X3_wishes : Cond.instanceMethod yX3_wishes ∈ lwg := lwg_of (List.mem_of_getElem? (i := 276) (by decide +kernel)) rfl
theorem ws_X3_wishes : Cond.selects RX3 yX3_wishes yX3_wishes ∈ lwg := lwg_of (List.mem_of_getElem? (i := 277) (by decide +kernel)) rfl
theorem wc_X3_bar : Cond.code yX3_bar cX3_bar 4 (some .boolean) ∈ lwg := lwg_of (List.mem_of_getElem? (i := 290) (by decide +kernel)) rfl
theorem wm_X3_bar : Cond.instanceMethod yX3_bar ∈ lwg := lwg_of (List.mem_of_getElem? (i := 288) (by decide +kernel)) rfl
theorem ws_X3_bar : Cond.selects RX3 yX3_bar yX3_bar ∈ lwg := lwg_of (List.mem_of_getElem? (i := 289) (by decide +kernel)) rfl
theorem wc_X3_in : Cond.code yX3_in cX3_in 3 (some .boolean) ∈ lwg := lwg_of (List.mem_of_getElem? (i := 298) (by decide +kernel)) rfl
theorem wm_X3_in : Cond.instanceMethod yX3_in ∈ lwg := lwg_of (List.mem_of_getElem? (i := 296) (by decide +kernel)) rfl
theorem ws_X3_in : Cond.selects RX3 yX3_in yX3_in ∈ lwg := lwg_of (List.mem_of_getElem? (i := 297) (by decide +kernel)) rfl
theorem wc_X3_set : Cond.code yX3_set cX3_set 4 (some .int) ∈ lwg := lwg_of (List.mem_of_getElem? (i := 302) (by decide +kernel)) rfl
theorem wm_X3_set : Cond.instanceMethod yX3_set ∈ lwg := lwg_of (List.mem_of_getElem? (i := 300) (by decide +kernel)) rfl
theorem ws_X3_set : Cond.selects RX3 yX3_set yX3_set ∈ lwg := lwg_of (List.mem_of_getElem? (i := 301) (by decide +kernel)) rfl
theorem wc_X3_count : Cond.code yX3_count cX3_count 2 (some .int) ∈ lwg := lwg_of (List.mem_of_getElem? (i := 306) (by decide +kernel)) rfl
theorem wm_X3_count : Cond.instanceMethod yX3_count ∈ lwg := lwg_of (List.mem_of_getElem? (i := 304) (by decide +kernel)) rfl
theorem ws_X3_count : Cond.selects RX3 yX3_count yX3_count ∈ lwg := lwg_of (List.mem_of_getElem? (i := 305) (by decide +kernel)) rfl
theorem wc_X3_of : Cond.code yX3_of cX3_of 4 (some .int) ∈ lwg := lwg_of (List.mem_of_getElem? (i := 606) (by decide +kernel)) rfl
theorem wm_X3_of : Cond.instanceMethod yX3_of ∈ lwg := lwg_of (List.mem_of_getElem? (i := 604) (by decide +kernel)) rfl
theorem ws_X3_of : Cond.selects RX3 yX3_of yX3_of ∈ lwg := lwg_of (List.mem_of_getElem? (i := 605) (by decide +kernel)) rfl
theorem wc_X3_rank : Cond.code yX3_rank cX3_rank 3 (some .int) ∈ lwg := lwg_of (List.mem_of_getElem? (i := 380) (by decide +kernel)) rfl
theorem wm_X3_rank : Cond.instanceMethod yX3_rank ∈ lwg := lwg_of (List.mem_of_getElem? (i := 378) (by decide +kernel)) rfl
theorem ws_X3_rank : Cond.selects RX3 yX3_rank yX3_rank ∈ lwg := lwg_of (List.mem_of_getElem? (i := 379) (by decide +kernel)) rfl
theorem wc_X3_can : Cond.code yX3_can cX3_can 3 (some .int) ∈ lwg := lwg_of (List.mem_of_getElem? (i := 384) (by decide +kernel)) rfl
theorem wm_X3_can : Cond.instanceMethod yX3_can ∈ lwg := lwg_of (List.mem_of_getElem? (i := 382) (by decide +kernel)) rfl
theorem ws_X3_can : Cond.selects RX3 yX3_can yX3_can ∈ lwg := lwg_of (List.mem_of_getElem? (i := 383) (by decide +kernel)) rfl
theorem wc_X3_week : Cond.code yX3_week cX3_week 3 (some .int) ∈ lwg := lwg_of (List.mem_of_getElem? (i := 388) (by decide +kernel)) rfl
theorem wm_X3_week : Cond.instanceMethod yX3_week ∈ lwg := lwg_of (List.mem_of_getElem? (i := 386) (by decide +kernel)) rfl
theorem ws_X3_week : Cond.selects RX3 yX3_week yX3_week ∈ lwg := lwg_of (List.mem_of_getElem? (i := 387) (by decide +kernel)) rfl
theorem wc_X3_put : Cond.code yX3_put cX3_put 3 (some .boolean) ∈ lwg := lwg_of (List.mem_of_getElem? (i := 393) (by decide +kernel)) rfl
theorem wm_X3_put : Cond.instanceMethod yX3_put ∈ lwg := lwg_of (List.mem_of_getElem? (i := 391) (by decide +kernel)) rfl
theorem ws_X3_put : Cond.selects RX3 yX3_put yX3_put ∈ lwg := lwg_of (List.mem_of_getElem? (i := 392) (by decide +kernel)) rfl
theorem wc_X3_wrong : Cond.code yX3_wrong cX3_wrong 2 (some .int) ∈ lwg := lwg_of (List.mem_of_getElem? (i := 397) (by decide +kernel)) rfl
theorem wm_X3_wrong : Cond.instanceMethod yX3_wrong ∈ lwg := lwg_of (List.mem_of_getElem? (i := 395) (by decide +kernel)) rfl
theorem ws_X3_wrong : Cond.selects RX3 yX3_wrong yX3_wrong ∈ lwg := lwg_of (List.mem_of_getElem? (i := 396) (by decide +kernel)) rfl
theorem wc_X3_best : Cond.code yX3_best cX3_best 1 (some .int) ∈ lwg := lwg_of (List.mem_of_getElem? (i := 405) (by decide +kernel)) rfl
theorem wm_X3_best : Cond.instanceMethod yX3_best ∈ lwg := lwg_of (List.mem_of_getElem? (i := 403) (by decide +kernel)) rfl
theorem ws_X3_best : Cond.selects RX3 yX3_best yX3_best ∈ lwg := lwg_of (List.mem_of_getElem? (i := 404) (by decide +kernel)) rfl
theorem wc_X3_mend : Cond.code yX3_mend cX3_mend 1 (some .int) ∈ lwg := lwg_of (List.mem_of_getElem? (i := 472) (by decide +kernel)) rfl
theorem wm_X3_mend : Cond.instanceMethod yX3_mend ∈ lwg := lwg_of (List.mem_of_getElem? (i := 470) (by decide +kernel)) rfl
theorem ws_X3_mend : Cond.selects RX3 yX3_mend yX3_mend ∈ lwg := lwg_of (List.mem_of_getElem? (i := 471) (by decide +kernel)) rfl
theorem wc_X3_trade : Cond.code yX3_trade cX3_trade 3 (some .int) ∈ lwg := lwg_of (List.mem_of_getElem? (i := 476) (by decide +kernel)) rfl
theorem wm_X3_trade : Cond.instanceMethod yX3_trade ∈ lwg := lwg_of (List.mem_of_getElem? (i := 474) (by decide +kernel)) rfl
theorem ws_X3_trade : Cond.selects RX3 yX3_trade yX3_trade ∈ lwg := lwg_of (List.mem_of_getElem? (i := 475) (by decide +kernel)) rfl
theorem wc_X3_blocks : Cond.code yX3_blocks cX3_blocks 3 (some .int) ∈ lwg := lwg_of (List.mem_of_getElem? (i := 508) (by decide +kernel)) rfl
theorem wm_X3_blocks : Cond.instanceMethod yX3_blocks ∈ lwg := lwg_of (List.mem_of_getElem? (i := 506) (by decide +kernel)) rfl
theorem ws_X3_blocks : Cond.selects RX3 yX3_blocks yX3_blocks ∈ lwg := lwg_of (List.mem_of_getElem? (i := 507) (by decide +kernel)) rfl
theorem wc_X3_ring : Cond.code yX3_ring cX3_ring 5 (some .int) ∈ lwg := lwg_of (List.mem_of_getElem? (i := 539) (by decide +kernel)) rfl
theorem wm_X3_ring : Cond.instanceMethod yX3_ring ∈ lwg := lwg_of (List.mem_of_getElem? (i := 537) (by decide +kernel)) rfl
theorem ws_X3_ring : Cond.selects RX3 yX3_ring yX3_ring ∈ lwg := lwg_of (List.mem_of_getElem? (i := 538) (by decide +kernel)) rfl
theorem wc_X3_chain : Cond.code yX3_chain cX3_chain 3 (some .int) ∈ lwg := lwg_of (List.mem_of_getElem? (i := 543) (by decide +kernel)) rfl
theorem wm_X3_chain : Cond.instanceMethod yX3_chain ∈ lwg := lwg_of (List.mem_of_getElem? (i := 541) (by decide +kernel)) rfl
theorem ws_X3_chain : Cond.selects RX3 yX3_chain yX3_chain ∈ lwg := lwg_of (List.mem_of_getElem? (i := 542) (by decide +kernel)) rfl
theorem wc_X3_travel : Cond.code yX3_travel cX3_travel 2 (some .int) ∈ lwg := lwg_of (List.mem_of_getElem? (i := 578) (by decide +kernel)) rfl
theorem wm_X3_travel : Cond.instanceMethod yX3_travel ∈ lwg := lwg_of (List.mem_of_getElem? (i := 576) (by decide +kernel)) rfl
theorem ws_X3_travel : Cond.selects RX3 yX3_travel yX3_travel ∈ lwg := lwg_of (List.mem_of_getElem? (i := 577) (by decide +kernel)) rfl
theorem wc_X3_book : Cond.code yX3_book cX3_book 3 (some .int) ∈ lwg := lwg_of (List.mem_of_getElem? (i := 586) (by decide +kernel)) rfl
theorem wm_X3_book : Cond.instanceMethod yX3_book ∈ lwg := lwg_of (List.mem_of_getElem? (i := 584) (by decide +kernel)) rfl
theorem ws_X3_book : Cond.selects RX3 yX3_book yX3_book ∈ lwg := lwg_of (List.mem_of_getElem? (i := 585) (by decide +kernel)) rfl
theorem wc_X3_went : Cond.code yX3_went cX3_went 3 (some .int) ∈ lwg := lwg_of (List.mem_of_getElem? (i := 594) (by decide +kernel)) rfl
theorem wm_X3_went : Cond.instanceMethod yX3_went ∈ lwg := lwg_of (List.mem_of_getElem? (i := 592) (by decide +kernel)) rfl
theorem ws_X3_went : Cond.selects RX3 yX3_went yX3_went ∈ lwg := lwg_of (List.mem_of_getElem? (i := 593) (by decide +kernel)) rfl
theorem wc_X3_undo : Cond.code yX3_undo cX3_undo 2 (some .int) ∈ lwg := lwg_of (List.mem_of_getElem? (i := 598) (by decide +kernel)) rfl
theorem wm_X3_undo : Cond.instanceMethod yX3_undo ∈ lwg := lwg_of (List.mem_of_getElem? (i := 596) (by decide +kernel)) rfl
theorem ws_X3_undo : Cond.selects RX3 yX3_undo yX3_undo ∈ lwg := lwg_of (List.mem_of_getElem? (i := 597) (by decide +kernel)) rfl
theorem wc_X3_row : Cond.code yX3_row cX3_row 2 (some .int) ∈ lwg := lwg_of (List.mem_of_getElem? (i := 684) (by decide +kernel)) rfl
theorem wm_X3_row : Cond.instanceMethod yX3_row ∈ lwg := lwg_of (List.mem_of_getElem? (i := 682) (by decide +kernel)) rfl
theorem ws_X3_row : Cond.selects RX3 yX3_row yX3_row ∈ lwg := lwg_of (List.mem_of_getElem? (i := 683) (by decide +kernel)) rfl
theorem wc_X3_keepRow : Cond.code yX3_keepRow cX3_keepRow 2 none ∈ lwg := lwg_of (List.mem_of_getElem? (i := 535) (by decide +kernel)) rfl
theorem wm_X3_keepRow : Cond.instanceMethod yX3_keepRow ∈ lwg := lwg_of (List.mem_of_getElem? (i := 534) (by decide +kernel)) rfl
theorem ws_X3_keepRow : Cond.selects RX3 yX3_keepRow yX3_keepRow ∈ lwg := lwg_of (List.mem_of_getElem? (i := 35) (by decide +kernel)) rfl
theorem wc_X3_isOneToNine : Cond.code yX3_isOneToNine cX3_isOneToNine 1 (some .boolean) ∈ lwg := lwg_of (List.mem_of_getElem? (i := 246) (by decide +kernel)) rfl
theorem wt_X3_isOneToNine : Cond.static yX3_isOneToNine ∈ lwg := lwg_of (List.mem_of_getElem? (i := 245) (by decide +kernel)) rfl
theorem wc_X3_isFamily : Cond.code yX3_isFamily cX3_isFamily 2 (some .boolean) ∈ lwg := lwg_of (List.mem_of_getElem? (i := 258) (by decide +kernel)) rfl
theorem wm_X3_isFamily : Cond.instanceMethod yX3_isFamily ∈ lwg := lwg_of (List.mem_of_getElem? (i := 257) (by decide +kernel)) rfl
theorem ws_X3_isFamily : Cond.selects RX3 yX3_isFamily yX3_isFamily ∈ lwg := lwg_of (List.mem_of_getElem? (i := 0) (by decide +kernel)) rfl
theorem wc_X3_areTwo : Cond.code yX3_areTwo cX3_areTwo 3 (some .boolean) ∈ lwg := lwg_of (List.mem_of_getElem? (i := 270) (by decide +kernel)) rfl
theorem wm_X3_areTwo : Cond.instanceMethod yX3_areTwo ∈ lwg := lwg_of (List.mem_of_getElem? (i := 269) (by decide +kernel)) rfl
theorem ws_X3_areTwo : Cond.selects RX3 yX3_areTwo yX3_areTwo ∈ lwg := lwg_of (List.mem_of_getElem? (i := 2) (by decide +kernel)) rfl
theorem wc_X3_canBecomeWish : Cond.code yX3_canBecomeWish cX3_canBecomeWish 3 (some .boolean) ∈ lwg := lwg_of (List.mem_of_getElem? (i := 266) (by decide +kernel)) rfl
theorem wm_X3_canBecomeWish : Cond.instanceMethod yX3_canBecomeWish ∈ lwg := lwg_of (List.mem_of_getElem? (i := 265) (by decide +kernel)) rfl
theorem ws_X3_canBecomeWish : Cond.selects RX3 yX3_canBecomeWish yX3_canBecomeWish ∈ lwg := lwg_of (List.mem_of_getElem? (i := 1) (by decide +kernel)) rfl
theorem wc_X3_copySheet : Cond.code yX3_copySheet cX3_copySheet 9 none ∈ lwg := lwg_of (List.mem_of_getElem? (i := 286) (by decide +kernel)) rfl
theorem wm_X3_copySheet : Cond.instanceMethod yX3_copySheet ∈ lwg := lwg_of (List.mem_of_getElem? (i := 285) (by decide +kernel)) rfl
theorem ws_X3_copySheet : Cond.selects RX3 yX3_copySheet yX3_copySheet ∈ lwg := lwg_of (List.mem_of_getElem? (i := 3) (by decide +kernel)) rfl
theorem wc_X3_hindrance : Cond.code yX3_hindrance cX3_hindrance 5 (some .int) ∈ lwg := lwg_of (List.mem_of_getElem? (i := 330) (by decide +kernel)) rfl
theorem wm_X3_hindrance : Cond.instanceMethod yX3_hindrance ∈ lwg := lwg_of (List.mem_of_getElem? (i := 329) (by decide +kernel)) rfl
theorem ws_X3_hindrance : Cond.selects RX3 yX3_hindrance yX3_hindrance ∈ lwg := lwg_of (List.mem_of_getElem? (i := 9) (by decide +kernel)) rfl
theorem wc_X3_takes : Cond.code yX3_takes cX3_takes 3 (some .boolean) ∈ lwg := lwg_of (List.mem_of_getElem? (i := 326) (by decide +kernel)) rfl
theorem wm_X3_takes : Cond.instanceMethod yX3_takes ∈ lwg := lwg_of (List.mem_of_getElem? (i := 325) (by decide +kernel)) rfl
theorem ws_X3_takes : Cond.selects RX3 yX3_takes yX3_takes ∈ lwg := lwg_of (List.mem_of_getElem? (i := 8) (by decide +kernel)) rfl
theorem wc_X3_countTaken : Cond.code yX3_countTaken cX3_countTaken 4 (some .int) ∈ lwg := lwg_of (List.mem_of_getElem? (i := 676) (by decide +kernel)) rfl
theorem wm_X3_countTaken : Cond.instanceMethod yX3_countTaken ∈ lwg := lwg_of (List.mem_of_getElem? (i := 675) (by decide +kernel)) rfl
theorem ws_X3_countTaken : Cond.selects RX3 yX3_countTaken yX3_countTaken ∈ lwg := lwg_of (List.mem_of_getElem? (i := 44) (by decide +kernel)) rfl
theorem wc_X3_countPresent : Cond.code yX3_countPresent cX3_countPresent 3 (some .int) ∈ lwg := lwg_of (List.mem_of_getElem? (i := 310) (by decide +kernel)) rfl
theorem wm_X3_countPresent : Cond.instanceMethod yX3_countPresent ∈ lwg := lwg_of (List.mem_of_getElem? (i := 309) (by decide +kernel)) rfl
theorem ws_X3_countPresent : Cond.selects RX3 yX3_countPresent yX3_countPresent ∈ lwg := lwg_of (List.mem_of_getElem? (i := 4) (by decide +kernel)) rfl
theorem wc_X3_countGoing : Cond.code yX3_countGoing cX3_countGoing 3 (some .int) ∈ lwg := lwg_of (List.mem_of_getElem? (i := 314) (by decide +kernel)) rfl
theorem wm_X3_countGoing : Cond.instanceMethod yX3_countGoing ∈ lwg := lwg_of (List.mem_of_getElem? (i := 313) (by decide +kernel)) rfl
theorem ws_X3_countGoing : Cond.selects RX3 yX3_countGoing yX3_countGoing ∈ lwg := lwg_of (List.mem_of_getElem? (i := 5) (by decide +kernel)) rfl
theorem wc_X3_planRank : Cond.code yX3_planRank cX3_planRank 2 (some .int) ∈ lwg := lwg_of (List.mem_of_getElem? (i := 376) (by decide +kernel)) rfl
theorem wm_X3_planRank : Cond.instanceMethod yX3_planRank ∈ lwg := lwg_of (List.mem_of_getElem? (i := 375) (by decide +kernel)) rfl
theorem ws_X3_planRank : Cond.selects RX3 yX3_planRank yX3_planRank ∈ lwg := lwg_of (List.mem_of_getElem? (i := 15) (by decide +kernel)) rfl
theorem wc_X3_sumOfRanks : Cond.code yX3_sumOfRanks cX3_sumOfRanks 3 (some .int) ∈ lwg := lwg_of (List.mem_of_getElem? (i := 372) (by decide +kernel)) rfl
theorem wm_X3_sumOfRanks : Cond.instanceMethod yX3_sumOfRanks ∈ lwg := lwg_of (List.mem_of_getElem? (i := 371) (by decide +kernel)) rfl
theorem ws_X3_sumOfRanks : Cond.selects RX3 yX3_sumOfRanks yX3_sumOfRanks ∈ lwg := lwg_of (List.mem_of_getElem? (i := 14) (by decide +kernel)) rfl
theorem wc_X3_firstGuest : Cond.code yX3_firstGuest cX3_firstGuest 3 (some .int) ∈ lwg := lwg_of (List.mem_of_getElem? (i := 360) (by decide +kernel)) rfl
theorem wm_X3_firstGuest : Cond.instanceMethod yX3_firstGuest ∈ lwg := lwg_of (List.mem_of_getElem? (i := 359) (by decide +kernel)) rfl
theorem ws_X3_firstGuest : Cond.selects RX3 yX3_firstGuest yX3_firstGuest ∈ lwg := lwg_of (List.mem_of_getElem? (i := 11) (by decide +kernel)) rfl
theorem wc_X3_isLiked : Cond.code yX3_isLiked cX3_isLiked 4 (some .boolean) ∈ lwg := lwg_of (List.mem_of_getElem? (i := 516) (by decide +kernel)) rfl
theorem wm_X3_isLiked : Cond.instanceMethod yX3_isLiked ∈ lwg := lwg_of (List.mem_of_getElem? (i := 515) (by decide +kernel)) rfl
theorem ws_X3_isLiked : Cond.selects RX3 yX3_isLiked yX3_isLiked ∈ lwg := lwg_of (List.mem_of_getElem? (i := 33) (by decide +kernel)) rfl
theorem wc_X3_faultOfClosing : Cond.code yX3_faultOfClosing cX3_faultOfClosing 2 (some .int) ∈ lwg := lwg_of (List.mem_of_getElem? (i := 322) (by decide +kernel)) rfl
theorem wm_X3_faultOfClosing : Cond.instanceMethod yX3_faultOfClosing ∈ lwg := lwg_of (List.mem_of_getElem? (i := 321) (by decide +kernel)) rfl
theorem ws_X3_faultOfClosing : Cond.selects RX3 yX3_faultOfClosing yX3_faultOfClosing ∈ lwg := lwg_of (List.mem_of_getElem? (i := 7) (by decide +kernel)) rfl
theorem wc_X3_hasRival : Cond.code yX3_hasRival cX3_hasRival 3 (some .boolean) ∈ lwg := lwg_of (List.mem_of_getElem? (i := 356) (by decide +kernel)) rfl
theorem wm_X3_hasRival : Cond.instanceMethod yX3_hasRival ∈ lwg := lwg_of (List.mem_of_getElem? (i := 355) (by decide +kernel)) rfl
theorem ws_X3_hasRival : Cond.selects RX3 yX3_hasRival yX3_hasRival ∈ lwg := lwg_of (List.mem_of_getElem? (i := 10) (by decide +kernel)) rfl
theorem wc_X3_faultOfLength : Cond.code yX3_faultOfLength cX3_faultOfLength 2 (some .int) ∈ lwg := lwg_of (List.mem_of_getElem? (i := 401) (by decide +kernel)) rfl
theorem wm_X3_faultOfLength : Cond.instanceMethod yX3_faultOfLength ∈ lwg := lwg_of (List.mem_of_getElem? (i := 400) (by decide +kernel)) rfl
theorem ws_X3_faultOfLength : Cond.selects RX3 yX3_faultOfLength yX3_faultOfLength ∈ lwg := lwg_of (List.mem_of_getElem? (i := 16) (by decide +kernel)) rfl
theorem wc_X3_ringLength : Cond.code yX3_ringLength cX3_ringLength 4 (some .int) ∈ lwg := lwg_of (List.mem_of_getElem? (i := 368) (by decide +kernel)) rfl
theorem wm_X3_ringLength : Cond.instanceMethod yX3_ringLength ∈ lwg := lwg_of (List.mem_of_getElem? (i := 367) (by decide +kernel)) rfl
theorem ws_X3_ringLength : Cond.selects RX3 yX3_ringLength yX3_ringLength ∈ lwg := lwg_of (List.mem_of_getElem? (i := 13) (by decide +kernel)) rfl
theorem wc_X3_countRings : Cond.code yX3_countRings cX3_countRings 3 (some .int) ∈ lwg := lwg_of (List.mem_of_getElem? (i := 318) (by decide +kernel)) rfl
theorem wm_X3_countRings : Cond.instanceMethod yX3_countRings ∈ lwg := lwg_of (List.mem_of_getElem? (i := 317) (by decide +kernel)) rfl
theorem ws_X3_countRings : Cond.selects RX3 yX3_countRings yX3_countRings ∈ lwg := lwg_of (List.mem_of_getElem? (i := 6) (by decide +kernel)) rfl
theorem wc_X3_isLeastOfRing : Cond.code yX3_isLeastOfRing cX3_isLeastOfRing 5 (some .boolean) ∈ lwg := lwg_of (List.mem_of_getElem? (i := 364) (by decide +kernel)) rfl
theorem wm_X3_isLeastOfRing : Cond.instanceMethod yX3_isLeastOfRing ∈ lwg := lwg_of (List.mem_of_getElem? (i := 363) (by decide +kernel)) rfl
theorem ws_X3_isLeastOfRing : Cond.selects RX3 yX3_isLeastOfRing yX3_isLeastOfRing ∈ lwg := lwg_of (List.mem_of_getElem? (i := 12) (by decide +kernel)) rfl
theorem wc_X3_clearPlan : Cond.code yX3_clearPlan cX3_clearPlan 2 none ∈ lwg := lwg_of (List.mem_of_getElem? (i := 480) (by decide +kernel)) rfl
theorem wm_X3_clearPlan : Cond.instanceMethod yX3_clearPlan ∈ lwg := lwg_of (List.mem_of_getElem? (i := 479) (by decide +kernel)) rfl
theorem ws_X3_clearPlan : Cond.selects RX3 yX3_clearPlan yX3_clearPlan ∈ lwg := lwg_of (List.mem_of_getElem? (i := 26) (by decide +kernel)) rfl
theorem wc_X3_planRings : Cond.code yX3_planRings cX3_planRings 5 (some .int) ∈ lwg := lwg_of (List.mem_of_getElem? (i := 409) (by decide +kernel)) rfl
theorem wm_X3_planRings : Cond.instanceMethod yX3_planRings ∈ lwg := lwg_of (List.mem_of_getElem? (i := 408) (by decide +kernel)) rfl
theorem ws_X3_planRings : Cond.selects RX3 yX3_planRings yX3_planRings ∈ lwg := lwg_of (List.mem_of_getElem? (i := 17) (by decide +kernel)) rfl
