section
-- ===== PART A: goes FIRST, ahead of the names: the tables' words, and 'selects' of the private methods out of them =====
/-- a private method of a class that the tables say can be made, by its rows of tables_1 -/
def lw_okq (q : MethodName × Nat) : Prop := (q.1.cls ≠ "java/lang/invoke/MethodHandle" ∧ q.1.cls ≠ "java/lang/invoke/VarHandle") ∧ Cond.instantiable q.1.cls q.2 ∈ tables_1 ∧ Cond.privateMethod q.1 ∈ tables_1 ∧ Cond.instanceMethod q.1 ∈ tables_1
theorem lw_p0 : lw_okq (⟨"HomeRings", "isFamily", "(I)Z"⟩, 14) := ⟨⟨by decide +kernel, by decide +kernel⟩, List.mem_of_getElem? (i := 13) (by decide +kernel), List.mem_of_getElem? (i := 183) (by decide +kernel), List.mem_of_getElem? (i := 184) (by decide +kernel)⟩
theorem lw_p1 : lw_okq (⟨"HomeRings", "canBecomeWish", "(II)Z"⟩, 14) := ⟨⟨by decide +kernel, by decide +kernel⟩, List.mem_of_getElem? (i := 13) (by decide +kernel), List.mem_of_getElem? (i := 191) (by decide +kernel), List.mem_of_getElem? (i := 192) (by decide +kernel)⟩
theorem lw_p2 : lw_okq (⟨"HomeRings", "areTwo", "(II)Z"⟩, 14) := ⟨⟨by decide +kernel, by decide +kernel⟩, List.mem_of_getElem? (i := 13) (by decide +kernel), List.mem_of_getElem? (i := 195) (by decide +kernel), List.mem_of_getElem? (i := 196) (by decide +kernel)⟩
theorem lw_p3 : lw_okq (⟨"HomeRings", "copySheet", "(IZIII)V"⟩, 14) := ⟨⟨by decide +kernel, by decide +kernel⟩, List.mem_of_getElem? (i := 13) (by decide +kernel), List.mem_of_getElem? (i := 211) (by decide +kernel), List.mem_of_getElem? (i := 212) (by decide +kernel)⟩
theorem lw_p4 : lw_okq (⟨"HomeRings", "countPresent", "()I"⟩, 14) := ⟨⟨by decide +kernel, by decide +kernel⟩, List.mem_of_getElem? (i := 13) (by decide +kernel), List.mem_of_getElem? (i := 235) (by decide +kernel), List.mem_of_getElem? (i := 236) (by decide +kernel)⟩
theorem lw_p5 : lw_okq (⟨"HomeRings", "countGoing", "()I"⟩, 14) := ⟨⟨by decide +kernel, by decide +kernel⟩, List.mem_of_getElem? (i := 13) (by decide +kernel), List.mem_of_getElem? (i := 239) (by decide +kernel), List.mem_of_getElem? (i := 240) (by decide +kernel)⟩
theorem lw_p6 : lw_okq (⟨"HomeRings", "countRings", "()I"⟩, 14) := ⟨⟨by decide +kernel, by decide +kernel⟩, List.mem_of_getElem? (i := 13) (by decide +kernel), List.mem_of_getElem? (i := 243) (by decide +kernel), List.mem_of_getElem? (i := 244) (by decide +kernel)⟩
theorem lw_p7 : lw_okq (⟨"HomeRings", "faultOfClosing", "()I"⟩, 14) := ⟨⟨by decide +kernel, by decide +kernel⟩, List.mem_of_getElem? (i := 13) (by decide +kernel), List.mem_of_getElem? (i := 247) (by decide +kernel), List.mem_of_getElem? (i := 248) (by decide +kernel)⟩
theorem lw_p8 : lw_okq (⟨"HomeRings", "takes", "(II)Z"⟩, 14) := ⟨⟨by decide +kernel, by decide +kernel⟩, List.mem_of_getElem? (i := 13) (by decide +kernel), List.mem_of_getElem? (i := 251) (by decide +kernel), List.mem_of_getElem? (i := 252) (by decide +kernel)⟩
theorem lw_p9 : lw_okq (⟨"HomeRings", "hindrance", "(II)I"⟩, 14) := ⟨⟨by decide +kernel, by decide +kernel⟩, List.mem_of_getElem? (i := 13) (by decide +kernel), List.mem_of_getElem? (i := 255) (by decide +kernel), List.mem_of_getElem? (i := 256) (by decide +kernel)⟩
theorem lw_p10 : lw_okq (⟨"HomeRings", "hasRival", "(I)Z"⟩, 14) := ⟨⟨by decide +kernel, by decide +kernel⟩, List.mem_of_getElem? (i := 13) (by decide +kernel), List.mem_of_getElem? (i := 281) (by decide +kernel), List.mem_of_getElem? (i := 282) (by decide +kernel)⟩
theorem lw_p11 : lw_okq (⟨"HomeRings", "firstGuest", "(I)I"⟩, 14) := ⟨⟨by decide +kernel, by decide +kernel⟩, List.mem_of_getElem? (i := 13) (by decide +kernel), List.mem_of_getElem? (i := 285) (by decide +kernel), List.mem_of_getElem? (i := 286) (by decide +kernel)⟩
theorem lw_p12 : lw_okq (⟨"HomeRings", "isLeastOfRing", "(I)Z"⟩, 14) := ⟨⟨by decide +kernel, by decide +kernel⟩, List.mem_of_getElem? (i := 13) (by decide +kernel), List.mem_of_getElem? (i := 289) (by decide +kernel), List.mem_of_getElem? (i := 290) (by decide +kernel)⟩
theorem lw_p13 : lw_okq (⟨"HomeRings", "ringLength", "(I)I"⟩, 14) := ⟨⟨by decide +kernel, by decide +kernel⟩, List.mem_of_getElem? (i := 13) (by decide +kernel), List.mem_of_getElem? (i := 293) (by decide +kernel), List.mem_of_getElem? (i := 294) (by decide +kernel)⟩
theorem lw_p14 : lw_okq (⟨"HomeRings", "sumOfRanks", "()I"⟩, 14) := ⟨⟨by decide +kernel, by decide +kernel⟩, List.mem_of_getElem? (i := 13) (by decide +kernel), List.mem_of_getElem? (i := 297) (by decide +kernel), List.mem_of_getElem? (i := 298) (by decide +kernel)⟩
theorem lw_p15 : lw_okq (⟨"HomeRings", "planRank", "(I)I"⟩, 14) := ⟨⟨by decide +kernel, by decide +kernel⟩, List.mem_of_getElem? (i := 13) (by decide +kernel), List.mem_of_getElem? (i := 301) (by decide +kernel), List.mem_of_getElem? (i := 302) (by decide +kernel)⟩
def lw_privs_1 : List (MethodName × Nat) := [(⟨"HomeRings", "isFamily", "(I)Z"⟩, 14), (⟨"HomeRings", "canBecomeWish", "(II)Z"⟩, 14), (⟨"HomeRings", "areTwo", "(II)Z"⟩, 14), (⟨"HomeRings", "copySheet", "(IZIII)V"⟩, 14), (⟨"HomeRings", "countPresent", "()I"⟩, 14), (⟨"HomeRings", "countGoing", "()I"⟩, 14), (⟨"HomeRings", "countRings", "()I"⟩, 14), (⟨"HomeRings", "faultOfClosing", "()I"⟩, 14), (⟨"HomeRings", "takes", "(II)Z"⟩, 14), (⟨"HomeRings", "hindrance", "(II)I"⟩, 14), (⟨"HomeRings", "hasRival", "(I)Z"⟩, 14), (⟨"HomeRings", "firstGuest", "(I)I"⟩, 14), (⟨"HomeRings", "isLeastOfRing", "(I)Z"⟩, 14), (⟨"HomeRings", "ringLength", "(I)I"⟩, 14), (⟨"HomeRings", "sumOfRanks", "()I"⟩, 14), (⟨"HomeRings", "planRank", "(I)I"⟩, 14)]
theorem lw_r1 : ∀ q ∈ lw_privs_1, lw_okq q := List.forall_mem_cons.mpr ⟨lw_p0, List.forall_mem_cons.mpr ⟨lw_p1, List.forall_mem_cons.mpr ⟨lw_p2, List.forall_mem_cons.mpr ⟨lw_p3, List.forall_mem_cons.mpr ⟨lw_p4, List.forall_mem_cons.mpr ⟨lw_p5, List.forall_mem_cons.mpr ⟨lw_p6, List.forall_mem_cons.mpr ⟨lw_p7, List.forall_mem_cons.mpr ⟨lw_p8, List.forall_mem_cons.mpr ⟨lw_p9, List.forall_mem_cons.mpr ⟨lw_p10, List.forall_mem_cons.mpr ⟨lw_p11, List.forall_mem_cons.mpr ⟨lw_p12, List.forall_mem_cons.mpr ⟨lw_p13, List.forall_mem_cons.mpr ⟨lw_p14, List.forall_mem_cons.mpr ⟨lw_p15, fun _ h => absurd h List.not_mem_nil⟩⟩⟩⟩⟩⟩⟩⟩⟩⟩⟩⟩⟩⟩⟩⟩
theorem lw_p16 : lw_okq (⟨"HomeRings", "faultOfLength", "()I"⟩, 14) := ⟨⟨by decide +kernel, by decide +kernel⟩, List.mem_of_getElem? (i := 13) (by decide +kernel), List.mem_of_getElem? (i := 326) (by decide +kernel), List.mem_of_getElem? (i := 327) (by decide +kernel)⟩
theorem lw_p17 : lw_okq (⟨"HomeRings", "planRings", "(I)I"⟩, 14) := ⟨⟨by decide +kernel, by decide +kernel⟩, List.mem_of_getElem? (i := 13) (by decide +kernel), List.mem_of_getElem? (i := 334) (by decide +kernel), List.mem_of_getElem? (i := 335) (by decide +kernel)⟩
theorem lw_p18 : lw_okq (⟨"HomeRings$RingSearch", "findRings", "(I)V"⟩, 6) := ⟨⟨by decide +kernel, by decide +kernel⟩, List.mem_of_getElem? (i := 23) (by decide +kernel), List.mem_of_getElem? (i := 352) (by decide +kernel), List.mem_of_getElem? (i := 353) (by decide +kernel)⟩
theorem lw_p19 : lw_okq (⟨"HomeRings$RingSearch", "openWays", "(I)V"⟩, 6) := ⟨⟨by decide +kernel, by decide +kernel⟩, List.mem_of_getElem? (i := 23) (by decide +kernel), List.mem_of_getElem? (i := 356) (by decide +kernel), List.mem_of_getElem? (i := 357) (by decide +kernel)⟩
theorem lw_p20 : lw_okq (⟨"HomeRings$RingSearch", "growWays", "(II)V"⟩, 6) := ⟨⟨by decide +kernel, by decide +kernel⟩, List.mem_of_getElem? (i := 23) (by decide +kernel), List.mem_of_getElem? (i := 360) (by decide +kernel), List.mem_of_getElem? (i := 361) (by decide +kernel)⟩
theorem lw_p21 : lw_okq (⟨"HomeRings$RingSearch", "closeWay", "(III)V"⟩, 6) := ⟨⟨by decide +kernel, by decide +kernel⟩, List.mem_of_getElem? (i := 23) (by decide +kernel), List.mem_of_getElem? (i := 370) (by decide +kernel), List.mem_of_getElem? (i := 371) (by decide +kernel)⟩
theorem lw_p22 : lw_okq (⟨"HomeRings$RingSearch", "growWay", "(III)V"⟩, 6) := ⟨⟨by decide +kernel, by decide +kernel⟩, List.mem_of_getElem? (i := 23) (by decide +kernel), List.mem_of_getElem? (i := 377) (by decide +kernel), List.mem_of_getElem? (i := 378) (by decide +kernel)⟩
theorem lw_p23 : lw_okq (⟨"HomeRings$RingSearch", "settleAll", "()V"⟩, 6) := ⟨⟨by decide +kernel, by decide +kernel⟩, List.mem_of_getElem? (i := 23) (by decide +kernel), List.mem_of_getElem? (i := 381) (by decide +kernel), List.mem_of_getElem? (i := 382) (by decide +kernel)⟩
theorem lw_p24 : lw_okq (⟨"HomeRings$RingSearch", "settleFirst", "(I)V"⟩, 6) := ⟨⟨by decide +kernel, by decide +kernel⟩, List.mem_of_getElem? (i := 23) (by decide +kernel), List.mem_of_getElem? (i := 385) (by decide +kernel), List.mem_of_getElem? (i := 386) (by decide +kernel)⟩
theorem lw_p25 : lw_okq (⟨"HomeRings$RingSearch", "readPlan", "(J[I)I"⟩, 6) := ⟨⟨by decide +kernel, by decide +kernel⟩, List.mem_of_getElem? (i := 23) (by decide +kernel), List.mem_of_getElem? (i := 390) (by decide +kernel), List.mem_of_getElem? (i := 391) (by decide +kernel)⟩
theorem lw_p26 : lw_okq (⟨"HomeRings", "clearPlan", "()V"⟩, 14) := ⟨⟨by decide +kernel, by decide +kernel⟩, List.mem_of_getElem? (i := 13) (by decide +kernel), List.mem_of_getElem? (i := 405) (by decide +kernel), List.mem_of_getElem? (i := 406) (by decide +kernel)⟩
theorem lw_p27 : lw_okq (⟨"HomeRings", "showHomes", "(I)I"⟩, 14) := ⟨⟨by decide +kernel, by decide +kernel⟩, List.mem_of_getElem? (i := 13) (by decide +kernel), List.mem_of_getElem? (i := 409) (by decide +kernel), List.mem_of_getElem? (i := 410) (by decide +kernel)⟩
theorem lw_p28 : lw_okq (⟨"HomeRings", "firstWithoutHome", "(I)I"⟩, 14) := ⟨⟨by decide +kernel, by decide +kernel⟩, List.mem_of_getElem? (i := 13) (by decide +kernel), List.mem_of_getElem? (i := 413) (by decide +kernel), List.mem_of_getElem? (i := 414) (by decide +kernel)⟩
theorem lw_p29 : lw_okq (⟨"HomeRings", "likedMost", "(II)I"⟩, 14) := ⟨⟨by decide +kernel, by decide +kernel⟩, List.mem_of_getElem? (i := 13) (by decide +kernel), List.mem_of_getElem? (i := 417) (by decide +kernel), List.mem_of_getElem? (i := 418) (by decide +kernel)⟩
theorem lw_p30 : lw_okq (⟨"HomeRings", "sendShownRing", "(I)I"⟩, 14) := ⟨⟨by decide +kernel, by decide +kernel⟩, List.mem_of_getElem? (i := 13) (by decide +kernel), List.mem_of_getElem? (i := 421) (by decide +kernel), List.mem_of_getElem? (i := 422) (by decide +kernel)⟩
theorem lw_p31 : lw_okq (⟨"HomeRings", "comesRound", "(I)Z"⟩, 14) := ⟨⟨by decide +kernel, by decide +kernel⟩, List.mem_of_getElem? (i := 13) (by decide +kernel), List.mem_of_getElem? (i := 425) (by decide +kernel), List.mem_of_getElem? (i := 426) (by decide +kernel)⟩
def lw_privs_2 : List (MethodName × Nat) := [(⟨"HomeRings", "faultOfLength", "()I"⟩, 14), (⟨"HomeRings", "planRings", "(I)I"⟩, 14), (⟨"HomeRings$RingSearch", "findRings", "(I)V"⟩, 6), (⟨"HomeRings$RingSearch", "openWays", "(I)V"⟩, 6), (⟨"HomeRings$RingSearch", "growWays", "(II)V"⟩, 6), (⟨"HomeRings$RingSearch", "closeWay", "(III)V"⟩, 6), (⟨"HomeRings$RingSearch", "growWay", "(III)V"⟩, 6), (⟨"HomeRings$RingSearch", "settleAll", "()V"⟩, 6), (⟨"HomeRings$RingSearch", "settleFirst", "(I)V"⟩, 6), (⟨"HomeRings$RingSearch", "readPlan", "(J[I)I"⟩, 6), (⟨"HomeRings", "clearPlan", "()V"⟩, 14), (⟨"HomeRings", "showHomes", "(I)I"⟩, 14), (⟨"HomeRings", "firstWithoutHome", "(I)I"⟩, 14), (⟨"HomeRings", "likedMost", "(II)I"⟩, 14), (⟨"HomeRings", "sendShownRing", "(I)I"⟩, 14), (⟨"HomeRings", "comesRound", "(I)Z"⟩, 14)]
theorem lw_r2 : ∀ q ∈ lw_privs_2, lw_okq q := List.forall_mem_cons.mpr ⟨lw_p16, List.forall_mem_cons.mpr ⟨lw_p17, List.forall_mem_cons.mpr ⟨lw_p18, List.forall_mem_cons.mpr ⟨lw_p19, List.forall_mem_cons.mpr ⟨lw_p20, List.forall_mem_cons.mpr ⟨lw_p21, List.forall_mem_cons.mpr ⟨lw_p22, List.forall_mem_cons.mpr ⟨lw_p23, List.forall_mem_cons.mpr ⟨lw_p24, List.forall_mem_cons.mpr ⟨lw_p25, List.forall_mem_cons.mpr ⟨lw_p26, List.forall_mem_cons.mpr ⟨lw_p27, List.forall_mem_cons.mpr ⟨lw_p28, List.forall_mem_cons.mpr ⟨lw_p29, List.forall_mem_cons.mpr ⟨lw_p30, List.forall_mem_cons.mpr ⟨lw_p31, fun _ h => absurd h List.not_mem_nil⟩⟩⟩⟩⟩⟩⟩⟩⟩⟩⟩⟩⟩⟩⟩⟩
theorem lw_p32 : lw_okq (⟨"HomeRings", "sendAsShown", "(I)I"⟩, 14) := ⟨⟨by decide +kernel, by decide +kernel⟩, List.mem_of_getElem? (i := 13) (by decide +kernel), List.mem_of_getElem? (i := 429) (by decide +kernel), List.mem_of_getElem? (i := 430) (by decide +kernel)⟩
theorem lw_p33 : lw_okq (⟨"HomeRings", "isLiked", "(II)Z"⟩, 14) := ⟨⟨by decide +kernel, by decide +kernel⟩, List.mem_of_getElem? (i := 13) (by decide +kernel), List.mem_of_getElem? (i := 441) (by decide +kernel), List.mem_of_getElem? (i := 442) (by decide +kernel)⟩
theorem lw_p34 : lw_okq (⟨"HomeRings$Ways", "lengthFrom", "(I)I"⟩, 4) := ⟨⟨by decide +kernel, by decide +kernel⟩, List.mem_of_getElem? (i := 51) (by decide +kernel), List.mem_of_getElem? (i := 453) (by decide +kernel), List.mem_of_getElem? (i := 454) (by decide +kernel)⟩
theorem lw_p35 : lw_okq (⟨"HomeRings", "keepRow", "(I)V"⟩, 14) := ⟨⟨by decide +kernel, by decide +kernel⟩, List.mem_of_getElem? (i := 13) (by decide +kernel), List.mem_of_getElem? (i := 460) (by decide +kernel), List.mem_of_getElem? (i := 461) (by decide +kernel)⟩
theorem lw_p36 : lw_okq (⟨"HomeRings", "addChainWaysTo", "(II)V"⟩, 14) := ⟨⟨by decide +kernel, by decide +kernel⟩, List.mem_of_getElem? (i := 13) (by decide +kernel), List.mem_of_getElem? (i := 472) (by decide +kernel), List.mem_of_getElem? (i := 473) (by decide +kernel)⟩
theorem lw_p37 : lw_okq (⟨"HomeRings$Ways", "findStarts", "()V"⟩, 4) := ⟨⟨by decide +kernel, by decide +kernel⟩, List.mem_of_getElem? (i := 51) (by decide +kernel), List.mem_of_getElem? (i := 485) (by decide +kernel), List.mem_of_getElem? (i := 486) (by decide +kernel)⟩
theorem lw_p38 : lw_okq (⟨"HomeRings$Ways", "startsWithin", "(I)I"⟩, 4) := ⟨⟨by decide +kernel, by decide +kernel⟩, List.mem_of_getElem? (i := 51) (by decide +kernel), List.mem_of_getElem? (i := 489) (by decide +kernel), List.mem_of_getElem? (i := 490) (by decide +kernel)⟩
theorem lw_p39 : lw_okq (⟨"HomeRings$Ways", "mostSteps", "(I)I"⟩, 4) := ⟨⟨by decide +kernel, by decide +kernel⟩, List.mem_of_getElem? (i := 51) (by decide +kernel), List.mem_of_getElem? (i := 493) (by decide +kernel), List.mem_of_getElem? (i := 494) (by decide +kernel)⟩
theorem lw_p40 : lw_okq (⟨"HomeRings$Ways", "startsApart", "(II)I"⟩, 4) := ⟨⟨by decide +kernel, by decide +kernel⟩, List.mem_of_getElem? (i := 51) (by decide +kernel), List.mem_of_getElem? (i := 499) (by decide +kernel), List.mem_of_getElem? (i := 500) (by decide +kernel)⟩
theorem lw_p41 : lw_okq (⟨"HomeRings", "pay", "(III)V"⟩, 14) := ⟨⟨by decide +kernel, by decide +kernel⟩, List.mem_of_getElem? (i := 13) (by decide +kernel), List.mem_of_getElem? (i := 507) (by decide +kernel), List.mem_of_getElem? (i := 508) (by decide +kernel)⟩
theorem lw_p42 : lw_okq (⟨"HomeRings", "payPlan", "(I)V"⟩, 14) := ⟨⟨by decide +kernel, by decide +kernel⟩, List.mem_of_getElem? (i := 13) (by decide +kernel), List.mem_of_getElem? (i := 515) (by decide +kernel), List.mem_of_getElem? (i := 516) (by decide +kernel)⟩
theorem lw_p43 : lw_okq (⟨"java/lang/Throwable", "fillInStackTrace", "(I)Ljava/lang/Throwable;"⟩, 6) := ⟨⟨by decide +kernel, by decide +kernel⟩, List.mem_of_getElem? (i := 571) (by decide +kernel), List.mem_of_getElem? (i := 569) (by decide +kernel), List.mem_of_getElem? (i := 570) (by decide +kernel)⟩
theorem lw_p44 : lw_okq (⟨"HomeRings", "countTaken", "(I)I"⟩, 14) := ⟨⟨by decide +kernel, by decide +kernel⟩, List.mem_of_getElem? (i := 13) (by decide +kernel), List.mem_of_getElem? (i := 601) (by decide +kernel), List.mem_of_getElem? (i := 602) (by decide +kernel)⟩
theorem lw_p45 : lw_okq (⟨"HomeRingsModel", "isFamily", "(I)Z"⟩, 36) := ⟨⟨by decide +kernel, by decide +kernel⟩, List.mem_of_getElem? (i := 614) (by decide +kernel), List.mem_of_getElem? (i := 747) (by decide +kernel), List.mem_of_getElem? (i := 748) (by decide +kernel)⟩
theorem lw_p46 : lw_okq (⟨"HomeRingsModel", "areTwo", "(II)Z"⟩, 36) := ⟨⟨by decide +kernel, by decide +kernel⟩, List.mem_of_getElem? (i := 614) (by decide +kernel), List.mem_of_getElem? (i := 756) (by decide +kernel), List.mem_of_getElem? (i := 757) (by decide +kernel)⟩
theorem lw_p47 : lw_okq (⟨"HomeRingsModel", "rankOf", "(II)I"⟩, 36) := ⟨⟨by decide +kernel, by decide +kernel⟩, List.mem_of_getElem? (i := 614) (by decide +kernel), List.mem_of_getElem? (i := 760) (by decide +kernel), List.mem_of_getElem? (i := 761) (by decide +kernel)⟩
def lw_privs_3 : List (MethodName × Nat) := [(⟨"HomeRings", "sendAsShown", "(I)I"⟩, 14), (⟨"HomeRings", "isLiked", "(II)Z"⟩, 14), (⟨"HomeRings$Ways", "lengthFrom", "(I)I"⟩, 4), (⟨"HomeRings", "keepRow", "(I)V"⟩, 14), (⟨"HomeRings", "addChainWaysTo", "(II)V"⟩, 14), (⟨"HomeRings$Ways", "findStarts", "()V"⟩, 4), (⟨"HomeRings$Ways", "startsWithin", "(I)I"⟩, 4), (⟨"HomeRings$Ways", "mostSteps", "(I)I"⟩, 4), (⟨"HomeRings$Ways", "startsApart", "(II)I"⟩, 4), (⟨"HomeRings", "pay", "(III)V"⟩, 14), (⟨"HomeRings", "payPlan", "(I)V"⟩, 14), (⟨"java/lang/Throwable", "fillInStackTrace", "(I)Ljava/lang/Throwable;"⟩, 6), (⟨"HomeRings", "countTaken", "(I)I"⟩, 14), (⟨"HomeRingsModel", "isFamily", "(I)Z"⟩, 36), (⟨"HomeRingsModel", "areTwo", "(II)Z"⟩, 36), (⟨"HomeRingsModel", "rankOf", "(II)I"⟩, 36)]
theorem lw_r3 : ∀ q ∈ lw_privs_3, lw_okq q := List.forall_mem_cons.mpr ⟨lw_p32, List.forall_mem_cons.mpr ⟨lw_p33, List.forall_mem_cons.mpr ⟨lw_p34, List.forall_mem_cons.mpr ⟨lw_p35, List.forall_mem_cons.mpr ⟨lw_p36, List.forall_mem_cons.mpr ⟨lw_p37, List.forall_mem_cons.mpr ⟨lw_p38, List.forall_mem_cons.mpr ⟨lw_p39, List.forall_mem_cons.mpr ⟨lw_p40, List.forall_mem_cons.mpr ⟨lw_p41, List.forall_mem_cons.mpr ⟨lw_p42, List.forall_mem_cons.mpr ⟨lw_p43, List.forall_mem_cons.mpr ⟨lw_p44, List.forall_mem_cons.mpr ⟨lw_p45, List.forall_mem_cons.mpr ⟨lw_p46, List.forall_mem_cons.mpr ⟨lw_p47, fun _ h => absurd h List.not_mem_nil⟩⟩⟩⟩⟩⟩⟩⟩⟩⟩⟩⟩⟩⟩⟩⟩
theorem lw_p48 : lw_okq (⟨"HomeRingsModel", "wants", "(II)V"⟩, 36) := ⟨⟨by decide +kernel, by decide +kernel⟩, List.mem_of_getElem? (i := 614) (by decide +kernel), List.mem_of_getElem? (i := 764) (by decide +kernel), List.mem_of_getElem? (i := 765) (by decide +kernel)⟩
theorem lw_p49 : lw_okq (⟨"HomeRingsModel", "barrier", "(II)I"⟩, 36) := ⟨⟨by decide +kernel, by decide +kernel⟩, List.mem_of_getElem? (i := 614) (by decide +kernel), List.mem_of_getElem? (i := 796) (by decide +kernel), List.mem_of_getElem? (i := 797) (by decide +kernel)⟩
theorem lw_p50 : lw_okq (⟨"HomeRingsModel", "sleeps", "(I)I"⟩, 36) := ⟨⟨by decide +kernel, by decide +kernel⟩, List.mem_of_getElem? (i := 614) (by decide +kernel), List.mem_of_getElem? (i := 800) (by decide +kernel), List.mem_of_getElem? (i := 801) (by decide +kernel)⟩
theorem lw_p51 : lw_okq (⟨"HomeRingsModel", "open", "()I"⟩, 36) := ⟨⟨by decide +kernel, by decide +kernel⟩, List.mem_of_getElem? (i := 614) (by decide +kernel), List.mem_of_getElem? (i := 814) (by decide +kernel), List.mem_of_getElem? (i := 815) (by decide +kernel)⟩
theorem lw_p52 : lw_okq (⟨"HomeRingsModel", "goesAtAll", "(I)Z"⟩, 36) := ⟨⟨by decide +kernel, by decide +kernel⟩, List.mem_of_getElem? (i := 614) (by decide +kernel), List.mem_of_getElem? (i := 818) (by decide +kernel), List.mem_of_getElem? (i := 819) (by decide +kernel)⟩
theorem lw_p53 : lw_okq (⟨"HomeRingsModel", "takes", "(II)Z"⟩, 36) := ⟨⟨by decide +kernel, by decide +kernel⟩, List.mem_of_getElem? (i := 614) (by decide +kernel), List.mem_of_getElem? (i := 822) (by decide +kernel), List.mem_of_getElem? (i := 823) (by decide +kernel)⟩
theorem lw_p54 : lw_okq (⟨"HomeRingsModel", "guest", "(I)I"⟩, 36) := ⟨⟨by decide +kernel, by decide +kernel⟩, List.mem_of_getElem? (i := 614) (by decide +kernel), List.mem_of_getElem? (i := 826) (by decide +kernel), List.mem_of_getElem? (i := 827) (by decide +kernel)⟩
theorem lw_p55 : lw_okq (⟨"HomeRingsModel", "ringOf", "(I)I"⟩, 36) := ⟨⟨by decide +kernel, by decide +kernel⟩, List.mem_of_getElem? (i := 614) (by decide +kernel), List.mem_of_getElem? (i := 830) (by decide +kernel), List.mem_of_getElem? (i := 831) (by decide +kernel)⟩
theorem lw_p56 : lw_okq (⟨"HomeRingsModel", "goers", "()I"⟩, 36) := ⟨⟨by decide +kernel, by decide +kernel⟩, List.mem_of_getElem? (i := 614) (by decide +kernel), List.mem_of_getElem? (i := 838) (by decide +kernel), List.mem_of_getElem? (i := 839) (by decide +kernel)⟩
theorem lw_p57 : lw_okq (⟨"HomeRingsModel", "rings", "()I"⟩, 36) := ⟨⟨by decide +kernel, by decide +kernel⟩, List.mem_of_getElem? (i := 614) (by decide +kernel), List.mem_of_getElem? (i := 842) (by decide +kernel), List.mem_of_getElem? (i := 843) (by decide +kernel)⟩
theorem lw_p58 : lw_okq (⟨"HomeRingsModel", "refuse", "()I"⟩, 36) := ⟨⟨by decide +kernel, by decide +kernel⟩, List.mem_of_getElem? (i := 614) (by decide +kernel), List.mem_of_getElem? (i := 851) (by decide +kernel), List.mem_of_getElem? (i := 852) (by decide +kernel)⟩
theorem lw_p59 : lw_okq (⟨"HomeRingsModel", "worth", "(I)I"⟩, 36) := ⟨⟨by decide +kernel, by decide +kernel⟩, List.mem_of_getElem? (i := 614) (by decide +kernel), List.mem_of_getElem? (i := 855) (by decide +kernel), List.mem_of_getElem? (i := 856) (by decide +kernel)⟩
theorem lw_p60 : lw_okq (⟨"HomeRingsModel", "all", "(Z)V"⟩, 36) := ⟨⟨by decide +kernel, by decide +kernel⟩, List.mem_of_getElem? (i := 614) (by decide +kernel), List.mem_of_getElem? (i := 867) (by decide +kernel), List.mem_of_getElem? (i := 868) (by decide +kernel)⟩
theorem lw_p61 : lw_okq (⟨"HomeRingsModel", "goes", "(IIIII)V"⟩, 36) := ⟨⟨by decide +kernel, by decide +kernel⟩, List.mem_of_getElem? (i := 614) (by decide +kernel), List.mem_of_getElem? (i := 871) (by decide +kernel), List.mem_of_getElem? (i := 872) (by decide +kernel)⟩
theorem lw_p62 : lw_okq (⟨"HomeRingsModel", "mayBe", "(IIII)Z"⟩, 36) := ⟨⟨by decide +kernel, by decide +kernel⟩, List.mem_of_getElem? (i := 614) (by decide +kernel), List.mem_of_getElem? (i := 875) (by decide +kernel), List.mem_of_getElem? (i := 876) (by decide +kernel)⟩
theorem lw_p63 : lw_okq (⟨"HomeRingsModel", "offers", "(III)V"⟩, 36) := ⟨⟨by decide +kernel, by decide +kernel⟩, List.mem_of_getElem? (i := 614) (by decide +kernel), List.mem_of_getElem? (i := 879) (by decide +kernel), List.mem_of_getElem? (i := 880) (by decide +kernel)⟩
def lw_privs_4 : List (MethodName × Nat) := [(⟨"HomeRingsModel", "wants", "(II)V"⟩, 36), (⟨"HomeRingsModel", "barrier", "(II)I"⟩, 36), (⟨"HomeRingsModel", "sleeps", "(I)I"⟩, 36), (⟨"HomeRingsModel", "open", "()I"⟩, 36), (⟨"HomeRingsModel", "goesAtAll", "(I)Z"⟩, 36), (⟨"HomeRingsModel", "takes", "(II)Z"⟩, 36), (⟨"HomeRingsModel", "guest", "(I)I"⟩, 36), (⟨"HomeRingsModel", "ringOf", "(I)I"⟩, 36), (⟨"HomeRingsModel", "goers", "()I"⟩, 36), (⟨"HomeRingsModel", "rings", "()I"⟩, 36), (⟨"HomeRingsModel", "refuse", "()I"⟩, 36), (⟨"HomeRingsModel", "worth", "(I)I"⟩, 36), (⟨"HomeRingsModel", "all", "(Z)V"⟩, 36), (⟨"HomeRingsModel", "goes", "(IIIII)V"⟩, 36), (⟨"HomeRingsModel", "mayBe", "(IIII)Z"⟩, 36), (⟨"HomeRingsModel", "offers", "(III)V"⟩, 36)]
theorem lw_r4 : ∀ q ∈ lw_privs_4, lw_okq q := List.forall_mem_cons.mpr ⟨lw_p48, List.forall_mem_cons.mpr ⟨lw_p49, List.forall_mem_cons.mpr ⟨lw_p50, List.forall_mem_cons.mpr ⟨lw_p51, List.forall_mem_cons.mpr ⟨lw_p52, List.forall_mem_cons.mpr ⟨lw_p53, List.forall_mem_cons.mpr ⟨lw_p54, List.forall_mem_cons.mpr ⟨lw_p55, List.forall_mem_cons.mpr ⟨lw_p56, List.forall_mem_cons.mpr ⟨lw_p57, List.forall_mem_cons.mpr ⟨lw_p58, List.forall_mem_cons.mpr ⟨lw_p59, List.forall_mem_cons.mpr ⟨lw_p60, List.forall_mem_cons.mpr ⟨lw_p61, List.forall_mem_cons.mpr ⟨lw_p62, List.forall_mem_cons.mpr ⟨lw_p63, fun _ h => absurd h List.not_mem_nil⟩⟩⟩⟩⟩⟩⟩⟩⟩⟩⟩⟩⟩⟩⟩⟩
theorem lw_p64 : lw_okq (⟨"HomeRingsModel", "isShort", "(II)Z"⟩, 36) := ⟨⟨by decide +kernel, by decide +kernel⟩, List.mem_of_getElem? (i := 614) (by decide +kernel), List.mem_of_getElem? (i := 883) (by decide +kernel), List.mem_of_getElem? (i := 884) (by decide +kernel)⟩
theorem lw_p65 : lw_okq (⟨"HomeRingsModel", "leaver", "()I"⟩, 36) := ⟨⟨by decide +kernel, by decide +kernel⟩, List.mem_of_getElem? (i := 614) (by decide +kernel), List.mem_of_getElem? (i := 895) (by decide +kernel), List.mem_of_getElem? (i := 896) (by decide +kernel)⟩
theorem lw_p66 : lw_okq (⟨"HomeRingsModel", "firstOf", "(I)I"⟩, 36) := ⟨⟨by decide +kernel, by decide +kernel⟩, List.mem_of_getElem? (i := 614) (by decide +kernel), List.mem_of_getElem? (i := 899) (by decide +kernel), List.mem_of_getElem? (i := 900) (by decide +kernel)⟩
theorem lw_p67 : lw_okq (⟨"HomeRingsModel", "isRound", "(I)Z"⟩, 36) := ⟨⟨by decide +kernel, by decide +kernel⟩, List.mem_of_getElem? (i := 614) (by decide +kernel), List.mem_of_getElem? (i := 903) (by decide +kernel), List.mem_of_getElem? (i := 904) (by decide +kernel)⟩
theorem lw_p68 : lw_okq (⟨"HomeRingsModel", "closes", "(III)Z"⟩, 36) := ⟨⟨by decide +kernel, by decide +kernel⟩, List.mem_of_getElem? (i := 614) (by decide +kernel), List.mem_of_getElem? (i := 911) (by decide +kernel), List.mem_of_getElem? (i := 912) (by decide +kernel)⟩
theorem lw_p69 : lw_okq (⟨"HomeRingsModel", "wouldRather", "(II)Z"⟩, 36) := ⟨⟨by decide +kernel, by decide +kernel⟩, List.mem_of_getElem? (i := 614) (by decide +kernel), List.mem_of_getElem? (i := 915) (by decide +kernel), List.mem_of_getElem? (i := 916) (by decide +kernel)⟩
theorem lw_p70 : lw_okq (⟨"HomeRingsModel", "tells", "(I)I"⟩, 36) := ⟨⟨by decide +kernel, by decide +kernel⟩, List.mem_of_getElem? (i := 614) (by decide +kernel), List.mem_of_getElem? (i := 919) (by decide +kernel), List.mem_of_getElem? (i := 920) (by decide +kernel)⟩
theorem lw_p71 : lw_okq (⟨"HomeRingsModel", "goesOn", "(III)V"⟩, 36) := ⟨⟨by decide +kernel, by decide +kernel⟩, List.mem_of_getElem? (i := 614) (by decide +kernel), List.mem_of_getElem? (i := 931) (by decide +kernel), List.mem_of_getElem? (i := 932) (by decide +kernel)⟩
theorem lw_p72 : lw_okq (⟨"HomeRingsModel", "pays", "(II)V"⟩, 36) := ⟨⟨by decide +kernel, by decide +kernel⟩, List.mem_of_getElem? (i := 614) (by decide +kernel), List.mem_of_getElem? (i := 943) (by decide +kernel), List.mem_of_getElem? (i := 944) (by decide +kernel)⟩
def lw_privs_5 : List (MethodName × Nat) := [(⟨"HomeRingsModel", "isShort", "(II)Z"⟩, 36), (⟨"HomeRingsModel", "leaver", "()I"⟩, 36), (⟨"HomeRingsModel", "firstOf", "(I)I"⟩, 36), (⟨"HomeRingsModel", "isRound", "(I)Z"⟩, 36), (⟨"HomeRingsModel", "closes", "(III)Z"⟩, 36), (⟨"HomeRingsModel", "wouldRather", "(II)Z"⟩, 36), (⟨"HomeRingsModel", "tells", "(I)I"⟩, 36), (⟨"HomeRingsModel", "goesOn", "(III)V"⟩, 36), (⟨"HomeRingsModel", "pays", "(II)V"⟩, 36)]
theorem lw_r5 : ∀ q ∈ lw_privs_5, lw_okq q := List.forall_mem_cons.mpr ⟨lw_p64, List.forall_mem_cons.mpr ⟨lw_p65, List.forall_mem_cons.mpr ⟨lw_p66, List.forall_mem_cons.mpr ⟨lw_p67, List.forall_mem_cons.mpr ⟨lw_p68, List.forall_mem_cons.mpr ⟨lw_p69, List.forall_mem_cons.mpr ⟨lw_p70, List.forall_mem_cons.mpr ⟨lw_p71, List.forall_mem_cons.mpr ⟨lw_p72, fun _ h => absurd h List.not_mem_nil⟩⟩⟩⟩⟩⟩⟩⟩⟩
def lw_privs : List (MethodName × Nat) := lw_privs_1 ++ (lw_privs_2 ++ (lw_privs_3 ++ (lw_privs_4 ++ (lw_privs_5))))
def lw_tbl : List Cond := k2_sels lw_privs ++ tables_1
theorem lw_privs_ok : ∀ q ∈ lw_privs, lw_okq q := by
  show ∀ q ∈ lw_privs_1 ++ (lw_privs_2 ++ (lw_privs_3 ++ (lw_privs_4 ++ (lw_privs_5)))), lw_okq q
  exact List.forall_mem_append.mpr ⟨lw_r1, List.forall_mem_append.mpr ⟨lw_r2, List.forall_mem_append.mpr ⟨lw_r3, List.forall_mem_append.mpr ⟨lw_r4, lw_r5⟩⟩⟩⟩
end
section
def RX0 : String := "HomeRings$Household"
def TX0 : u_T := fun k => match k with
  | 0 => ("HomeRings$Household", "ranks", "[I", true)
  | 1 => ("HomeRings$Household", "wishCount", "I", false)
  | 2 => ("HomeRings$Household", "kind", "I", false)
  | 3 => ("HomeRings$Household", "beds", "I", false)
  | 4 => ("HomeRings$Household", "persons", "I", false)
  | 5 => ("HomeRings$Household", "pet", "Z", false)
  | 6 => ("HomeRings$Household", "present", "Z", false)
  | 7 => ("HomeRings$Household", "freeFrom", "I", false)
  | 8 => ("HomeRings$Household", "freeTo", "I", false)
  | 9 => ("HomeRings$Household", "tripFrom", "I", false)
  | 10 => ("HomeRings$Household", "tripTo", "I", false)
  | 11 => ("HomeRings$Household", "barred", "I", false)
  | _ => ("HomeRings$Household", "points", "I", false)
def tyX0 : Nat → FieldType := fun k => match k with
  | 0 => .array .int
  | 1 => .int
  | 2 => .int
  | 3 => .int
  | 4 => .int
  | 5 => .boolean
  | 6 => .boolean
  | 7 => .int
  | 8 => .int
  | 9 => .int
  | 10 => .int
  | 11 => .int
  | _ => .int
abbrev wsX00 : List Cond := u_ws RX0 TX0 13
theorem nmX0 : ∀ a, a < 13 → ∀ b, b < 13 → a ≠ b → (TX0 a).2.1 ≠ (TX0 b).2.1 := by decide +kernel
theorem tyX0_ok : ∀ k, k < 13 → parseFieldDescriptor (TX0 k).2.2.1 = some (tyX0 k) := by decide +kernel
abbrev cX0_init : ByteArray := prog_2_method_1_code
def yX0_init : MethodName := ⟨RX0, "<init>", "()V"⟩
abbrev cX0_moveIn : ByteArray := prog_2_method_2_code
def yX0_moveIn : MethodName := ⟨RX0, "moveIn", "(IIIZ)V"⟩
abbrev cX0_sleeps : ByteArray := prog_2_method_3_code
def yX0_sleeps : MethodName := ⟨RX0, "sleeps", "()I"⟩
abbrev cX0_worth : ByteArray := prog_2_method_4_code
def yX0_worth : MethodName := ⟨RX0, "worth", "()I"⟩
abbrev cX0_welcomesPets : ByteArray := prog_2_method_5_code
def yX0_welcomesPets : MethodName := ⟨RX0, "welcomesPets", "()Z"⟩
abbrev cX0_weeksAt : ByteArray := prog_2_method_6_code
def yX0_weeksAt : MethodName := ⟨RX0, "weeksAt", "(LHomeRings$Household;)I"⟩
abbrev cX0_addWish : ByteArray := prog_2_method_7_code
def yX0_addWish : MethodName := ⟨RX0, "addWish", "(I)V"⟩
abbrev cX0_dropWishes : ByteArray := prog_2_method_8_code
def yX0_dropWishes : MethodName := ⟨RX0, "dropWishes", "()V"⟩
abbrev cX0_barFrom : ByteArray := prog_2_method_9_code
def yX0_barFrom : MethodName := ⟨RX0, "barFrom", "(IZ)V"⟩
abbrev cX0_isBarredFrom : ByteArray := prog_2_method_10_code
def yX0_isBarredFrom : MethodName := ⟨RX0, "isBarredFrom", "(I)Z"⟩
def RX1 : String := "HomeRings$RingSearch"
def TX1 : u_T := fun k => match k with
  | 0 => ("HomeRings$RingSearch", "places", "[J", true)
  | 1 => ("HomeRings$RingSearch", "scores", "[J", true)
  | 2 => ("HomeRings$RingSearch", "open", "[J", true)
  | 3 => ("HomeRings$RingSearch", "rings", "[J", true)
  | 4 => ("HomeRings$RingSearch", "settled", "[J", true)
  | _ => ("HomeRings$RingSearch", "size", "I", false)
def tyX1 : Nat → FieldType := fun k => match k with
  | 0 => .array .long
  | 1 => .array .long
  | 2 => .array .long
  | 3 => .array .long
  | 4 => .array .long
  | _ => .int
abbrev wsX10 : List Cond := u_ws RX1 TX1 6
theorem nmX1 : ∀ a, a < 6 → ∀ b, b < 6 → a ≠ b → (TX1 a).2.1 ≠ (TX1 b).2.1 := by decide +kernel
theorem tyX1_ok : ∀ k, k < 6 → parseFieldDescriptor (TX1 k).2.2.1 = some (tyX1 k) := by decide +kernel
abbrev cX1_init : ByteArray := prog_3_method_1_code
def yX1_init : MethodName := ⟨RX1, "<init>", "()V"⟩
abbrev cX1_clear : ByteArray := prog_3_method_2_code
def yX1_clear : MethodName := ⟨RX1, "clear", "(I)V"⟩
abbrev cX1_allow : ByteArray := prog_3_method_3_code
def yX1_allow : MethodName := ⟨RX1, "allow", "(III)V"⟩
abbrev cX1_replacePlan : ByteArray := prog_3_method_4_code
def yX1_replacePlan : MethodName := ⟨RX1, "replacePlan", "([II)I"⟩
abbrev cX1_findRings : ByteArray := prog_3_method_5_code
def yX1_findRings : MethodName := ⟨RX1, "findRings", "(I)V"⟩
abbrev cX1_openWays : ByteArray := prog_3_method_6_code
def yX1_openWays : MethodName := ⟨RX1, "openWays", "(I)V"⟩
abbrev cX1_growWays : ByteArray := prog_3_method_7_code
def yX1_growWays : MethodName := ⟨RX1, "growWays", "(II)V"⟩
abbrev cX1_closeWay : ByteArray := prog_3_method_8_code
def yX1_closeWay : MethodName := ⟨RX1, "closeWay", "(III)V"⟩
abbrev cX1_growWay : ByteArray := prog_3_method_9_code
def yX1_growWay : MethodName := ⟨RX1, "growWay", "(III)V"⟩
abbrev cX1_settleAll : ByteArray := prog_3_method_10_code
def yX1_settleAll : MethodName := ⟨RX1, "settleAll", "()V"⟩
abbrev cX1_settleFirst : ByteArray := prog_3_method_11_code
def yX1_settleFirst : MethodName := ⟨RX1, "settleFirst", "(I)V"⟩
abbrev cX1_readPlan : ByteArray := prog_3_method_12_code
def yX1_readPlan : MethodName := ⟨RX1, "readPlan", "(J[I)I"⟩
def RX2 : String := "HomeRings$Ways"
def TX2 : u_T := fun k => match k with
  | 0 => ("HomeRings$Ways", "homes", "[I", true)
  | 1 => ("HomeRings$Ways", "before", "[I", true)
  | 2 => ("HomeRings$Ways", "starts", "[I", true)
  | _ => ("HomeRings$Ways", "size", "I", false)
def tyX2 : Nat → FieldType := fun k => match k with
  | 0 => .array .int
  | 1 => .array .int
  | 2 => .array .int
  | _ => .int
abbrev wsX20 : List Cond := u_ws RX2 TX2 4
theorem nmX2 : ∀ a, a < 4 → ∀ b, b < 4 → a ≠ b → (TX2 a).2.1 ≠ (TX2 b).2.1 := by decide +kernel
theorem tyX2_ok : ∀ k, k < 4 → parseFieldDescriptor (TX2 k).2.2.1 = some (tyX2 k) := by decide +kernel
abbrev cX2_init : ByteArray := prog_4_method_1_code
def yX2_init : MethodName := ⟨RX2, "<init>", "()V"⟩
abbrev cX2_clear : ByteArray := prog_4_method_2_code
def yX2_clear : MethodName := ⟨RX2, "clear", "(I)V"⟩
abbrev cX2_add : ByteArray := prog_4_method_3_code
def yX2_add : MethodName := ⟨RX2, "add", "(II)V"⟩
abbrev cX2_tellShortestRing : ByteArray := prog_4_method_4_code
def yX2_tellShortestRing : MethodName := ⟨RX2, "tellShortestRing", "([I)I"⟩
abbrev cX2_lengthFrom : ByteArray := prog_4_method_5_code
def yX2_lengthFrom : MethodName := ⟨RX2, "lengthFrom", "(I)I"⟩
abbrev cX2_tellLongestWay : ByteArray := prog_4_method_6_code
def yX2_tellLongestWay : MethodName := ⟨RX2, "tellLongestWay", "(I[I)I"⟩
abbrev cX2_findStarts : ByteArray := prog_4_method_7_code
def yX2_findStarts : MethodName := ⟨RX2, "findStarts", "()V"⟩
abbrev cX2_startsWithin : ByteArray := prog_4_method_8_code
def yX2_startsWithin : MethodName := ⟨RX2, "startsWithin", "(I)I"⟩
abbrev cX2_mostSteps : ByteArray := prog_4_method_9_code
def yX2_mostSteps : MethodName := ⟨RX2, "mostSteps", "(I)I"⟩
abbrev cX2_startsApart : ByteArray := prog_4_method_10_code
def yX2_startsApart : MethodName := ⟨RX2, "startsApart", "(II)I"⟩
abbrev cX2_leastOf : ByteArray := prog_4_method_11_code
def yX2_leastOf : MethodName := ⟨RX2, "leastOf", "(I)I"⟩
def RX3 : String := "HomeRings"
def TX3 : u_T := fun k => match k with
  | 0 => ("HomeRings", "households", "[LHomeRings$Household;", true)
  | 1 => ("HomeRings", "goesTo", "[I", true)
  | 2 => ("HomeRings", "booked", "[I", true)
  | 3 => ("HomeRings", "told", "[I", true)
  | 4 => ("HomeRings", "shown", "[I", true)
  | 5 => ("HomeRings", "ringSearch", "LHomeRings$RingSearch;", true)
  | 6 => ("HomeRings", "ways", "LHomeRings$Ways;", true)
  | 7 => ("HomeRings", "families", "I", false)
  | 8 => ("HomeRings", "year", "I", false)
  | 9 => ("HomeRings", "toldCount", "I", false)
  | 10 => ("HomeRings", "stay", "I", false)
  | 11 => ("HomeRings", "most", "I", false)
  | 12 => ("HomeRings", "limit", "I", false)
  | _ => ("HomeRings", "chainStands", "Z", false)
def tyX3 : Nat → FieldType := fun k => match k with
  | 0 => .array (.object "HomeRings$Household")
  | 1 => .array .int
  | 2 => .array .int
  | 3 => .array .int
  | 4 => .array .int
  | 5 => .object "HomeRings$RingSearch"
  | 6 => .object "HomeRings$Ways"
  | 7 => .int
  | 8 => .int
  | 9 => .int
  | 10 => .int
  | 11 => .int
  | 12 => .int
  | _ => .boolean
abbrev wsX30 : List Cond := u_ws RX3 TX3 14
theorem nmX3 : ∀ a, a < 14 → ∀ b, b < 14 → a ≠ b → (TX3 a).2.1 ≠ (TX3 b).2.1 := by decide +kernel
theorem tyX3_ok : ∀ k, k < 14 → parseFieldDescriptor (TX3 k).2.2.1 = some (tyX3 k) := by decide +kernel
abbrev cX3_init : ByteArray := prog_1_method_1_code
def yX3_init : MethodName := ⟨RX3, "<init>", "()V"⟩
abbrev cX3_family : ByteArray := prog_1_method_2_code
def yX3_family : MethodName := ⟨RX3, "family", "(IIIZ)I"⟩
abbrev cX3_weeks : ByteArray := prog_1_method_3_code
def yX3_weeks : MethodName := ⟨RX3, "weeks", "(IIII)Z"⟩
abbrev cX3_wish : ByteArray := prog_1_method_4_code
def yX3_wish : MethodName := ⟨RX3, "wish", "(II)I"⟩
abbrev cX3_wishes : ByteArray := prog_1_method_5_code
def yX3_wishes : MethodName := ⟨RX3, "wishes", "(IIIII)I"⟩
abbrev cX3_bar : ByteArray := prog_1_method_6_code
def yX3_bar : MethodName := ⟨RX3, "bar", "(IIZ)Z"⟩
abbrev cX3_in : ByteArray := prog_1_method_7_code
def yX3_in : MethodName := ⟨RX3, "in", "(IZ)Z"⟩
abbrev cX3_set : ByteArray := prog_1_method_8_code
def yX3_set : MethodName := ⟨RX3, "set", "(II)I"⟩
abbrev cX3_count : ByteArray := prog_1_method_9_code
def yX3_count : MethodName := ⟨RX3, "count", "(I)I"⟩
abbrev cX3_of : ByteArray := prog_1_method_10_code
def yX3_of : MethodName := ⟨RX3, "of", "(II)I"⟩
abbrev cX3_rank : ByteArray := prog_1_method_11_code
def yX3_rank : MethodName := ⟨RX3, "rank", "(II)I"⟩
abbrev cX3_can : ByteArray := prog_1_method_12_code
def yX3_can : MethodName := ⟨RX3, "can", "(II)I"⟩
abbrev cX3_week : ByteArray := prog_1_method_13_code
def yX3_week : MethodName := ⟨RX3, "week", "(II)I"⟩
abbrev cX3_put : ByteArray := prog_1_method_14_code
def yX3_put : MethodName := ⟨RX3, "put", "(II)Z"⟩
abbrev cX3_wrong : ByteArray := prog_1_method_15_code
def yX3_wrong : MethodName := ⟨RX3, "wrong", "()I"⟩
abbrev cX3_best : ByteArray := prog_1_method_16_code
def yX3_best : MethodName := ⟨RX3, "best", "()I"⟩
abbrev cX3_mend : ByteArray := prog_1_method_17_code
def yX3_mend : MethodName := ⟨RX3, "mend", "()I"⟩
abbrev cX3_trade : ByteArray := prog_1_method_18_code
def yX3_trade : MethodName := ⟨RX3, "trade", "()I"⟩
abbrev cX3_blocks : ByteArray := prog_1_method_19_code
def yX3_blocks : MethodName := ⟨RX3, "blocks", "()I"⟩
abbrev cX3_ring : ByteArray := prog_1_method_20_code
def yX3_ring : MethodName := ⟨RX3, "ring", "(I)I"⟩
abbrev cX3_chain : ByteArray := prog_1_method_21_code
def yX3_chain : MethodName := ⟨RX3, "chain", "(I)I"⟩
abbrev cX3_travel : ByteArray := prog_1_method_22_code
def yX3_travel : MethodName := ⟨RX3, "travel", "()I"⟩
abbrev cX3_book : ByteArray := prog_1_method_23_code
def yX3_book : MethodName := ⟨RX3, "book", "()I"⟩
abbrev cX3_went : ByteArray := prog_1_method_24_code
def yX3_went : MethodName := ⟨RX3, "went", "(II)I"⟩
abbrev cX3_undo : ByteArray := prog_1_method_25_code
def yX3_undo : MethodName := ⟨RX3, "undo", "()I"⟩
abbrev cX3_row : ByteArray := prog_1_method_26_code
def yX3_row : MethodName := ⟨RX3, "row", "(I)I"⟩
abbrev cX3_keepRow : ByteArray := prog_1_method_27_code
def yX3_keepRow : MethodName := ⟨RX3, "keepRow", "(I)V"⟩
abbrev cX3_isOneToNine : ByteArray := prog_1_method_28_code
def yX3_isOneToNine : MethodName := ⟨RX3, "isOneToNine", "(I)Z"⟩
abbrev cX3_isFamily : ByteArray := prog_1_method_29_code
def yX3_isFamily : MethodName := ⟨RX3, "isFamily", "(I)Z"⟩
abbrev cX3_areTwo : ByteArray := prog_1_method_30_code
def yX3_areTwo : MethodName := ⟨RX3, "areTwo", "(II)Z"⟩
abbrev cX3_canBecomeWish : ByteArray := prog_1_method_31_code
def yX3_canBecomeWish : MethodName := ⟨RX3, "canBecomeWish", "(II)Z"⟩
abbrev cX3_copySheet : ByteArray := prog_1_method_32_code
def yX3_copySheet : MethodName := ⟨RX3, "copySheet", "(IZIII)V"⟩
abbrev cX3_hindrance : ByteArray := prog_1_method_33_code
def yX3_hindrance : MethodName := ⟨RX3, "hindrance", "(II)I"⟩
abbrev cX3_takes : ByteArray := prog_1_method_34_code
def yX3_takes : MethodName := ⟨RX3, "takes", "(II)Z"⟩
abbrev cX3_countTaken : ByteArray := prog_1_method_35_code
def yX3_countTaken : MethodName := ⟨RX3, "countTaken", "(I)I"⟩
abbrev cX3_countPresent : ByteArray := prog_1_method_36_code
def yX3_countPresent : MethodName := ⟨RX3, "countPresent", "()I"⟩
abbrev cX3_countGoing : ByteArray := prog_1_method_37_code
def yX3_countGoing : MethodName := ⟨RX3, "countGoing", "()I"⟩
abbrev cX3_planRank : ByteArray := prog_1_method_38_code
def yX3_planRank : MethodName := ⟨RX3, "planRank", "(I)I"⟩
abbrev cX3_sumOfRanks : ByteArray := prog_1_method_39_code
def yX3_sumOfRanks : MethodName := ⟨RX3, "sumOfRanks", "()I"⟩
abbrev cX3_firstGuest : ByteArray := prog_1_method_40_code
def yX3_firstGuest : MethodName := ⟨RX3, "firstGuest", "(I)I"⟩
abbrev cX3_isLiked : ByteArray := prog_1_method_41_code
def yX3_isLiked : MethodName := ⟨RX3, "isLiked", "(II)Z"⟩
abbrev cX3_faultOfClosing : ByteArray := prog_1_method_42_code
def yX3_faultOfClosing : MethodName := ⟨RX3, "faultOfClosing", "()I"⟩
abbrev cX3_hasRival : ByteArray := prog_1_method_43_code
def yX3_hasRival : MethodName := ⟨RX3, "hasRival", "(I)Z"⟩
abbrev cX3_faultOfLength : ByteArray := prog_1_method_44_code
def yX3_faultOfLength : MethodName := ⟨RX3, "faultOfLength", "()I"⟩
abbrev cX3_ringLength : ByteArray := prog_1_method_45_code
def yX3_ringLength : MethodName := ⟨RX3, "ringLength", "(I)I"⟩
abbrev cX3_countRings : ByteArray := prog_1_method_46_code
def yX3_countRings : MethodName := ⟨RX3, "countRings", "()I"⟩
abbrev cX3_isLeastOfRing : ByteArray := prog_1_method_47_code
def yX3_isLeastOfRing : MethodName := ⟨RX3, "isLeastOfRing", "(I)Z"⟩
abbrev cX3_clearPlan : ByteArray := prog_1_method_48_code
def yX3_clearPlan : MethodName := ⟨RX3, "clearPlan", "()V"⟩
abbrev cX3_planRings : ByteArray := prog_1_method_49_code
def yX3_planRings : MethodName := ⟨RX3, "planRings", "(I)I"⟩
abbrev cX3_showHomes : ByteArray := prog_1_method_50_code
def yX3_showHomes : MethodName := ⟨RX3, "showHomes", "(I)I"⟩
abbrev cX3_firstWithoutHome : ByteArray := prog_1_method_51_code
def yX3_firstWithoutHome : MethodName := ⟨RX3, "firstWithoutHome", "(I)I"⟩
abbrev cX3_likedMost : ByteArray := prog_1_method_52_code
def yX3_likedMost : MethodName := ⟨RX3, "likedMost", "(II)I"⟩
abbrev cX3_sendShownRing : ByteArray := prog_1_method_53_code
def yX3_sendShownRing : MethodName := ⟨RX3, "sendShownRing", "(I)I"⟩
abbrev cX3_comesRound : ByteArray := prog_1_method_54_code
def yX3_comesRound : MethodName := ⟨RX3, "comesRound", "(I)Z"⟩
abbrev cX3_sendAsShown : ByteArray := prog_1_method_55_code
def yX3_sendAsShown : MethodName := ⟨RX3, "sendAsShown", "(I)I"⟩
abbrev cX3_addChainWaysTo : ByteArray := prog_1_method_56_code
def yX3_addChainWaysTo : MethodName := ⟨RX3, "addChainWaysTo", "(II)V"⟩
abbrev cX3_pay : ByteArray := prog_1_method_57_code
def yX3_pay : MethodName := ⟨RX3, "pay", "(III)V"⟩
abbrev cX3_payPlan : ByteArray := prog_1_method_58_code
def yX3_payPlan : MethodName := ⟨RX3, "payPlan", "(I)V"⟩
def RX4 : String := "HomeRingsModel"
def TX4 : u_T := fun k => match k with
  | 0 => ("HomeRingsModel", "thrown", "I", false)
  | 1 => ("HomeRingsModel", "families", "I", false)
  | 2 => ("HomeRingsModel", "kind", "[I", true)
  | 3 => ("HomeRingsModel", "beds", "[I", true)
  | 4 => ("HomeRingsModel", "persons", "[I", true)
  | 5 => ("HomeRingsModel", "hasPet", "[Z", true)
  | 6 => ("HomeRingsModel", "freeFrom", "[I", true)
  | 7 => ("HomeRingsModel", "freeTo", "[I", true)
  | 8 => ("HomeRingsModel", "goFrom", "[I", true)
  | 9 => ("HomeRingsModel", "goTo", "[I", true)
  | 10 => ("HomeRingsModel", "points", "[I", true)
  | 11 => ("HomeRingsModel", "isIn", "[Z", true)
  | 12 => ("HomeRingsModel", "wishes", "[I", true)
  | 13 => ("HomeRingsModel", "wish", "[I", true)
  | 14 => ("HomeRingsModel", "isBarred", "[Z", true)
  | 15 => ("HomeRingsModel", "plan", "[I", true)
  | 16 => ("HomeRingsModel", "stay", "I", false)
  | 17 => ("HomeRingsModel", "most", "I", false)
  | 18 => ("HomeRingsModel", "limit", "I", false)
  | 19 => ("HomeRingsModel", "chained", "I", false)
  | 20 => ("HomeRingsModel", "trial", "[I", true)
  | 21 => ("HomeRingsModel", "found", "[I", true)
  | 22 => ("HomeRingsModel", "hasFound", "Z", false)
  | 23 => ("HomeRingsModel", "keeps", "Z", false)
  | 24 => ("HomeRingsModel", "bestKept", "I", false)
  | 25 => ("HomeRingsModel", "bestGo", "I", false)
  | 26 => ("HomeRingsModel", "bestRanks", "I", false)
  | 27 => ("HomeRingsModel", "isLeft", "[Z", true)
  | 28 => ("HomeRingsModel", "shows", "[I", true)
  | 29 => ("HomeRingsModel", "rows", "I", false)
  | 30 => ("HomeRingsModel", "row", "[I", true)
  | 31 => ("HomeRingsModel", "way", "[I", true)
  | 32 => ("HomeRingsModel", "longest", "I", false)
  | 33 => ("HomeRingsModel", "longestWay", "[I", true)
  | 34 => ("HomeRingsModel", "years", "I", false)
  | _ => ("HomeRingsModel", "went", "[I", true)
def tyX4 : Nat → FieldType := fun k => match k with
  | 0 => .int
  | 1 => .int
  | 2 => .array .int
  | 3 => .array .int
  | 4 => .array .int
  | 5 => .array .boolean
  | 6 => .array .int
  | 7 => .array .int
  | 8 => .array .int
  | 9 => .array .int
  | 10 => .array .int
  | 11 => .array .boolean
  | 12 => .array .int
  | 13 => .array .int
  | 14 => .array .boolean
  | 15 => .array .int
  | 16 => .int
  | 17 => .int
  | 18 => .int
  | 19 => .int
  | 20 => .array .int
  | 21 => .array .int
  | 22 => .boolean
  | 23 => .boolean
  | 24 => .int
  | 25 => .int
  | 26 => .int
  | 27 => .array .boolean
  | 28 => .array .int
  | 29 => .int
  | 30 => .array .int
  | 31 => .array .int
  | 32 => .int
  | 33 => .array .int
  | 34 => .int
  | _ => .array .int
abbrev wsX40 : List Cond := u_ws RX4 TX4 36
theorem nmX4 : ∀ a, a < 36 → ∀ b, b < 36 → a ≠ b → (TX4 a).2.1 ≠ (TX4 b).2.1 := by decide +kernel
theorem tyX4_ok : ∀ k, k < 36 → parseFieldDescriptor (TX4 k).2.2.1 = some (tyX4 k) := by decide +kernel
abbrev cX4_init : ByteArray := prog_6_method_1_code
def yX4_init : MethodName := ⟨RX4, "<init>", "()V"⟩
abbrev cX4_thrown : ByteArray := prog_6_method_2_code
def yX4_thrown : MethodName := ⟨RX4, "thrown", "()I"⟩
abbrev cX4_lies : ByteArray := prog_6_method_3_code
def yX4_lies : MethodName := ⟨RX4, "lies", "(JJJ)Z"⟩
abbrev cX4_refuse : ByteArray := prog_6_method_4_code
def yX4_refuse : MethodName := ⟨RX4, "refuse", "()I"⟩
abbrev cX4_isFamily : ByteArray := prog_6_method_5_code
def yX4_isFamily : MethodName := ⟨RX4, "isFamily", "(I)Z"⟩
abbrev cX4_areTwo : ByteArray := prog_6_method_6_code
def yX4_areTwo : MethodName := ⟨RX4, "areTwo", "(II)Z"⟩
abbrev cX4_family : ByteArray := prog_6_method_7_code
def yX4_family : MethodName := ⟨RX4, "family", "(IIIZ)I"⟩
abbrev cX4_weeks : ByteArray := prog_6_method_8_code
def yX4_weeks : MethodName := ⟨RX4, "weeks", "(IIII)Z"⟩
abbrev cX4_rankOf : ByteArray := prog_6_method_9_code
def yX4_rankOf : MethodName := ⟨RX4, "rankOf", "(II)I"⟩
abbrev cX4_wants : ByteArray := prog_6_method_10_code
def yX4_wants : MethodName := ⟨RX4, "wants", "(II)V"⟩
abbrev cX4_wish : ByteArray := prog_6_method_11_code
def yX4_wish : MethodName := ⟨RX4, "wish", "(II)I"⟩
abbrev cX4_wishes : ByteArray := prog_6_method_12_code
def yX4_wishes : MethodName := ⟨RX4, "wishes", "(IIIII)I"⟩
abbrev cX4_bar : ByteArray := prog_6_method_13_code
def yX4_bar : MethodName := ⟨RX4, "bar", "(IIZ)Z"⟩
abbrev cX4_in : ByteArray := prog_6_method_14_code
def yX4_in : MethodName := ⟨RX4, "in", "(IZ)Z"⟩
abbrev cX4_set : ByteArray := prog_6_method_15_code
def yX4_set : MethodName := ⟨RX4, "set", "(II)I"⟩
abbrev cX4_sleeps : ByteArray := prog_6_method_16_code
def yX4_sleeps : MethodName := ⟨RX4, "sleeps", "(I)I"⟩
abbrev cX4_worth : ByteArray := prog_6_method_17_code
def yX4_worth : MethodName := ⟨RX4, "worth", "(I)I"⟩
abbrev cX4_barrier : ByteArray := prog_6_method_18_code
def yX4_barrier : MethodName := ⟨RX4, "barrier", "(II)I"⟩
abbrev cX4_takes : ByteArray := prog_6_method_19_code
def yX4_takes : MethodName := ⟨RX4, "takes", "(II)Z"⟩
abbrev cX4_rank : ByteArray := prog_6_method_20_code
def yX4_rank : MethodName := ⟨RX4, "rank", "(II)I"⟩
abbrev cX4_can : ByteArray := prog_6_method_21_code
def yX4_can : MethodName := ⟨RX4, "can", "(II)I"⟩
abbrev cX4_week : ByteArray := prog_6_method_22_code
def yX4_week : MethodName := ⟨RX4, "week", "(II)I"⟩
abbrev cX4_guest : ByteArray := prog_6_method_23_code
def yX4_guest : MethodName := ⟨RX4, "guest", "(I)I"⟩
abbrev cX4_goesAtAll : ByteArray := prog_6_method_24_code
def yX4_goesAtAll : MethodName := ⟨RX4, "goesAtAll", "(I)Z"⟩
abbrev cX4_open : ByteArray := prog_6_method_25_code
def yX4_open : MethodName := ⟨RX4, "open", "()I"⟩
abbrev cX4_ringOf : ByteArray := prog_6_method_26_code
def yX4_ringOf : MethodName := ⟨RX4, "ringOf", "(I)I"⟩
abbrev cX4_wrong : ByteArray := prog_6_method_27_code
def yX4_wrong : MethodName := ⟨RX4, "wrong", "()I"⟩
abbrev cX4_goers : ByteArray := prog_6_method_28_code
def yX4_goers : MethodName := ⟨RX4, "goers", "()I"⟩
abbrev cX4_rings : ByteArray := prog_6_method_29_code
def yX4_rings : MethodName := ⟨RX4, "rings", "()I"⟩
abbrev cX4_count : ByteArray := prog_6_method_30_code
def yX4_count : MethodName := ⟨RX4, "count", "(I)I"⟩
abbrev cX4_of : ByteArray := prog_6_method_31_code
def yX4_of : MethodName := ⟨RX4, "of", "(II)I"⟩
abbrev cX4_put : ByteArray := prog_6_method_32_code
def yX4_put : MethodName := ⟨RX4, "put", "(II)Z"⟩
abbrev cX4_mayBe : ByteArray := prog_6_method_33_code
def yX4_mayBe : MethodName := ⟨RX4, "mayBe", "(IIII)Z"⟩
abbrev cX4_isShort : ByteArray := prog_6_method_34_code
def yX4_isShort : MethodName := ⟨RX4, "isShort", "(II)Z"⟩
abbrev cX4_offers : ByteArray := prog_6_method_35_code
def yX4_offers : MethodName := ⟨RX4, "offers", "(III)V"⟩
abbrev cX4_goes : ByteArray := prog_6_method_36_code
def yX4_goes : MethodName := ⟨RX4, "goes", "(IIIII)V"⟩
abbrev cX4_all : ByteArray := prog_6_method_37_code
def yX4_all : MethodName := ⟨RX4, "all", "(Z)V"⟩
abbrev cX4_best : ByteArray := prog_6_method_38_code
def yX4_best : MethodName := ⟨RX4, "best", "()I"⟩
abbrev cX4_mend : ByteArray := prog_6_method_39_code
def yX4_mend : MethodName := ⟨RX4, "mend", "()I"⟩
abbrev cX4_firstOf : ByteArray := prog_6_method_40_code
def yX4_firstOf : MethodName := ⟨RX4, "firstOf", "(I)I"⟩
abbrev cX4_leaver : ByteArray := prog_6_method_41_code
def yX4_leaver : MethodName := ⟨RX4, "leaver", "()I"⟩
abbrev cX4_isRound : ByteArray := prog_6_method_42_code
def yX4_isRound : MethodName := ⟨RX4, "isRound", "(I)Z"⟩
abbrev cX4_trade : ByteArray := prog_6_method_43_code
def yX4_trade : MethodName := ⟨RX4, "trade", "()I"⟩
abbrev cX4_wouldRather : ByteArray := prog_6_method_44_code
def yX4_wouldRather : MethodName := ⟨RX4, "wouldRather", "(II)Z"⟩
abbrev cX4_closes : ByteArray := prog_6_method_45_code
def yX4_closes : MethodName := ⟨RX4, "closes", "(III)Z"⟩
abbrev cX4_tells : ByteArray := prog_6_method_46_code
def yX4_tells : MethodName := ⟨RX4, "tells", "(I)I"⟩
abbrev cX4_blocks : ByteArray := prog_6_method_47_code
def yX4_blocks : MethodName := ⟨RX4, "blocks", "()I"⟩
abbrev cX4_ring : ByteArray := prog_6_method_48_code
def yX4_ring : MethodName := ⟨RX4, "ring", "(I)I"⟩
abbrev cX4_goesOn : ByteArray := prog_6_method_49_code
def yX4_goesOn : MethodName := ⟨RX4, "goesOn", "(III)V"⟩
abbrev cX4_chain : ByteArray := prog_6_method_50_code
def yX4_chain : MethodName := ⟨RX4, "chain", "(I)I"⟩
abbrev cX4_travel : ByteArray := prog_6_method_51_code
def yX4_travel : MethodName := ⟨RX4, "travel", "()I"⟩
abbrev cX4_book : ByteArray := prog_6_method_52_code
def yX4_book : MethodName := ⟨RX4, "book", "()I"⟩
abbrev cX4_pays : ByteArray := prog_6_method_53_code
def yX4_pays : MethodName := ⟨RX4, "pays", "(II)V"⟩
abbrev cX4_went : ByteArray := prog_6_method_54_code
def yX4_went : MethodName := ⟨RX4, "went", "(II)I"⟩
abbrev cX4_undo : ByteArray := prog_6_method_55_code
def yX4_undo : MethodName := ⟨RX4, "undo", "()I"⟩
abbrev cX4_row : ByteArray := prog_6_method_56_code
def yX4_row : MethodName := ⟨RX4, "row", "(I)I"⟩
def RJ6 : String := "java/lang/Integer"
def TJ6 : u_T := fun k => match k with
  | _ => ("", "", "", false)
def tyJ6 : Nat → FieldType := fun k => match k with
  | _ => .int
abbrev wsJ60 : List Cond := u_ws RJ6 TJ6 0
theorem nmJ6 : ∀ a, a < 0 → ∀ b, b < 0 → a ≠ b → (TJ6 a).2.1 ≠ (TJ6 b).2.1 := by decide +kernel
theorem tyJ6_ok : ∀ k, k < 0 → parseFieldDescriptor (TJ6 k).2.2.1 = some (tyJ6 k) := by decide +kernel
abbrev cJ6_bitCount_0f7a4 : ByteArray := prog_8_method_49_code
def yJ6_bitCount_0f7a4 : MethodName := ⟨RJ6, "bitCount", "(I)I"⟩
def RJ9 : String := "java/lang/Math"
def TJ9 : u_T := fun k => match k with
  | _ => ("", "", "", false)
def tyJ9 : Nat → FieldType := fun k => match k with
  | _ => .int
abbrev wsJ90 : List Cond := u_ws RJ9 TJ9 0
theorem nmJ9 : ∀ a, a < 0 → ∀ b, b < 0 → a ≠ b → (TJ9 a).2.1 ≠ (TJ9 b).2.1 := by decide +kernel
theorem tyJ9_ok : ∀ k, k < 0 → parseFieldDescriptor (TJ9 k).2.2.1 = some (tyJ9 k) := by decide +kernel
abbrev cJ9_floorMod_f86c9 : ByteArray := prog_9_method_52_code
def yJ9_floorMod_f86c9 : MethodName := ⟨RJ9, "floorMod", "(JJ)J"⟩
abbrev cJ9_max_7cf53 : ByteArray := prog_9_method_65_code
def yJ9_max_7cf53 : MethodName := ⟨RJ9, "max", "(II)I"⟩
abbrev cJ9_max_f86c9 : ByteArray := prog_9_method_66_code
def yJ9_max_f86c9 : MethodName := ⟨RJ9, "max", "(JJ)J"⟩
abbrev cJ9_min_7cf53 : ByteArray := prog_9_method_69_code
def yJ9_min_7cf53 : MethodName := ⟨RJ9, "min", "(II)I"⟩
def RJ0 : String := "java/lang/String"
def TJ0 : u_T := fun k => match k with
  | _ => ("", "", "", false)
def tyJ0 : Nat → FieldType := fun k => match k with
  | _ => .int
abbrev wsJ00 : List Cond := u_ws RJ0 TJ0 0
theorem nmJ0 : ∀ a, a < 0 → ∀ b, b < 0 → a ≠ b → (TJ0 a).2.1 ≠ (TJ0 b).2.1 := by decide +kernel
theorem tyJ0_ok : ∀ k, k < 0 → parseFieldDescriptor (TJ0 k).2.2.1 = some (tyJ0 k) := by decide +kernel
def RL : String := "HomeRingsLaw"
abbrev cL_of : ByteArray := method_3_code
def yL_of : MethodName := ⟨RL, "of", "(LHomeRings;II[J)I"⟩
abbrev cL_row : ByteArray := method_4_code
def yL_row : MethodName := ⟨RL, "row", "(LHomeRings;I[J)I"⟩
abbrev cL_law : ByteArray := code
def yL_law : MethodName := ⟨RL, "law", "([I)Z"⟩
abbrev vwCl : List vw_C := [(RX0, TX0, 13), (RX1, TX1, 6), (RX2, TX2, 4), (RX3, TX3, 14), (RX4, TX4, 36)]
end
section
theorem dX0_init_0 : decode cX0_init 0 = .ok (.aload_n 0, 1) := by decide +kernel
theorem dX0_init_1 : decode cX0_init 1 = .ok (.invokespecial 3, 3) := by decide +kernel
theorem dX0_init_4 : decode cX0_init 4 = .ok (.aload_n 0, 1) := by decide +kernel
theorem dX0_init_5 : decode cX0_init 5 = .ok (.bipush 10, 2) := by decide +kernel
theorem dX0_init_7 : decode cX0_init 7 = .ok (.newarray .int, 2) := by decide +kernel
theorem dX0_init_9 : decode cX0_init 9 = .ok (.putfield 9, 3) := by decide +kernel
theorem dX0_init_12 : decode cX0_init 12 = .ok (.aload_n 0, 1) := by decide +kernel
theorem dX0_init_13 : decode cX0_init 13 = .ok (.iconst 0, 1) := by decide +kernel
theorem dX0_init_14 : decode cX0_init 14 = .ok (.putfield 15, 3) := by decide +kernel
theorem dX0_init_17 : decode cX0_init 17 = .ok (.aload_n 0, 1) := by decide +kernel
theorem dX0_init_18 : decode cX0_init 18 = .ok (.iconst 0, 1) := by decide +kernel
theorem dX0_init_19 : decode cX0_init 19 = .ok (.putfield 19, 3) := by decide +kernel
theorem dX0_init_22 : decode cX0_init 22 = .ok (.aload_n 0, 1) := by decide +kernel
theorem dX0_init_23 : decode cX0_init 23 = .ok (.iconst 0, 1) := by decide +kernel
theorem dX0_init_24 : decode cX0_init 24 = .ok (.putfield 22, 3) := by decide +kernel
theorem dX0_init_27 : decode cX0_init 27 = .ok (.aload_n 0, 1) := by decide +kernel
theorem dX0_init_28 : decode cX0_init 28 = .ok (.iconst 0, 1) := by decide +kernel
theorem dX0_init_29 : decode cX0_init 29 = .ok (.putfield 25, 3) := by decide +kernel
theorem dX0_init_32 : decode cX0_init 32 = .ok (.aload_n 0, 1) := by decide +kernel
theorem dX0_init_33 : decode cX0_init 33 = .ok (.iconst 0, 1) := by decide +kernel
theorem dX0_init_34 : decode cX0_init 34 = .ok (.putfield 28, 3) := by decide +kernel
theorem dX0_init_37 : decode cX0_init 37 = .ok (.aload_n 0, 1) := by decide +kernel
theorem dX0_init_38 : decode cX0_init 38 = .ok (.iconst 1, 1) := by decide +kernel
theorem dX0_init_39 : decode cX0_init 39 = .ok (.putfield 32, 3) := by decide +kernel
theorem dX0_init_42 : decode cX0_init 42 = .ok (.aload_n 0, 1) := by decide +kernel
theorem dX0_init_43 : decode cX0_init 43 = .ok (.iconst 0, 1) := by decide +kernel
theorem dX0_init_44 : decode cX0_init 44 = .ok (.putfield 35, 3) := by decide +kernel
theorem dX0_init_47 : decode cX0_init 47 = .ok (.aload_n 0, 1) := by decide +kernel
theorem dX0_init_48 : decode cX0_init 48 = .ok (.bipush 51, 2) := by decide +kernel
theorem dX0_init_50 : decode cX0_init 50 = .ok (.putfield 38, 3) := by decide +kernel
theorem dX0_init_53 : decode cX0_init 53 = .ok (.aload_n 0, 1) := by decide +kernel
theorem dX0_init_54 : decode cX0_init 54 = .ok (.iconst 0, 1) := by decide +kernel
theorem dX0_init_55 : decode cX0_init 55 = .ok (.putfield 41, 3) := by decide +kernel
theorem dX0_init_58 : decode cX0_init 58 = .ok (.aload_n 0, 1) := by decide +kernel
theorem dX0_init_59 : decode cX0_init 59 = .ok (.bipush 51, 2) := by decide +kernel
theorem dX0_init_61 : decode cX0_init 61 = .ok (.putfield 44, 3) := by decide +kernel
theorem dX0_init_64 : decode cX0_init 64 = .ok (.aload_n 0, 1) := by decide +kernel
theorem dX0_init_65 : decode cX0_init 65 = .ok (.iconst 0, 1) := by decide +kernel
theorem dX0_init_66 : decode cX0_init 66 = .ok (.putfield 47, 3) := by decide +kernel
theorem dX0_init_69 : decode cX0_init 69 = .ok (.aload_n 0, 1) := by decide +kernel
theorem dX0_init_70 : decode cX0_init 70 = .ok (.iconst 0, 1) := by decide +kernel
theorem dX0_init_71 : decode cX0_init 71 = .ok (.putfield 50, 3) := by decide +kernel
theorem dX0_init_74 : decode cX0_init 74 = .ok (.return_, 1) := by decide +kernel
theorem dX0_moveIn_0 : decode cX0_moveIn 0 = .ok (.aload_n 0, 1) := by decide +kernel
theorem dX0_moveIn_1 : decode cX0_moveIn 1 = .ok (.iload_n 1, 1) := by decide +kernel
theorem dX0_moveIn_2 : decode cX0_moveIn 2 = .ok (.putfield 19, 3) := by decide +kernel
theorem dX0_moveIn_5 : decode cX0_moveIn 5 = .ok (.aload_n 0, 1) := by decide +kernel
theorem dX0_moveIn_6 : decode cX0_moveIn 6 = .ok (.iload_n 2, 1) := by decide +kernel
theorem dX0_moveIn_7 : decode cX0_moveIn 7 = .ok (.putfield 22, 3) := by decide +kernel
theorem dX0_moveIn_10 : decode cX0_moveIn 10 = .ok (.aload_n 0, 1) := by decide +kernel
theorem dX0_moveIn_11 : decode cX0_moveIn 11 = .ok (.iload_n 3, 1) := by decide +kernel
theorem dX0_moveIn_12 : decode cX0_moveIn 12 = .ok (.putfield 25, 3) := by decide +kernel
theorem dX0_moveIn_15 : decode cX0_moveIn 15 = .ok (.aload_n 0, 1) := by decide +kernel
theorem dX0_moveIn_16 : decode cX0_moveIn 16 = .ok (.iload 4, 2) := by decide +kernel
theorem dX0_moveIn_18 : decode cX0_moveIn 18 = .ok (.putfield 28, 3) := by decide +kernel
theorem dX0_moveIn_21 : decode cX0_moveIn 21 = .ok (.return_, 1) := by decide +kernel
theorem dX0_sleeps_0 : decode cX0_sleeps 0 = .ok (.aload_n 0, 1) := by decide +kernel
theorem dX0_sleeps_1 : decode cX0_sleeps 1 = .ok (.getfield 19, 3) := by decide +kernel
theorem dX0_sleeps_4 : decode cX0_sleeps 4 = .ok (.iconst 1, 1) := by decide +kernel
theorem dX0_sleeps_5 : decode cX0_sleeps 5 = .ok (.if_icmp .eq 11, 3) := by decide +kernel
theorem dX0_sleeps_8 : decode cX0_sleeps 8 = .ok (.aload_n 0, 1) := by decide +kernel
theorem dX0_sleeps_9 : decode cX0_sleeps 9 = .ok (.getfield 19, 3) := by decide +kernel
theorem dX0_sleeps_12 : decode cX0_sleeps 12 = .ok (.iconst 3, 1) := by decide +kernel
theorem dX0_sleeps_13 : decode cX0_sleeps 13 = .ok (.if_icmp .ne 12, 3) := by decide +kernel
theorem dX0_sleeps_16 : decode cX0_sleeps 16 = .ok (.aload_n 0, 1) := by decide +kernel
theorem dX0_sleeps_17 : decode cX0_sleeps 17 = .ok (.getfield 22, 3) := by decide +kernel
theorem dX0_sleeps_20 : decode cX0_sleeps 20 = .ok (.iconst 1, 1) := by decide +kernel
theorem dX0_sleeps_21 : decode cX0_sleeps 21 = .ok (.isub, 1) := by decide +kernel
theorem dX0_sleeps_22 : decode cX0_sleeps 22 = .ok (.goto 7, 3) := by decide +kernel
theorem dX0_sleeps_25 : decode cX0_sleeps 25 = .ok (.aload_n 0, 1) := by decide +kernel
theorem dX0_sleeps_26 : decode cX0_sleeps 26 = .ok (.getfield 22, 3) := by decide +kernel
theorem dX0_sleeps_29 : decode cX0_sleeps 29 = .ok (.ireturn, 1) := by decide +kernel
theorem dX0_worth_0 : decode cX0_worth 0 = .ok (.aload_n 0, 1) := by decide +kernel
theorem dX0_worth_1 : decode cX0_worth 1 = .ok (.getfield 19, 3) := by decide +kernel
theorem dX0_worth_4 : decode cX0_worth 4 = .ok (.iconst 2, 1) := by decide +kernel
theorem dX0_worth_5 : decode cX0_worth 5 = .ok (.if_icmp .ne 7, 3) := by decide +kernel
theorem dX0_worth_8 : decode cX0_worth 8 = .ok (.iconst 5, 1) := by decide +kernel
theorem dX0_worth_9 : decode cX0_worth 9 = .ok (.goto 17, 3) := by decide +kernel
theorem dX0_worth_12 : decode cX0_worth 12 = .ok (.aload_n 0, 1) := by decide +kernel
theorem dX0_worth_13 : decode cX0_worth 13 = .ok (.getfield 19, 3) := by decide +kernel
theorem dX0_worth_16 : decode cX0_worth 16 = .ok (.iconst 3, 1) := by decide +kernel
theorem dX0_worth_17 : decode cX0_worth 17 = .ok (.if_icmp .ne 8, 3) := by decide +kernel
theorem dX0_worth_20 : decode cX0_worth 20 = .ok (.bipush 15, 2) := by decide +kernel
theorem dX0_worth_22 : decode cX0_worth 22 = .ok (.goto 4, 3) := by decide +kernel
theorem dX0_worth_25 : decode cX0_worth 25 = .ok (.iconst 0, 1) := by decide +kernel
theorem dX0_worth_26 : decode cX0_worth 26 = .ok (.istore_n 1, 1) := by decide +kernel
theorem dX0_worth_27 : decode cX0_worth 27 = .ok (.bipush 10, 2) := by decide +kernel
theorem dX0_worth_29 : decode cX0_worth 29 = .ok (.aload_n 0, 1) := by decide +kernel
theorem dX0_worth_30 : decode cX0_worth 30 = .ok (.invokevirtual 53, 3) := by decide +kernel
theorem dX0_worth_33 : decode cX0_worth 33 = .ok (.imul, 1) := by decide +kernel
theorem dX0_worth_34 : decode cX0_worth 34 = .ok (.iload_n 1, 1) := by decide +kernel
theorem dX0_worth_35 : decode cX0_worth 35 = .ok (.iadd, 1) := by decide +kernel
theorem dX0_worth_36 : decode cX0_worth 36 = .ok (.ireturn, 1) := by decide +kernel
theorem dX0_welcomesPets_0 : decode cX0_welcomesPets 0 = .ok (.aload_n 0, 1) := by decide +kernel
theorem dX0_welcomesPets_1 : decode cX0_welcomesPets 1 = .ok (.getfield 19, 3) := by decide +kernel
theorem dX0_welcomesPets_4 : decode cX0_welcomesPets 4 = .ok (.iconst 2, 1) := by decide +kernel
theorem dX0_welcomesPets_5 : decode cX0_welcomesPets 5 = .ok (.if_icmp .eq 11, 3) := by decide +kernel
theorem dX0_welcomesPets_8 : decode cX0_welcomesPets 8 = .ok (.aload_n 0, 1) := by decide +kernel
theorem dX0_welcomesPets_9 : decode cX0_welcomesPets 9 = .ok (.getfield 19, 3) := by decide +kernel
theorem dX0_welcomesPets_12 : decode cX0_welcomesPets 12 = .ok (.iconst 3, 1) := by decide +kernel
theorem dX0_welcomesPets_13 : decode cX0_welcomesPets 13 = .ok (.if_icmp .ne 7, 3) := by decide +kernel
theorem dX0_welcomesPets_16 : decode cX0_welcomesPets 16 = .ok (.iconst 1, 1) := by decide +kernel
theorem dX0_welcomesPets_17 : decode cX0_welcomesPets 17 = .ok (.goto 4, 3) := by decide +kernel
theorem dX0_welcomesPets_20 : decode cX0_welcomesPets 20 = .ok (.iconst 0, 1) := by decide +kernel
theorem dX0_welcomesPets_21 : decode cX0_welcomesPets 21 = .ok (.ireturn, 1) := by decide +kernel
theorem dX0_weeksAt_0 : decode cX0_weeksAt 0 = .ok (.aload_n 0, 1) := by decide +kernel
theorem dX0_weeksAt_1 : decode cX0_weeksAt 1 = .ok (.getfield 44, 3) := by decide +kernel
theorem dX0_weeksAt_4 : decode cX0_weeksAt 4 = .ok (.aload_n 1, 1) := by decide +kernel
theorem dX0_weeksAt_5 : decode cX0_weeksAt 5 = .ok (.getfield 38, 3) := by decide +kernel
theorem dX0_weeksAt_8 : decode cX0_weeksAt 8 = .ok (.invokestatic 57, 3) := by decide +kernel
theorem dX0_weeksAt_11 : decode cX0_weeksAt 11 = .ok (.aload_n 0, 1) := by decide +kernel
theorem dX0_weeksAt_12 : decode cX0_weeksAt 12 = .ok (.getfield 41, 3) := by decide +kernel
theorem dX0_weeksAt_15 : decode cX0_weeksAt 15 = .ok (.aload_n 1, 1) := by decide +kernel
theorem dX0_weeksAt_16 : decode cX0_weeksAt 16 = .ok (.getfield 35, 3) := by decide +kernel
theorem dX0_weeksAt_19 : decode cX0_weeksAt 19 = .ok (.invokestatic 63, 3) := by decide +kernel
theorem dX0_weeksAt_22 : decode cX0_weeksAt 22 = .ok (.isub, 1) := by decide +kernel
theorem dX0_weeksAt_23 : decode cX0_weeksAt 23 = .ok (.iconst 1, 1) := by decide +kernel
theorem dX0_weeksAt_24 : decode cX0_weeksAt 24 = .ok (.iadd, 1) := by decide +kernel
theorem dX0_weeksAt_25 : decode cX0_weeksAt 25 = .ok (.ireturn, 1) := by decide +kernel
theorem dX0_addWish_0 : decode cX0_addWish 0 = .ok (.aload_n 0, 1) := by decide +kernel
theorem dX0_addWish_1 : decode cX0_addWish 1 = .ok (.dup, 1) := by decide +kernel
theorem dX0_addWish_2 : decode cX0_addWish 2 = .ok (.getfield 15, 3) := by decide +kernel
theorem dX0_addWish_5 : decode cX0_addWish 5 = .ok (.iconst 1, 1) := by decide +kernel
theorem dX0_addWish_6 : decode cX0_addWish 6 = .ok (.iadd, 1) := by decide +kernel
theorem dX0_addWish_7 : decode cX0_addWish 7 = .ok (.putfield 15, 3) := by decide +kernel
theorem dX0_addWish_10 : decode cX0_addWish 10 = .ok (.aload_n 0, 1) := by decide +kernel
theorem dX0_addWish_11 : decode cX0_addWish 11 = .ok (.getfield 9, 3) := by decide +kernel
theorem dX0_addWish_14 : decode cX0_addWish 14 = .ok (.iload_n 1, 1) := by decide +kernel
theorem dX0_addWish_15 : decode cX0_addWish 15 = .ok (.aload_n 0, 1) := by decide +kernel
theorem dX0_addWish_16 : decode cX0_addWish 16 = .ok (.getfield 15, 3) := by decide +kernel
theorem dX0_addWish_19 : decode cX0_addWish 19 = .ok (.iastore, 1) := by decide +kernel
theorem dX0_addWish_20 : decode cX0_addWish 20 = .ok (.return_, 1) := by decide +kernel
theorem dX0_dropWishes_0 : decode cX0_dropWishes 0 = .ok (.aload_n 0, 1) := by decide +kernel
theorem dX0_dropWishes_1 : decode cX0_dropWishes 1 = .ok (.iconst 0, 1) := by decide +kernel
theorem dX0_dropWishes_2 : decode cX0_dropWishes 2 = .ok (.putfield 15, 3) := by decide +kernel
theorem dX0_dropWishes_5 : decode cX0_dropWishes 5 = .ok (.iconst 0, 1) := by decide +kernel
theorem dX0_dropWishes_6 : decode cX0_dropWishes 6 = .ok (.istore_n 1, 1) := by decide +kernel
theorem dX0_dropWishes_7 : decode cX0_dropWishes 7 = .ok (.iload_n 1, 1) := by decide +kernel
theorem dX0_dropWishes_8 : decode cX0_dropWishes 8 = .ok (.bipush 10, 2) := by decide +kernel
theorem dX0_dropWishes_10 : decode cX0_dropWishes 10 = .ok (.if_icmp .ge 16, 3) := by decide +kernel
theorem dX0_dropWishes_13 : decode cX0_dropWishes 13 = .ok (.aload_n 0, 1) := by decide +kernel
theorem dX0_dropWishes_14 : decode cX0_dropWishes 14 = .ok (.getfield 9, 3) := by decide +kernel
theorem dX0_dropWishes_17 : decode cX0_dropWishes 17 = .ok (.iload_n 1, 1) := by decide +kernel
theorem dX0_dropWishes_18 : decode cX0_dropWishes 18 = .ok (.iconst 0, 1) := by decide +kernel
theorem dX0_dropWishes_19 : decode cX0_dropWishes 19 = .ok (.iastore, 1) := by decide +kernel
theorem dX0_dropWishes_20 : decode cX0_dropWishes 20 = .ok (.iinc 1 1, 3) := by decide +kernel
theorem dX0_dropWishes_23 : decode cX0_dropWishes 23 = .ok (.goto (-16), 3) := by decide +kernel
theorem dX0_dropWishes_26 : decode cX0_dropWishes 26 = .ok (.return_, 1) := by decide +kernel
theorem dX0_barFrom_0 : decode cX0_barFrom 0 = .ok (.aload_n 0, 1) := by decide +kernel
theorem dX0_barFrom_1 : decode cX0_barFrom 1 = .ok (.iload_n 2, 1) := by decide +kernel
theorem dX0_barFrom_2 : decode cX0_barFrom 2 = .ok (.ifCond .eq 14, 3) := by decide +kernel
theorem dX0_barFrom_5 : decode cX0_barFrom 5 = .ok (.aload_n 0, 1) := by decide +kernel
theorem dX0_barFrom_6 : decode cX0_barFrom 6 = .ok (.getfield 47, 3) := by decide +kernel
theorem dX0_barFrom_9 : decode cX0_barFrom 9 = .ok (.iconst 1, 1) := by decide +kernel
theorem dX0_barFrom_10 : decode cX0_barFrom 10 = .ok (.iload_n 1, 1) := by decide +kernel
theorem dX0_barFrom_11 : decode cX0_barFrom 11 = .ok (.ishl, 1) := by decide +kernel
theorem dX0_barFrom_12 : decode cX0_barFrom 12 = .ok (.ior, 1) := by decide +kernel
theorem dX0_barFrom_13 : decode cX0_barFrom 13 = .ok (.goto 13, 3) := by decide +kernel
theorem dX0_barFrom_16 : decode cX0_barFrom 16 = .ok (.aload_n 0, 1) := by decide +kernel
theorem dX0_barFrom_17 : decode cX0_barFrom 17 = .ok (.getfield 47, 3) := by decide +kernel
theorem dX0_barFrom_20 : decode cX0_barFrom 20 = .ok (.iconst 1, 1) := by decide +kernel
theorem dX0_barFrom_21 : decode cX0_barFrom 21 = .ok (.iload_n 1, 1) := by decide +kernel
theorem dX0_barFrom_22 : decode cX0_barFrom 22 = .ok (.ishl, 1) := by decide +kernel
theorem dX0_barFrom_23 : decode cX0_barFrom 23 = .ok (.iconst (-1), 1) := by decide +kernel
theorem dX0_barFrom_24 : decode cX0_barFrom 24 = .ok (.ixor, 1) := by decide +kernel
theorem dX0_barFrom_25 : decode cX0_barFrom 25 = .ok (.iand, 1) := by decide +kernel
theorem dX0_barFrom_26 : decode cX0_barFrom 26 = .ok (.putfield 47, 3) := by decide +kernel
theorem dX0_barFrom_29 : decode cX0_barFrom 29 = .ok (.return_, 1) := by decide +kernel
theorem dX0_isBarredFrom_0 : decode cX0_isBarredFrom 0 = .ok (.aload_n 0, 1) := by decide +kernel
theorem dX0_isBarredFrom_1 : decode cX0_isBarredFrom 1 = .ok (.getfield 47, 3) := by decide +kernel
theorem dX0_isBarredFrom_4 : decode cX0_isBarredFrom 4 = .ok (.iload_n 1, 1) := by decide +kernel
theorem dX0_isBarredFrom_5 : decode cX0_isBarredFrom 5 = .ok (.ishr, 1) := by decide +kernel
theorem dX0_isBarredFrom_6 : decode cX0_isBarredFrom 6 = .ok (.iconst 1, 1) := by decide +kernel
theorem dX0_isBarredFrom_7 : decode cX0_isBarredFrom 7 = .ok (.iand, 1) := by decide +kernel
theorem dX0_isBarredFrom_8 : decode cX0_isBarredFrom 8 = .ok (.iconst 1, 1) := by decide +kernel
theorem dX0_isBarredFrom_9 : decode cX0_isBarredFrom 9 = .ok (.if_icmp .ne 7, 3) := by decide +kernel
theorem dX0_isBarredFrom_12 : decode cX0_isBarredFrom 12 = .ok (.iconst 1, 1) := by decide +kernel
theorem dX0_isBarredFrom_13 : decode cX0_isBarredFrom 13 = .ok (.goto 4, 3) := by decide +kernel
theorem dX0_isBarredFrom_16 : decode cX0_isBarredFrom 16 = .ok (.iconst 0, 1) := by decide +kernel
theorem dX0_isBarredFrom_17 : decode cX0_isBarredFrom 17 = .ok (.ireturn, 1) := by decide +kernel
theorem dX1_init_0 : decode cX1_init 0 = .ok (.aload_n 0, 1) := by decide +kernel
theorem dX1_init_1 : decode cX1_init 1 = .ok (.invokespecial 5, 3) := by decide +kernel
theorem dX1_init_4 : decode cX1_init 4 = .ok (.aload_n 0, 1) := by decide +kernel
theorem dX1_init_5 : decode cX1_init 5 = .ok (.bipush 10, 2) := by decide +kernel
theorem dX1_init_7 : decode cX1_init 7 = .ok (.newarray .long, 2) := by decide +kernel
theorem dX1_init_9 : decode cX1_init 9 = .ok (.putfield 11, 3) := by decide +kernel
theorem dX1_init_12 : decode cX1_init 12 = .ok (.aload_n 0, 1) := by decide +kernel
theorem dX1_init_13 : decode cX1_init 13 = .ok (.bipush 100, 2) := by decide +kernel
theorem dX1_init_15 : decode cX1_init 15 = .ok (.newarray .long, 2) := by decide +kernel
theorem dX1_init_17 : decode cX1_init 17 = .ok (.putfield 17, 3) := by decide +kernel
theorem dX1_init_20 : decode cX1_init 20 = .ok (.aload_n 0, 1) := by decide +kernel
theorem dX1_init_21 : decode cX1_init 21 = .ok (.sipush 4608, 3) := by decide +kernel
theorem dX1_init_24 : decode cX1_init 24 = .ok (.newarray .long, 2) := by decide +kernel
theorem dX1_init_26 : decode cX1_init 26 = .ok (.putfield 20, 3) := by decide +kernel
theorem dX1_init_29 : decode cX1_init 29 = .ok (.aload_n 0, 1) := by decide +kernel
theorem dX1_init_30 : decode cX1_init 30 = .ok (.sipush 1024, 3) := by decide +kernel
theorem dX1_init_33 : decode cX1_init 33 = .ok (.newarray .long, 2) := by decide +kernel
theorem dX1_init_35 : decode cX1_init 35 = .ok (.putfield 23, 3) := by decide +kernel
theorem dX1_init_38 : decode cX1_init 38 = .ok (.aload_n 0, 1) := by decide +kernel
theorem dX1_init_39 : decode cX1_init 39 = .ok (.sipush 1024, 3) := by decide +kernel
theorem dX1_init_42 : decode cX1_init 42 = .ok (.newarray .long, 2) := by decide +kernel
theorem dX1_init_44 : decode cX1_init 44 = .ok (.putfield 26, 3) := by decide +kernel
theorem dX1_init_47 : decode cX1_init 47 = .ok (.aload_n 0, 1) := by decide +kernel
theorem dX1_init_48 : decode cX1_init 48 = .ok (.iconst 0, 1) := by decide +kernel
theorem dX1_init_49 : decode cX1_init 49 = .ok (.putfield 29, 3) := by decide +kernel
theorem dX1_init_52 : decode cX1_init 52 = .ok (.lconst 1, 1) := by decide +kernel
theorem dX1_init_53 : decode cX1_init 53 = .ok (.lstore_n 1, 1) := by decide +kernel
theorem dX1_init_54 : decode cX1_init 54 = .ok (.bipush 9, 2) := by decide +kernel
theorem dX1_init_56 : decode cX1_init 56 = .ok (.istore_n 3, 1) := by decide +kernel
theorem dX1_init_57 : decode cX1_init 57 = .ok (.iload_n 3, 1) := by decide +kernel
theorem dX1_init_58 : decode cX1_init 58 = .ok (.ifCond .lt 22, 3) := by decide +kernel
theorem dX1_init_61 : decode cX1_init 61 = .ok (.aload_n 0, 1) := by decide +kernel
theorem dX1_init_62 : decode cX1_init 62 = .ok (.getfield 11, 3) := by decide +kernel
theorem dX1_init_65 : decode cX1_init 65 = .ok (.iload_n 3, 1) := by decide +kernel
theorem dX1_init_66 : decode cX1_init 66 = .ok (.lload_n 1, 1) := by decide +kernel
theorem dX1_init_67 : decode cX1_init 67 = .ok (.lastore, 1) := by decide +kernel
theorem dX1_init_68 : decode cX1_init 68 = .ok (.lload_n 1, 1) := by decide +kernel
theorem dX1_init_69 : decode cX1_init 69 = .ok (.ldc2_w 33, 3) := by decide +kernel
theorem dX1_init_72 : decode cX1_init 72 = .ok (.lmul, 1) := by decide +kernel
theorem dX1_init_73 : decode cX1_init 73 = .ok (.lstore_n 1, 1) := by decide +kernel
theorem dX1_init_74 : decode cX1_init 74 = .ok (.iinc 3 (-1), 3) := by decide +kernel
theorem dX1_init_77 : decode cX1_init 77 = .ok (.goto (-20), 3) := by decide +kernel
theorem dX1_init_80 : decode cX1_init 80 = .ok (.return_, 1) := by decide +kernel
theorem dX1_clear_0 : decode cX1_clear 0 = .ok (.aload_n 0, 1) := by decide +kernel
theorem dX1_clear_1 : decode cX1_clear 1 = .ok (.iload_n 1, 1) := by decide +kernel
theorem dX1_clear_2 : decode cX1_clear 2 = .ok (.putfield 29, 3) := by decide +kernel
theorem dX1_clear_5 : decode cX1_clear 5 = .ok (.iconst 0, 1) := by decide +kernel
theorem dX1_clear_6 : decode cX1_clear 6 = .ok (.istore_n 2, 1) := by decide +kernel
theorem dX1_clear_7 : decode cX1_clear 7 = .ok (.iload_n 2, 1) := by decide +kernel
theorem dX1_clear_8 : decode cX1_clear 8 = .ok (.aload_n 0, 1) := by decide +kernel
theorem dX1_clear_9 : decode cX1_clear 9 = .ok (.getfield 17, 3) := by decide +kernel
theorem dX1_clear_12 : decode cX1_clear 12 = .ok (.arraylength, 1) := by decide +kernel
theorem dX1_clear_13 : decode cX1_clear 13 = .ok (.if_icmp .ge 18, 3) := by decide +kernel
theorem dX1_clear_16 : decode cX1_clear 16 = .ok (.aload_n 0, 1) := by decide +kernel
theorem dX1_clear_17 : decode cX1_clear 17 = .ok (.getfield 17, 3) := by decide +kernel
theorem dX1_clear_20 : decode cX1_clear 20 = .ok (.iload_n 2, 1) := by decide +kernel
theorem dX1_clear_21 : decode cX1_clear 21 = .ok (.ldc2_w 35, 3) := by decide +kernel
theorem dX1_clear_24 : decode cX1_clear 24 = .ok (.lastore, 1) := by decide +kernel
theorem dX1_clear_25 : decode cX1_clear 25 = .ok (.iinc 2 1, 3) := by decide +kernel
theorem dX1_clear_28 : decode cX1_clear 28 = .ok (.goto (-21), 3) := by decide +kernel
theorem dX1_clear_31 : decode cX1_clear 31 = .ok (.return_, 1) := by decide +kernel
theorem dX1_allow_0 : decode cX1_allow 0 = .ok (.aload_n 0, 1) := by decide +kernel
theorem dX1_allow_1 : decode cX1_allow 1 = .ok (.getfield 17, 3) := by decide +kernel
theorem dX1_allow_4 : decode cX1_allow 4 = .ok (.iload_n 1, 1) := by decide +kernel
theorem dX1_allow_5 : decode cX1_allow 5 = .ok (.bipush 10, 2) := by decide +kernel
theorem dX1_allow_7 : decode cX1_allow 7 = .ok (.imul, 1) := by decide +kernel
theorem dX1_allow_8 : decode cX1_allow 8 = .ok (.iload_n 2, 1) := by decide +kernel
theorem dX1_allow_9 : decode cX1_allow 9 = .ok (.iadd, 1) := by decide +kernel
theorem dX1_allow_10 : decode cX1_allow 10 = .ok (.iload_n 3, 1) := by decide +kernel
theorem dX1_allow_11 : decode cX1_allow 11 = .ok (.i2l, 1) := by decide +kernel
theorem dX1_allow_12 : decode cX1_allow 12 = .ok (.ldc2_w 37, 3) := by decide +kernel
theorem dX1_allow_15 : decode cX1_allow 15 = .ok (.lmul, 1) := by decide +kernel
theorem dX1_allow_16 : decode cX1_allow 16 = .ok (.iload_n 2, 1) := by decide +kernel
theorem dX1_allow_17 : decode cX1_allow 17 = .ok (.i2l, 1) := by decide +kernel
theorem dX1_allow_18 : decode cX1_allow 18 = .ok (.aload_n 0, 1) := by decide +kernel
theorem dX1_allow_19 : decode cX1_allow 19 = .ok (.getfield 11, 3) := by decide +kernel
theorem dX1_allow_22 : decode cX1_allow 22 = .ok (.iload_n 1, 1) := by decide +kernel
theorem dX1_allow_23 : decode cX1_allow 23 = .ok (.laload, 1) := by decide +kernel
theorem dX1_allow_24 : decode cX1_allow 24 = .ok (.lmul, 1) := by decide +kernel
theorem dX1_allow_25 : decode cX1_allow 25 = .ok (.lsub, 1) := by decide +kernel
theorem dX1_allow_26 : decode cX1_allow 26 = .ok (.lastore, 1) := by decide +kernel
theorem dX1_allow_27 : decode cX1_allow 27 = .ok (.return_, 1) := by decide +kernel
theorem dX1_replacePlan_0 : decode cX1_replacePlan 0 = .ok (.aload_n 0, 1) := by decide +kernel
theorem dX1_replacePlan_1 : decode cX1_replacePlan 1 = .ok (.iload_n 2, 1) := by decide +kernel
theorem dX1_replacePlan_2 : decode cX1_replacePlan 2 = .ok (.invokevirtual 39, 3) := by decide +kernel
theorem dX1_replacePlan_5 : decode cX1_replacePlan 5 = .ok (.aload_n 0, 1) := by decide +kernel
theorem dX1_replacePlan_6 : decode cX1_replacePlan 6 = .ok (.invokevirtual 43, 3) := by decide +kernel
theorem dX1_replacePlan_9 : decode cX1_replacePlan 9 = .ok (.aload_n 0, 1) := by decide +kernel
theorem dX1_replacePlan_10 : decode cX1_replacePlan 10 = .ok (.aload_n 0, 1) := by decide +kernel
theorem dX1_replacePlan_11 : decode cX1_replacePlan 11 = .ok (.getfield 26, 3) := by decide +kernel
theorem dX1_replacePlan_14 : decode cX1_replacePlan 14 = .ok (.iconst 0, 1) := by decide +kernel
theorem dX1_replacePlan_15 : decode cX1_replacePlan 15 = .ok (.laload, 1) := by decide +kernel
theorem dX1_replacePlan_16 : decode cX1_replacePlan 16 = .ok (.aload_n 1, 1) := by decide +kernel
theorem dX1_replacePlan_17 : decode cX1_replacePlan 17 = .ok (.invokevirtual 46, 3) := by decide +kernel
theorem dX1_replacePlan_20 : decode cX1_replacePlan 20 = .ok (.ireturn, 1) := by decide +kernel
theorem dX1_findRings_0 : decode cX1_findRings 0 = .ok (.iconst 0, 1) := by decide +kernel
theorem dX1_findRings_1 : decode cX1_findRings 1 = .ok (.istore_n 2, 1) := by decide +kernel
theorem dX1_findRings_2 : decode cX1_findRings 2 = .ok (.iload_n 2, 1) := by decide +kernel
theorem dX1_findRings_3 : decode cX1_findRings 3 = .ok (.iconst 1, 1) := by decide +kernel
theorem dX1_findRings_4 : decode cX1_findRings 4 = .ok (.aload_n 0, 1) := by decide +kernel
theorem dX1_findRings_5 : decode cX1_findRings 5 = .ok (.getfield 29, 3) := by decide +kernel
theorem dX1_findRings_8 : decode cX1_findRings 8 = .ok (.ishl, 1) := by decide +kernel
theorem dX1_findRings_9 : decode cX1_findRings 9 = .ok (.if_icmp .ge 18, 3) := by decide +kernel
theorem dX1_findRings_12 : decode cX1_findRings 12 = .ok (.aload_n 0, 1) := by decide +kernel
theorem dX1_findRings_13 : decode cX1_findRings 13 = .ok (.getfield 23, 3) := by decide +kernel
theorem dX1_findRings_16 : decode cX1_findRings 16 = .ok (.iload_n 2, 1) := by decide +kernel
theorem dX1_findRings_17 : decode cX1_findRings 17 = .ok (.ldc2_w 35, 3) := by decide +kernel
theorem dX1_findRings_20 : decode cX1_findRings 20 = .ok (.lastore, 1) := by decide +kernel
theorem dX1_findRings_21 : decode cX1_findRings 21 = .ok (.iinc 2 1, 3) := by decide +kernel
theorem dX1_findRings_24 : decode cX1_findRings 24 = .ok (.goto (-22), 3) := by decide +kernel
theorem dX1_findRings_27 : decode cX1_findRings 27 = .ok (.iconst 0, 1) := by decide +kernel
theorem dX1_findRings_28 : decode cX1_findRings 28 = .ok (.istore_n 2, 1) := by decide +kernel
theorem dX1_findRings_29 : decode cX1_findRings 29 = .ok (.iload_n 2, 1) := by decide +kernel
theorem dX1_findRings_30 : decode cX1_findRings 30 = .ok (.aload_n 0, 1) := by decide +kernel
theorem dX1_findRings_31 : decode cX1_findRings 31 = .ok (.getfield 29, 3) := by decide +kernel
theorem dX1_findRings_34 : decode cX1_findRings 34 = .ok (.if_icmp .ge 20, 3) := by decide +kernel
theorem dX1_findRings_37 : decode cX1_findRings 37 = .ok (.aload_n 0, 1) := by decide +kernel
theorem dX1_findRings_38 : decode cX1_findRings 38 = .ok (.iload_n 2, 1) := by decide +kernel
theorem dX1_findRings_39 : decode cX1_findRings 39 = .ok (.invokevirtual 50, 3) := by decide +kernel
theorem dX1_findRings_42 : decode cX1_findRings 42 = .ok (.aload_n 0, 1) := by decide +kernel
theorem dX1_findRings_43 : decode cX1_findRings 43 = .ok (.iload_n 2, 1) := by decide +kernel
theorem dX1_findRings_44 : decode cX1_findRings 44 = .ok (.iload_n 1, 1) := by decide +kernel
theorem dX1_findRings_45 : decode cX1_findRings 45 = .ok (.invokevirtual 53, 3) := by decide +kernel
theorem dX1_findRings_48 : decode cX1_findRings 48 = .ok (.iinc 2 1, 3) := by decide +kernel
theorem dX1_findRings_51 : decode cX1_findRings 51 = .ok (.goto (-22), 3) := by decide +kernel
theorem dX1_findRings_54 : decode cX1_findRings 54 = .ok (.return_, 1) := by decide +kernel
theorem dX1_openWays_0 : decode cX1_openWays 0 = .ok (.aload_n 0, 1) := by decide +kernel
theorem dX1_openWays_1 : decode cX1_openWays 1 = .ok (.getfield 29, 3) := by decide +kernel
theorem dX1_openWays_4 : decode cX1_openWays 4 = .ok (.iconst 1, 1) := by decide +kernel
theorem dX1_openWays_5 : decode cX1_openWays 5 = .ok (.isub, 1) := by decide +kernel
theorem dX1_openWays_6 : decode cX1_openWays 6 = .ok (.iload_n 1, 1) := by decide +kernel
theorem dX1_openWays_7 : decode cX1_openWays 7 = .ok (.isub, 1) := by decide +kernel
theorem dX1_openWays_8 : decode cX1_openWays 8 = .ok (.istore_n 2, 1) := by decide +kernel
theorem dX1_openWays_9 : decode cX1_openWays 9 = .ok (.iconst 1, 1) := by decide +kernel
theorem dX1_openWays_10 : decode cX1_openWays 10 = .ok (.iload_n 2, 1) := by decide +kernel
theorem dX1_openWays_11 : decode cX1_openWays 11 = .ok (.ishl, 1) := by decide +kernel
theorem dX1_openWays_12 : decode cX1_openWays 12 = .ok (.bipush 9, 2) := by decide +kernel
theorem dX1_openWays_14 : decode cX1_openWays 14 = .ok (.imul, 1) := by decide +kernel
theorem dX1_openWays_15 : decode cX1_openWays 15 = .ok (.istore_n 3, 1) := by decide +kernel
theorem dX1_openWays_16 : decode cX1_openWays 16 = .ok (.iconst 0, 1) := by decide +kernel
theorem dX1_openWays_17 : decode cX1_openWays 17 = .ok (.istore 4, 2) := by decide +kernel
theorem dX1_openWays_19 : decode cX1_openWays 19 = .ok (.iload 4, 2) := by decide +kernel
theorem dX1_openWays_21 : decode cX1_openWays 21 = .ok (.iload_n 3, 1) := by decide +kernel
theorem dX1_openWays_22 : decode cX1_openWays 22 = .ok (.if_icmp .ge 19, 3) := by decide +kernel
theorem dX1_openWays_25 : decode cX1_openWays 25 = .ok (.aload_n 0, 1) := by decide +kernel
theorem dX1_openWays_26 : decode cX1_openWays 26 = .ok (.getfield 20, 3) := by decide +kernel
theorem dX1_openWays_29 : decode cX1_openWays 29 = .ok (.iload 4, 2) := by decide +kernel
theorem dX1_openWays_31 : decode cX1_openWays 31 = .ok (.ldc2_w 35, 3) := by decide +kernel
theorem dX1_openWays_34 : decode cX1_openWays 34 = .ok (.lastore, 1) := by decide +kernel
theorem dX1_openWays_35 : decode cX1_openWays 35 = .ok (.iinc 4 1, 3) := by decide +kernel
theorem dX1_openWays_38 : decode cX1_openWays 38 = .ok (.goto (-19), 3) := by decide +kernel
theorem dX1_openWays_41 : decode cX1_openWays 41 = .ok (.iconst 0, 1) := by decide +kernel
theorem dX1_openWays_42 : decode cX1_openWays 42 = .ok (.istore 4, 2) := by decide +kernel
theorem dX1_openWays_44 : decode cX1_openWays 44 = .ok (.iload 4, 2) := by decide +kernel
theorem dX1_openWays_46 : decode cX1_openWays 46 = .ok (.iload_n 2, 1) := by decide +kernel
theorem dX1_openWays_47 : decode cX1_openWays 47 = .ok (.if_icmp .ge 40, 3) := by decide +kernel
theorem dX1_openWays_50 : decode cX1_openWays 50 = .ok (.aload_n 0, 1) := by decide +kernel
theorem dX1_openWays_51 : decode cX1_openWays 51 = .ok (.getfield 20, 3) := by decide +kernel
theorem dX1_openWays_54 : decode cX1_openWays 54 = .ok (.iconst 1, 1) := by decide +kernel
theorem dX1_openWays_55 : decode cX1_openWays 55 = .ok (.iload 4, 2) := by decide +kernel
theorem dX1_openWays_57 : decode cX1_openWays 57 = .ok (.ishl, 1) := by decide +kernel
theorem dX1_openWays_58 : decode cX1_openWays 58 = .ok (.bipush 9, 2) := by decide +kernel
theorem dX1_openWays_60 : decode cX1_openWays 60 = .ok (.imul, 1) := by decide +kernel
theorem dX1_openWays_61 : decode cX1_openWays 61 = .ok (.iload 4, 2) := by decide +kernel
theorem dX1_openWays_63 : decode cX1_openWays 63 = .ok (.iadd, 1) := by decide +kernel
theorem dX1_openWays_64 : decode cX1_openWays 64 = .ok (.aload_n 0, 1) := by decide +kernel
theorem dX1_openWays_65 : decode cX1_openWays 65 = .ok (.getfield 17, 3) := by decide +kernel
theorem dX1_openWays_68 : decode cX1_openWays 68 = .ok (.iload_n 1, 1) := by decide +kernel
theorem dX1_openWays_69 : decode cX1_openWays 69 = .ok (.bipush 10, 2) := by decide +kernel
theorem dX1_openWays_71 : decode cX1_openWays 71 = .ok (.imul, 1) := by decide +kernel
theorem dX1_openWays_72 : decode cX1_openWays 72 = .ok (.iload_n 1, 1) := by decide +kernel
theorem dX1_openWays_73 : decode cX1_openWays 73 = .ok (.iadd, 1) := by decide +kernel
theorem dX1_openWays_74 : decode cX1_openWays 74 = .ok (.iconst 1, 1) := by decide +kernel
theorem dX1_openWays_75 : decode cX1_openWays 75 = .ok (.iadd, 1) := by decide +kernel
theorem dX1_openWays_76 : decode cX1_openWays 76 = .ok (.iload 4, 2) := by decide +kernel
theorem dX1_openWays_78 : decode cX1_openWays 78 = .ok (.iadd, 1) := by decide +kernel
theorem dX1_openWays_79 : decode cX1_openWays 79 = .ok (.laload, 1) := by decide +kernel
theorem dX1_openWays_80 : decode cX1_openWays 80 = .ok (.lastore, 1) := by decide +kernel
theorem dX1_openWays_81 : decode cX1_openWays 81 = .ok (.iinc 4 1, 3) := by decide +kernel
theorem dX1_openWays_84 : decode cX1_openWays 84 = .ok (.goto (-40), 3) := by decide +kernel
theorem dX1_openWays_87 : decode cX1_openWays 87 = .ok (.return_, 1) := by decide +kernel
theorem dX1_growWays_0 : decode cX1_growWays 0 = .ok (.aload_n 0, 1) := by decide +kernel
theorem dX1_growWays_1 : decode cX1_growWays 1 = .ok (.getfield 29, 3) := by decide +kernel
theorem dX1_growWays_4 : decode cX1_growWays 4 = .ok (.iconst 1, 1) := by decide +kernel
theorem dX1_growWays_5 : decode cX1_growWays 5 = .ok (.isub, 1) := by decide +kernel
theorem dX1_growWays_6 : decode cX1_growWays 6 = .ok (.iload_n 1, 1) := by decide +kernel
theorem dX1_growWays_7 : decode cX1_growWays 7 = .ok (.isub, 1) := by decide +kernel
theorem dX1_growWays_8 : decode cX1_growWays 8 = .ok (.istore_n 3, 1) := by decide +kernel
theorem dX1_growWays_9 : decode cX1_growWays 9 = .ok (.iconst 1, 1) := by decide +kernel
theorem dX1_growWays_10 : decode cX1_growWays 10 = .ok (.istore 4, 2) := by decide +kernel
theorem dX1_growWays_12 : decode cX1_growWays 12 = .ok (.iload 4, 2) := by decide +kernel
theorem dX1_growWays_14 : decode cX1_growWays 14 = .ok (.iconst 1, 1) := by decide +kernel
theorem dX1_growWays_15 : decode cX1_growWays 15 = .ok (.iload_n 3, 1) := by decide +kernel
theorem dX1_growWays_16 : decode cX1_growWays 16 = .ok (.ishl, 1) := by decide +kernel
theorem dX1_growWays_17 : decode cX1_growWays 17 = .ok (.if_icmp .ge 83, 3) := by decide +kernel
theorem dX1_growWays_20 : decode cX1_growWays 20 = .ok (.iload 4, 2) := by decide +kernel
theorem dX1_growWays_22 : decode cX1_growWays 22 = .ok (.invokestatic 57, 3) := by decide +kernel
theorem dX1_growWays_25 : decode cX1_growWays 25 = .ok (.iconst 1, 1) := by decide +kernel
theorem dX1_growWays_26 : decode cX1_growWays 26 = .ok (.iadd, 1) := by decide +kernel
theorem dX1_growWays_27 : decode cX1_growWays 27 = .ok (.istore 5, 2) := by decide +kernel
theorem dX1_growWays_29 : decode cX1_growWays 29 = .ok (.iconst 0, 1) := by decide +kernel
theorem dX1_growWays_30 : decode cX1_growWays 30 = .ok (.istore 6, 2) := by decide +kernel
theorem dX1_growWays_32 : decode cX1_growWays 32 = .ok (.iload 6, 2) := by decide +kernel
theorem dX1_growWays_34 : decode cX1_growWays 34 = .ok (.iload_n 3, 1) := by decide +kernel
theorem dX1_growWays_35 : decode cX1_growWays 35 = .ok (.if_icmp .ge 59, 3) := by decide +kernel
theorem dX1_growWays_38 : decode cX1_growWays 38 = .ok (.iload 5, 2) := by decide +kernel
theorem dX1_growWays_40 : decode cX1_growWays 40 = .ok (.iload_n 2, 1) := by decide +kernel
theorem dX1_growWays_41 : decode cX1_growWays 41 = .ok (.if_icmp .gt 53, 3) := by decide +kernel
theorem dX1_growWays_44 : decode cX1_growWays 44 = .ok (.aload_n 0, 1) := by decide +kernel
theorem dX1_growWays_45 : decode cX1_growWays 45 = .ok (.getfield 20, 3) := by decide +kernel
theorem dX1_growWays_48 : decode cX1_growWays 48 = .ok (.iload 4, 2) := by decide +kernel
theorem dX1_growWays_50 : decode cX1_growWays 50 = .ok (.bipush 9, 2) := by decide +kernel
theorem dX1_growWays_52 : decode cX1_growWays 52 = .ok (.imul, 1) := by decide +kernel
theorem dX1_growWays_53 : decode cX1_growWays 53 = .ok (.iload 6, 2) := by decide +kernel
theorem dX1_growWays_55 : decode cX1_growWays 55 = .ok (.iadd, 1) := by decide +kernel
theorem dX1_growWays_56 : decode cX1_growWays 56 = .ok (.laload, 1) := by decide +kernel
theorem dX1_growWays_57 : decode cX1_growWays 57 = .ok (.ldc2_w 35, 3) := by decide +kernel
theorem dX1_growWays_60 : decode cX1_growWays 60 = .ok (.lcmp, 1) := by decide +kernel
theorem dX1_growWays_61 : decode cX1_growWays 61 = .ok (.ifCond .eq 27, 3) := by decide +kernel
theorem dX1_growWays_64 : decode cX1_growWays 64 = .ok (.aload_n 0, 1) := by decide +kernel
theorem dX1_growWays_65 : decode cX1_growWays 65 = .ok (.iload_n 1, 1) := by decide +kernel
theorem dX1_growWays_66 : decode cX1_growWays 66 = .ok (.iload 4, 2) := by decide +kernel
theorem dX1_growWays_68 : decode cX1_growWays 68 = .ok (.iload 6, 2) := by decide +kernel
theorem dX1_growWays_70 : decode cX1_growWays 70 = .ok (.invokevirtual 63, 3) := by decide +kernel
theorem dX1_growWays_73 : decode cX1_growWays 73 = .ok (.iload 5, 2) := by decide +kernel
theorem dX1_growWays_75 : decode cX1_growWays 75 = .ok (.iload_n 2, 1) := by decide +kernel
theorem dX1_growWays_76 : decode cX1_growWays 76 = .ok (.if_icmp .ge 12, 3) := by decide +kernel
theorem dX1_growWays_79 : decode cX1_growWays 79 = .ok (.aload_n 0, 1) := by decide +kernel
theorem dX1_growWays_80 : decode cX1_growWays 80 = .ok (.iload_n 1, 1) := by decide +kernel
theorem dX1_growWays_81 : decode cX1_growWays 81 = .ok (.iload 4, 2) := by decide +kernel
theorem dX1_growWays_83 : decode cX1_growWays 83 = .ok (.iload 6, 2) := by decide +kernel
theorem dX1_growWays_85 : decode cX1_growWays 85 = .ok (.invokevirtual 67, 3) := by decide +kernel
theorem dX1_growWays_88 : decode cX1_growWays 88 = .ok (.iinc 6 1, 3) := by decide +kernel
theorem dX1_growWays_91 : decode cX1_growWays 91 = .ok (.goto (-59), 3) := by decide +kernel
theorem dX1_growWays_94 : decode cX1_growWays 94 = .ok (.iinc 4 1, 3) := by decide +kernel
theorem dX1_growWays_97 : decode cX1_growWays 97 = .ok (.goto (-85), 3) := by decide +kernel
theorem dX1_growWays_100 : decode cX1_growWays 100 = .ok (.return_, 1) := by decide +kernel
theorem dX1_closeWay_0 : decode cX1_closeWay 0 = .ok (.aload_n 0, 1) := by decide +kernel
theorem dX1_closeWay_1 : decode cX1_closeWay 1 = .ok (.getfield 17, 3) := by decide +kernel
theorem dX1_closeWay_4 : decode cX1_closeWay 4 = .ok (.iload_n 1, 1) := by decide +kernel
theorem dX1_closeWay_5 : decode cX1_closeWay 5 = .ok (.iconst 1, 1) := by decide +kernel
theorem dX1_closeWay_6 : decode cX1_closeWay 6 = .ok (.iadd, 1) := by decide +kernel
theorem dX1_closeWay_7 : decode cX1_closeWay 7 = .ok (.iload_n 3, 1) := by decide +kernel
theorem dX1_closeWay_8 : decode cX1_closeWay 8 = .ok (.iadd, 1) := by decide +kernel
theorem dX1_closeWay_9 : decode cX1_closeWay 9 = .ok (.bipush 10, 2) := by decide +kernel
theorem dX1_closeWay_11 : decode cX1_closeWay 11 = .ok (.imul, 1) := by decide +kernel
theorem dX1_closeWay_12 : decode cX1_closeWay 12 = .ok (.iload_n 1, 1) := by decide +kernel
theorem dX1_closeWay_13 : decode cX1_closeWay 13 = .ok (.iadd, 1) := by decide +kernel
theorem dX1_closeWay_14 : decode cX1_closeWay 14 = .ok (.laload, 1) := by decide +kernel
theorem dX1_closeWay_15 : decode cX1_closeWay 15 = .ok (.lstore 4, 2) := by decide +kernel
theorem dX1_closeWay_17 : decode cX1_closeWay 17 = .ok (.lload 4, 2) := by decide +kernel
theorem dX1_closeWay_19 : decode cX1_closeWay 19 = .ok (.ldc2_w 35, 3) := by decide +kernel
theorem dX1_closeWay_22 : decode cX1_closeWay 22 = .ok (.lcmp, 1) := by decide +kernel
theorem dX1_closeWay_23 : decode cX1_closeWay 23 = .ok (.ifCond .eq 45, 3) := by decide +kernel
theorem dX1_closeWay_26 : decode cX1_closeWay 26 = .ok (.iload_n 2, 1) := by decide +kernel
theorem dX1_closeWay_27 : decode cX1_closeWay 27 = .ok (.iload_n 1, 1) := by decide +kernel
theorem dX1_closeWay_28 : decode cX1_closeWay 28 = .ok (.iconst 1, 1) := by decide +kernel
theorem dX1_closeWay_29 : decode cX1_closeWay 29 = .ok (.iadd, 1) := by decide +kernel
theorem dX1_closeWay_30 : decode cX1_closeWay 30 = .ok (.ishl, 1) := by decide +kernel
theorem dX1_closeWay_31 : decode cX1_closeWay 31 = .ok (.iconst 1, 1) := by decide +kernel
theorem dX1_closeWay_32 : decode cX1_closeWay 32 = .ok (.iload_n 1, 1) := by decide +kernel
theorem dX1_closeWay_33 : decode cX1_closeWay 33 = .ok (.ishl, 1) := by decide +kernel
theorem dX1_closeWay_34 : decode cX1_closeWay 34 = .ok (.ior, 1) := by decide +kernel
theorem dX1_closeWay_35 : decode cX1_closeWay 35 = .ok (.istore 6, 2) := by decide +kernel
theorem dX1_closeWay_37 : decode cX1_closeWay 37 = .ok (.aload_n 0, 1) := by decide +kernel
theorem dX1_closeWay_38 : decode cX1_closeWay 38 = .ok (.getfield 23, 3) := by decide +kernel
theorem dX1_closeWay_41 : decode cX1_closeWay 41 = .ok (.iload 6, 2) := by decide +kernel
theorem dX1_closeWay_43 : decode cX1_closeWay 43 = .ok (.aload_n 0, 1) := by decide +kernel
theorem dX1_closeWay_44 : decode cX1_closeWay 44 = .ok (.getfield 23, 3) := by decide +kernel
theorem dX1_closeWay_47 : decode cX1_closeWay 47 = .ok (.iload 6, 2) := by decide +kernel
theorem dX1_closeWay_49 : decode cX1_closeWay 49 = .ok (.laload, 1) := by decide +kernel
theorem dX1_closeWay_50 : decode cX1_closeWay 50 = .ok (.aload_n 0, 1) := by decide +kernel
theorem dX1_closeWay_51 : decode cX1_closeWay 51 = .ok (.getfield 20, 3) := by decide +kernel
theorem dX1_closeWay_54 : decode cX1_closeWay 54 = .ok (.iload_n 2, 1) := by decide +kernel
theorem dX1_closeWay_55 : decode cX1_closeWay 55 = .ok (.bipush 9, 2) := by decide +kernel
theorem dX1_closeWay_57 : decode cX1_closeWay 57 = .ok (.imul, 1) := by decide +kernel
theorem dX1_closeWay_58 : decode cX1_closeWay 58 = .ok (.iload_n 3, 1) := by decide +kernel
theorem dX1_closeWay_59 : decode cX1_closeWay 59 = .ok (.iadd, 1) := by decide +kernel
theorem dX1_closeWay_60 : decode cX1_closeWay 60 = .ok (.laload, 1) := by decide +kernel
theorem dX1_closeWay_61 : decode cX1_closeWay 61 = .ok (.lload 4, 2) := by decide +kernel
theorem dX1_closeWay_63 : decode cX1_closeWay 63 = .ok (.ladd, 1) := by decide +kernel
theorem dX1_closeWay_64 : decode cX1_closeWay 64 = .ok (.invokestatic 70, 3) := by decide +kernel
theorem dX1_closeWay_67 : decode cX1_closeWay 67 = .ok (.lastore, 1) := by decide +kernel
theorem dX1_closeWay_68 : decode cX1_closeWay 68 = .ok (.return_, 1) := by decide +kernel
theorem dX1_growWay_0 : decode cX1_growWay 0 = .ok (.aload_n 0, 1) := by decide +kernel
theorem dX1_growWay_1 : decode cX1_growWay 1 = .ok (.getfield 29, 3) := by decide +kernel
theorem dX1_growWay_4 : decode cX1_growWay 4 = .ok (.iconst 1, 1) := by decide +kernel
theorem dX1_growWay_5 : decode cX1_growWay 5 = .ok (.isub, 1) := by decide +kernel
theorem dX1_growWay_6 : decode cX1_growWay 6 = .ok (.iload_n 1, 1) := by decide +kernel
theorem dX1_growWay_7 : decode cX1_growWay 7 = .ok (.isub, 1) := by decide +kernel
theorem dX1_growWay_8 : decode cX1_growWay 8 = .ok (.istore 4, 2) := by decide +kernel
theorem dX1_growWay_10 : decode cX1_growWay 10 = .ok (.iload_n 1, 1) := by decide +kernel
theorem dX1_growWay_11 : decode cX1_growWay 11 = .ok (.iconst 1, 1) := by decide +kernel
theorem dX1_growWay_12 : decode cX1_growWay 12 = .ok (.iadd, 1) := by decide +kernel
theorem dX1_growWay_13 : decode cX1_growWay 13 = .ok (.iload_n 3, 1) := by decide +kernel
theorem dX1_growWay_14 : decode cX1_growWay 14 = .ok (.iadd, 1) := by decide +kernel
theorem dX1_growWay_15 : decode cX1_growWay 15 = .ok (.bipush 10, 2) := by decide +kernel
theorem dX1_growWay_17 : decode cX1_growWay 17 = .ok (.imul, 1) := by decide +kernel
theorem dX1_growWay_18 : decode cX1_growWay 18 = .ok (.iload_n 1, 1) := by decide +kernel
theorem dX1_growWay_19 : decode cX1_growWay 19 = .ok (.iadd, 1) := by decide +kernel
theorem dX1_growWay_20 : decode cX1_growWay 20 = .ok (.iconst 1, 1) := by decide +kernel
theorem dX1_growWay_21 : decode cX1_growWay 21 = .ok (.iadd, 1) := by decide +kernel
theorem dX1_growWay_22 : decode cX1_growWay 22 = .ok (.istore 5, 2) := by decide +kernel
theorem dX1_growWay_24 : decode cX1_growWay 24 = .ok (.iconst 0, 1) := by decide +kernel
theorem dX1_growWay_25 : decode cX1_growWay 25 = .ok (.istore 6, 2) := by decide +kernel
theorem dX1_growWay_27 : decode cX1_growWay 27 = .ok (.iload 6, 2) := by decide +kernel
theorem dX1_growWay_29 : decode cX1_growWay 29 = .ok (.iload 4, 2) := by decide +kernel
theorem dX1_growWay_31 : decode cX1_growWay 31 = .ok (.if_icmp .ge 88, 3) := by decide +kernel
theorem dX1_growWay_34 : decode cX1_growWay 34 = .ok (.iload_n 2, 1) := by decide +kernel
theorem dX1_growWay_35 : decode cX1_growWay 35 = .ok (.iload 6, 2) := by decide +kernel
theorem dX1_growWay_37 : decode cX1_growWay 37 = .ok (.ishr, 1) := by decide +kernel
theorem dX1_growWay_38 : decode cX1_growWay 38 = .ok (.iconst 1, 1) := by decide +kernel
theorem dX1_growWay_39 : decode cX1_growWay 39 = .ok (.iand, 1) := by decide +kernel
theorem dX1_growWay_40 : decode cX1_growWay 40 = .ok (.ifCond .ne 73, 3) := by decide +kernel
theorem dX1_growWay_43 : decode cX1_growWay 43 = .ok (.aload_n 0, 1) := by decide +kernel
theorem dX1_growWay_44 : decode cX1_growWay 44 = .ok (.getfield 17, 3) := by decide +kernel
theorem dX1_growWay_47 : decode cX1_growWay 47 = .ok (.iload 5, 2) := by decide +kernel
theorem dX1_growWay_49 : decode cX1_growWay 49 = .ok (.iload 6, 2) := by decide +kernel
theorem dX1_growWay_51 : decode cX1_growWay 51 = .ok (.iadd, 1) := by decide +kernel
theorem dX1_growWay_52 : decode cX1_growWay 52 = .ok (.laload, 1) := by decide +kernel
theorem dX1_growWay_53 : decode cX1_growWay 53 = .ok (.ldc2_w 35, 3) := by decide +kernel
theorem dX1_growWay_56 : decode cX1_growWay 56 = .ok (.lcmp, 1) := by decide +kernel
theorem dX1_growWay_57 : decode cX1_growWay 57 = .ok (.ifCond .eq 56, 3) := by decide +kernel
theorem dX1_growWay_60 : decode cX1_growWay 60 = .ok (.iload_n 2, 1) := by decide +kernel
theorem dX1_growWay_61 : decode cX1_growWay 61 = .ok (.iconst 1, 1) := by decide +kernel
theorem dX1_growWay_62 : decode cX1_growWay 62 = .ok (.iload 6, 2) := by decide +kernel
theorem dX1_growWay_64 : decode cX1_growWay 64 = .ok (.ishl, 1) := by decide +kernel
theorem dX1_growWay_65 : decode cX1_growWay 65 = .ok (.ior, 1) := by decide +kernel
theorem dX1_growWay_66 : decode cX1_growWay 66 = .ok (.bipush 9, 2) := by decide +kernel
theorem dX1_growWay_68 : decode cX1_growWay 68 = .ok (.imul, 1) := by decide +kernel
theorem dX1_growWay_69 : decode cX1_growWay 69 = .ok (.iload 6, 2) := by decide +kernel
theorem dX1_growWay_71 : decode cX1_growWay 71 = .ok (.iadd, 1) := by decide +kernel
theorem dX1_growWay_72 : decode cX1_growWay 72 = .ok (.istore 7, 2) := by decide +kernel
theorem dX1_growWay_74 : decode cX1_growWay 74 = .ok (.aload_n 0, 1) := by decide +kernel
theorem dX1_growWay_75 : decode cX1_growWay 75 = .ok (.getfield 20, 3) := by decide +kernel
theorem dX1_growWay_78 : decode cX1_growWay 78 = .ok (.iload 7, 2) := by decide +kernel
theorem dX1_growWay_80 : decode cX1_growWay 80 = .ok (.aload_n 0, 1) := by decide +kernel
theorem dX1_growWay_81 : decode cX1_growWay 81 = .ok (.getfield 20, 3) := by decide +kernel
theorem dX1_growWay_84 : decode cX1_growWay 84 = .ok (.iload 7, 2) := by decide +kernel
theorem dX1_growWay_86 : decode cX1_growWay 86 = .ok (.laload, 1) := by decide +kernel
theorem dX1_growWay_87 : decode cX1_growWay 87 = .ok (.aload_n 0, 1) := by decide +kernel
theorem dX1_growWay_88 : decode cX1_growWay 88 = .ok (.getfield 20, 3) := by decide +kernel
theorem dX1_growWay_91 : decode cX1_growWay 91 = .ok (.iload_n 2, 1) := by decide +kernel
theorem dX1_growWay_92 : decode cX1_growWay 92 = .ok (.bipush 9, 2) := by decide +kernel
theorem dX1_growWay_94 : decode cX1_growWay 94 = .ok (.imul, 1) := by decide +kernel
theorem dX1_growWay_95 : decode cX1_growWay 95 = .ok (.iload_n 3, 1) := by decide +kernel
theorem dX1_growWay_96 : decode cX1_growWay 96 = .ok (.iadd, 1) := by decide +kernel
theorem dX1_growWay_97 : decode cX1_growWay 97 = .ok (.laload, 1) := by decide +kernel
theorem dX1_growWay_98 : decode cX1_growWay 98 = .ok (.aload_n 0, 1) := by decide +kernel
theorem dX1_growWay_99 : decode cX1_growWay 99 = .ok (.getfield 17, 3) := by decide +kernel
theorem dX1_growWay_102 : decode cX1_growWay 102 = .ok (.iload 5, 2) := by decide +kernel
theorem dX1_growWay_104 : decode cX1_growWay 104 = .ok (.iload 6, 2) := by decide +kernel
theorem dX1_growWay_106 : decode cX1_growWay 106 = .ok (.iadd, 1) := by decide +kernel
theorem dX1_growWay_107 : decode cX1_growWay 107 = .ok (.laload, 1) := by decide +kernel
theorem dX1_growWay_108 : decode cX1_growWay 108 = .ok (.ladd, 1) := by decide +kernel
theorem dX1_growWay_109 : decode cX1_growWay 109 = .ok (.invokestatic 70, 3) := by decide +kernel
theorem dX1_growWay_112 : decode cX1_growWay 112 = .ok (.lastore, 1) := by decide +kernel
theorem dX1_growWay_113 : decode cX1_growWay 113 = .ok (.iinc 6 1, 3) := by decide +kernel
theorem dX1_growWay_116 : decode cX1_growWay 116 = .ok (.goto (-89), 3) := by decide +kernel
theorem dX1_growWay_119 : decode cX1_growWay 119 = .ok (.return_, 1) := by decide +kernel
theorem dX1_settleAll_0 : decode cX1_settleAll 0 = .ok (.iconst 1, 1) := by decide +kernel
theorem dX1_settleAll_1 : decode cX1_settleAll 1 = .ok (.aload_n 0, 1) := by decide +kernel
theorem dX1_settleAll_2 : decode cX1_settleAll 2 = .ok (.getfield 29, 3) := by decide +kernel
theorem dX1_settleAll_5 : decode cX1_settleAll 5 = .ok (.ishl, 1) := by decide +kernel
theorem dX1_settleAll_6 : decode cX1_settleAll 6 = .ok (.iconst 1, 1) := by decide +kernel
theorem dX1_settleAll_7 : decode cX1_settleAll 7 = .ok (.isub, 1) := by decide +kernel
theorem dX1_settleAll_8 : decode cX1_settleAll 8 = .ok (.istore_n 1, 1) := by decide +kernel
theorem dX1_settleAll_9 : decode cX1_settleAll 9 = .ok (.iconst 0, 1) := by decide +kernel
theorem dX1_settleAll_10 : decode cX1_settleAll 10 = .ok (.istore_n 2, 1) := by decide +kernel
theorem dX1_settleAll_11 : decode cX1_settleAll 11 = .ok (.iload_n 2, 1) := by decide +kernel
theorem dX1_settleAll_12 : decode cX1_settleAll 12 = .ok (.iload_n 1, 1) := by decide +kernel
theorem dX1_settleAll_13 : decode cX1_settleAll 13 = .ok (.if_icmp .ge 18, 3) := by decide +kernel
theorem dX1_settleAll_16 : decode cX1_settleAll 16 = .ok (.aload_n 0, 1) := by decide +kernel
theorem dX1_settleAll_17 : decode cX1_settleAll 17 = .ok (.getfield 26, 3) := by decide +kernel
theorem dX1_settleAll_20 : decode cX1_settleAll 20 = .ok (.iload_n 2, 1) := by decide +kernel
theorem dX1_settleAll_21 : decode cX1_settleAll 21 = .ok (.ldc2_w 35, 3) := by decide +kernel
theorem dX1_settleAll_24 : decode cX1_settleAll 24 = .ok (.lastore, 1) := by decide +kernel
theorem dX1_settleAll_25 : decode cX1_settleAll 25 = .ok (.iinc 2 1, 3) := by decide +kernel
theorem dX1_settleAll_28 : decode cX1_settleAll 28 = .ok (.goto (-17), 3) := by decide +kernel
theorem dX1_settleAll_31 : decode cX1_settleAll 31 = .ok (.aload_n 0, 1) := by decide +kernel
theorem dX1_settleAll_32 : decode cX1_settleAll 32 = .ok (.getfield 26, 3) := by decide +kernel
theorem dX1_settleAll_35 : decode cX1_settleAll 35 = .ok (.iload_n 1, 1) := by decide +kernel
theorem dX1_settleAll_36 : decode cX1_settleAll 36 = .ok (.lconst 0, 1) := by decide +kernel
theorem dX1_settleAll_37 : decode cX1_settleAll 37 = .ok (.lastore, 1) := by decide +kernel
theorem dX1_settleAll_38 : decode cX1_settleAll 38 = .ok (.iload_n 1, 1) := by decide +kernel
theorem dX1_settleAll_39 : decode cX1_settleAll 39 = .ok (.istore_n 2, 1) := by decide +kernel
theorem dX1_settleAll_40 : decode cX1_settleAll 40 = .ok (.iload_n 2, 1) := by decide +kernel
theorem dX1_settleAll_41 : decode cX1_settleAll 41 = .ok (.ifCond .le 27, 3) := by decide +kernel
theorem dX1_settleAll_44 : decode cX1_settleAll 44 = .ok (.aload_n 0, 1) := by decide +kernel
theorem dX1_settleAll_45 : decode cX1_settleAll 45 = .ok (.getfield 26, 3) := by decide +kernel
theorem dX1_settleAll_48 : decode cX1_settleAll 48 = .ok (.iload_n 2, 1) := by decide +kernel
theorem dX1_settleAll_49 : decode cX1_settleAll 49 = .ok (.laload, 1) := by decide +kernel
theorem dX1_settleAll_50 : decode cX1_settleAll 50 = .ok (.ldc2_w 35, 3) := by decide +kernel
theorem dX1_settleAll_53 : decode cX1_settleAll 53 = .ok (.lcmp, 1) := by decide +kernel
theorem dX1_settleAll_54 : decode cX1_settleAll 54 = .ok (.ifCond .eq 8, 3) := by decide +kernel
theorem dX1_settleAll_57 : decode cX1_settleAll 57 = .ok (.aload_n 0, 1) := by decide +kernel
theorem dX1_settleAll_58 : decode cX1_settleAll 58 = .ok (.iload_n 2, 1) := by decide +kernel
theorem dX1_settleAll_59 : decode cX1_settleAll 59 = .ok (.invokevirtual 76, 3) := by decide +kernel
theorem dX1_settleAll_62 : decode cX1_settleAll 62 = .ok (.iinc 2 (-1), 3) := by decide +kernel
theorem dX1_settleAll_65 : decode cX1_settleAll 65 = .ok (.goto (-25), 3) := by decide +kernel
theorem dX1_settleAll_68 : decode cX1_settleAll 68 = .ok (.return_, 1) := by decide +kernel
theorem dX1_settleFirst_0 : decode cX1_settleFirst 0 = .ok (.iload_n 1, 1) := by decide +kernel
theorem dX1_settleFirst_1 : decode cX1_settleFirst 1 = .ok (.iload_n 1, 1) := by decide +kernel
theorem dX1_settleFirst_2 : decode cX1_settleFirst 2 = .ok (.iconst 1, 1) := by decide +kernel
theorem dX1_settleFirst_3 : decode cX1_settleFirst 3 = .ok (.isub, 1) := by decide +kernel
theorem dX1_settleFirst_4 : decode cX1_settleFirst 4 = .ok (.iand, 1) := by decide +kernel
theorem dX1_settleFirst_5 : decode cX1_settleFirst 5 = .ok (.istore_n 2, 1) := by decide +kernel
theorem dX1_settleFirst_6 : decode cX1_settleFirst 6 = .ok (.iload_n 1, 1) := by decide +kernel
theorem dX1_settleFirst_7 : decode cX1_settleFirst 7 = .ok (.iload_n 2, 1) := by decide +kernel
theorem dX1_settleFirst_8 : decode cX1_settleFirst 8 = .ok (.ixor, 1) := by decide +kernel
theorem dX1_settleFirst_9 : decode cX1_settleFirst 9 = .ok (.istore_n 3, 1) := by decide +kernel
theorem dX1_settleFirst_10 : decode cX1_settleFirst 10 = .ok (.iload_n 3, 1) := by decide +kernel
theorem dX1_settleFirst_11 : decode cX1_settleFirst 11 = .ok (.iconst 1, 1) := by decide +kernel
theorem dX1_settleFirst_12 : decode cX1_settleFirst 12 = .ok (.isub, 1) := by decide +kernel
theorem dX1_settleFirst_13 : decode cX1_settleFirst 13 = .ok (.invokestatic 57, 3) := by decide +kernel
theorem dX1_settleFirst_16 : decode cX1_settleFirst 16 = .ok (.istore 4, 2) := by decide +kernel
theorem dX1_settleFirst_18 : decode cX1_settleFirst 18 = .ok (.aload_n 0, 1) := by decide +kernel
theorem dX1_settleFirst_19 : decode cX1_settleFirst 19 = .ok (.getfield 26, 3) := by decide +kernel
theorem dX1_settleFirst_22 : decode cX1_settleFirst 22 = .ok (.iload_n 2, 1) := by decide +kernel
theorem dX1_settleFirst_23 : decode cX1_settleFirst 23 = .ok (.aload_n 0, 1) := by decide +kernel
theorem dX1_settleFirst_24 : decode cX1_settleFirst 24 = .ok (.getfield 26, 3) := by decide +kernel
theorem dX1_settleFirst_27 : decode cX1_settleFirst 27 = .ok (.iload_n 2, 1) := by decide +kernel
theorem dX1_settleFirst_28 : decode cX1_settleFirst 28 = .ok (.laload, 1) := by decide +kernel
theorem dX1_settleFirst_29 : decode cX1_settleFirst 29 = .ok (.aload_n 0, 1) := by decide +kernel
theorem dX1_settleFirst_30 : decode cX1_settleFirst 30 = .ok (.getfield 26, 3) := by decide +kernel
theorem dX1_settleFirst_33 : decode cX1_settleFirst 33 = .ok (.iload_n 1, 1) := by decide +kernel
theorem dX1_settleFirst_34 : decode cX1_settleFirst 34 = .ok (.laload, 1) := by decide +kernel
theorem dX1_settleFirst_35 : decode cX1_settleFirst 35 = .ok (.ldc2_w 79, 3) := by decide +kernel
theorem dX1_settleFirst_38 : decode cX1_settleFirst 38 = .ok (.aload_n 0, 1) := by decide +kernel
theorem dX1_settleFirst_39 : decode cX1_settleFirst 39 = .ok (.getfield 11, 3) := by decide +kernel
theorem dX1_settleFirst_42 : decode cX1_settleFirst 42 = .ok (.iload 4, 2) := by decide +kernel
theorem dX1_settleFirst_44 : decode cX1_settleFirst 44 = .ok (.laload, 1) := by decide +kernel
theorem dX1_settleFirst_45 : decode cX1_settleFirst 45 = .ok (.lmul, 1) := by decide +kernel
theorem dX1_settleFirst_46 : decode cX1_settleFirst 46 = .ok (.lsub, 1) := by decide +kernel
theorem dX1_settleFirst_47 : decode cX1_settleFirst 47 = .ok (.invokestatic 70, 3) := by decide +kernel
theorem dX1_settleFirst_50 : decode cX1_settleFirst 50 = .ok (.lastore, 1) := by decide +kernel
theorem dX1_settleFirst_51 : decode cX1_settleFirst 51 = .ok (.iload_n 2, 1) := by decide +kernel
theorem dX1_settleFirst_52 : decode cX1_settleFirst 52 = .ok (.istore 5, 2) := by decide +kernel
theorem dX1_settleFirst_54 : decode cX1_settleFirst 54 = .ok (.iload 5, 2) := by decide +kernel
theorem dX1_settleFirst_56 : decode cX1_settleFirst 56 = .ok (.ifCond .le 69, 3) := by decide +kernel
theorem dX1_settleFirst_59 : decode cX1_settleFirst 59 = .ok (.aload_n 0, 1) := by decide +kernel
theorem dX1_settleFirst_60 : decode cX1_settleFirst 60 = .ok (.getfield 23, 3) := by decide +kernel
theorem dX1_settleFirst_63 : decode cX1_settleFirst 63 = .ok (.iload 5, 2) := by decide +kernel
theorem dX1_settleFirst_65 : decode cX1_settleFirst 65 = .ok (.iload_n 3, 1) := by decide +kernel
theorem dX1_settleFirst_66 : decode cX1_settleFirst 66 = .ok (.ior, 1) := by decide +kernel
theorem dX1_settleFirst_67 : decode cX1_settleFirst 67 = .ok (.laload, 1) := by decide +kernel
theorem dX1_settleFirst_68 : decode cX1_settleFirst 68 = .ok (.ldc2_w 35, 3) := by decide +kernel
theorem dX1_settleFirst_71 : decode cX1_settleFirst 71 = .ok (.lcmp, 1) := by decide +kernel
theorem dX1_settleFirst_72 : decode cX1_settleFirst 72 = .ok (.ifCond .eq 42, 3) := by decide +kernel
theorem dX1_settleFirst_75 : decode cX1_settleFirst 75 = .ok (.iload_n 2, 1) := by decide +kernel
theorem dX1_settleFirst_76 : decode cX1_settleFirst 76 = .ok (.iload 5, 2) := by decide +kernel
theorem dX1_settleFirst_78 : decode cX1_settleFirst 78 = .ok (.ixor, 1) := by decide +kernel
theorem dX1_settleFirst_79 : decode cX1_settleFirst 79 = .ok (.istore 6, 2) := by decide +kernel
theorem dX1_settleFirst_81 : decode cX1_settleFirst 81 = .ok (.aload_n 0, 1) := by decide +kernel
theorem dX1_settleFirst_82 : decode cX1_settleFirst 82 = .ok (.getfield 26, 3) := by decide +kernel
theorem dX1_settleFirst_85 : decode cX1_settleFirst 85 = .ok (.iload 6, 2) := by decide +kernel
theorem dX1_settleFirst_87 : decode cX1_settleFirst 87 = .ok (.aload_n 0, 1) := by decide +kernel
theorem dX1_settleFirst_88 : decode cX1_settleFirst 88 = .ok (.getfield 26, 3) := by decide +kernel
theorem dX1_settleFirst_91 : decode cX1_settleFirst 91 = .ok (.iload 6, 2) := by decide +kernel
theorem dX1_settleFirst_93 : decode cX1_settleFirst 93 = .ok (.laload, 1) := by decide +kernel
theorem dX1_settleFirst_94 : decode cX1_settleFirst 94 = .ok (.aload_n 0, 1) := by decide +kernel
theorem dX1_settleFirst_95 : decode cX1_settleFirst 95 = .ok (.getfield 26, 3) := by decide +kernel
theorem dX1_settleFirst_98 : decode cX1_settleFirst 98 = .ok (.iload_n 1, 1) := by decide +kernel
theorem dX1_settleFirst_99 : decode cX1_settleFirst 99 = .ok (.laload, 1) := by decide +kernel
theorem dX1_settleFirst_100 : decode cX1_settleFirst 100 = .ok (.aload_n 0, 1) := by decide +kernel
theorem dX1_settleFirst_101 : decode cX1_settleFirst 101 = .ok (.getfield 23, 3) := by decide +kernel
theorem dX1_settleFirst_104 : decode cX1_settleFirst 104 = .ok (.iload 5, 2) := by decide +kernel
theorem dX1_settleFirst_106 : decode cX1_settleFirst 106 = .ok (.iload_n 3, 1) := by decide +kernel
theorem dX1_settleFirst_107 : decode cX1_settleFirst 107 = .ok (.ior, 1) := by decide +kernel
theorem dX1_settleFirst_108 : decode cX1_settleFirst 108 = .ok (.laload, 1) := by decide +kernel
theorem dX1_settleFirst_109 : decode cX1_settleFirst 109 = .ok (.ladd, 1) := by decide +kernel
theorem dX1_settleFirst_110 : decode cX1_settleFirst 110 = .ok (.invokestatic 70, 3) := by decide +kernel
theorem dX1_settleFirst_113 : decode cX1_settleFirst 113 = .ok (.lastore, 1) := by decide +kernel
theorem dX1_settleFirst_114 : decode cX1_settleFirst 114 = .ok (.iload 5, 2) := by decide +kernel
theorem dX1_settleFirst_116 : decode cX1_settleFirst 116 = .ok (.iconst 1, 1) := by decide +kernel
theorem dX1_settleFirst_117 : decode cX1_settleFirst 117 = .ok (.isub, 1) := by decide +kernel
theorem dX1_settleFirst_118 : decode cX1_settleFirst 118 = .ok (.iload_n 2, 1) := by decide +kernel
theorem dX1_settleFirst_119 : decode cX1_settleFirst 119 = .ok (.iand, 1) := by decide +kernel
theorem dX1_settleFirst_120 : decode cX1_settleFirst 120 = .ok (.istore 5, 2) := by decide +kernel
theorem dX1_settleFirst_122 : decode cX1_settleFirst 122 = .ok (.goto (-68), 3) := by decide +kernel
theorem dX1_settleFirst_125 : decode cX1_settleFirst 125 = .ok (.return_, 1) := by decide +kernel
theorem dX1_readPlan_0 : decode cX1_readPlan 0 = .ok (.lload_n 1, 1) := by decide +kernel
theorem dX1_readPlan_1 : decode cX1_readPlan 1 = .ok (.lneg, 1) := by decide +kernel
theorem dX1_readPlan_2 : decode cX1_readPlan 2 = .ok (.ldc2_w 37, 3) := by decide +kernel
theorem dX1_readPlan_5 : decode cX1_readPlan 5 = .ok (.invokestatic 81, 3) := by decide +kernel
theorem dX1_readPlan_8 : decode cX1_readPlan 8 = .ok (.lstore 4, 2) := by decide +kernel
theorem dX1_readPlan_10 : decode cX1_readPlan 10 = .ok (.iconst 0, 1) := by decide +kernel
theorem dX1_readPlan_11 : decode cX1_readPlan 11 = .ok (.istore 6, 2) := by decide +kernel
theorem dX1_readPlan_13 : decode cX1_readPlan 13 = .ok (.bipush 9, 2) := by decide +kernel
theorem dX1_readPlan_15 : decode cX1_readPlan 15 = .ok (.istore 7, 2) := by decide +kernel
theorem dX1_readPlan_17 : decode cX1_readPlan 17 = .ok (.iload 7, 2) := by decide +kernel
theorem dX1_readPlan_19 : decode cX1_readPlan 19 = .ok (.ifCond .lt 74, 3) := by decide +kernel
theorem dX1_readPlan_22 : decode cX1_readPlan 22 = .ok (.lload 4, 2) := by decide +kernel
theorem dX1_readPlan_24 : decode cX1_readPlan 24 = .ok (.ldc2_w 33, 3) := by decide +kernel
theorem dX1_readPlan_27 : decode cX1_readPlan 27 = .ok (.lrem, 1) := by decide +kernel
theorem dX1_readPlan_28 : decode cX1_readPlan 28 = .ok (.l2i, 1) := by decide +kernel
theorem dX1_readPlan_29 : decode cX1_readPlan 29 = .ok (.istore 8, 2) := by decide +kernel
theorem dX1_readPlan_31 : decode cX1_readPlan 31 = .ok (.lload 4, 2) := by decide +kernel
theorem dX1_readPlan_33 : decode cX1_readPlan 33 = .ok (.ldc2_w 33, 3) := by decide +kernel
theorem dX1_readPlan_36 : decode cX1_readPlan 36 = .ok (.ldiv, 1) := by decide +kernel
theorem dX1_readPlan_37 : decode cX1_readPlan 37 = .ok (.lstore 4, 2) := by decide +kernel
theorem dX1_readPlan_39 : decode cX1_readPlan 39 = .ok (.iload 7, 2) := by decide +kernel
theorem dX1_readPlan_41 : decode cX1_readPlan 41 = .ok (.aload_n 0, 1) := by decide +kernel
theorem dX1_readPlan_42 : decode cX1_readPlan 42 = .ok (.getfield 29, 3) := by decide +kernel
theorem dX1_readPlan_45 : decode cX1_readPlan 45 = .ok (.if_icmp .ge 15, 3) := by decide +kernel
theorem dX1_readPlan_48 : decode cX1_readPlan 48 = .ok (.iload 8, 2) := by decide +kernel
theorem dX1_readPlan_50 : decode cX1_readPlan 50 = .ok (.bipush 10, 2) := by decide +kernel
theorem dX1_readPlan_52 : decode cX1_readPlan 52 = .ok (.if_icmp .eq 8, 3) := by decide +kernel
theorem dX1_readPlan_55 : decode cX1_readPlan 55 = .ok (.iload 8, 2) := by decide +kernel
theorem dX1_readPlan_57 : decode cX1_readPlan 57 = .ok (.goto 4, 3) := by decide +kernel
theorem dX1_readPlan_60 : decode cX1_readPlan 60 = .ok (.iconst (-1), 1) := by decide +kernel
theorem dX1_readPlan_61 : decode cX1_readPlan 61 = .ok (.istore 9, 2) := by decide +kernel
theorem dX1_readPlan_63 : decode cX1_readPlan 63 = .ok (.iload 9, 2) := by decide +kernel
theorem dX1_readPlan_65 : decode cX1_readPlan 65 = .ok (.iconst (-1), 1) := by decide +kernel
theorem dX1_readPlan_66 : decode cX1_readPlan 66 = .ok (.if_icmp .eq 15, 3) := by decide +kernel
theorem dX1_readPlan_69 : decode cX1_readPlan 69 = .ok (.iload 9, 2) := by decide +kernel
theorem dX1_readPlan_71 : decode cX1_readPlan 71 = .ok (.aload_n 3, 1) := by decide +kernel
theorem dX1_readPlan_72 : decode cX1_readPlan 72 = .ok (.iload 7, 2) := by decide +kernel
theorem dX1_readPlan_74 : decode cX1_readPlan 74 = .ok (.iaload, 1) := by decide +kernel
theorem dX1_readPlan_75 : decode cX1_readPlan 75 = .ok (.if_icmp .ne 6, 3) := by decide +kernel
theorem dX1_readPlan_78 : decode cX1_readPlan 78 = .ok (.iinc 6 1, 3) := by decide +kernel
theorem dX1_readPlan_81 : decode cX1_readPlan 81 = .ok (.aload_n 3, 1) := by decide +kernel
theorem dX1_readPlan_82 : decode cX1_readPlan 82 = .ok (.iload 7, 2) := by decide +kernel
theorem dX1_readPlan_84 : decode cX1_readPlan 84 = .ok (.iload 9, 2) := by decide +kernel
theorem dX1_readPlan_86 : decode cX1_readPlan 86 = .ok (.iastore, 1) := by decide +kernel
theorem dX1_readPlan_87 : decode cX1_readPlan 87 = .ok (.iinc 7 (-1), 3) := by decide +kernel
theorem dX1_readPlan_90 : decode cX1_readPlan 90 = .ok (.goto (-73), 3) := by decide +kernel
theorem dX1_readPlan_93 : decode cX1_readPlan 93 = .ok (.iload 6, 2) := by decide +kernel
theorem dX1_readPlan_95 : decode cX1_readPlan 95 = .ok (.ireturn, 1) := by decide +kernel
theorem dX2_init_0 : decode cX2_init 0 = .ok (.aload_n 0, 1) := by decide +kernel
theorem dX2_init_1 : decode cX2_init 1 = .ok (.invokespecial 3, 3) := by decide +kernel
theorem dX2_init_4 : decode cX2_init 4 = .ok (.aload_n 0, 1) := by decide +kernel
theorem dX2_init_5 : decode cX2_init 5 = .ok (.bipush 10, 2) := by decide +kernel
theorem dX2_init_7 : decode cX2_init 7 = .ok (.newarray .int, 2) := by decide +kernel
theorem dX2_init_9 : decode cX2_init 9 = .ok (.putfield 9, 3) := by decide +kernel
theorem dX2_init_12 : decode cX2_init 12 = .ok (.aload_n 0, 1) := by decide +kernel
theorem dX2_init_13 : decode cX2_init 13 = .ok (.bipush 11, 2) := by decide +kernel
theorem dX2_init_15 : decode cX2_init 15 = .ok (.newarray .int, 2) := by decide +kernel
theorem dX2_init_17 : decode cX2_init 17 = .ok (.putfield 15, 3) := by decide +kernel
theorem dX2_init_20 : decode cX2_init 20 = .ok (.aload_n 0, 1) := by decide +kernel
theorem dX2_init_21 : decode cX2_init 21 = .ok (.sipush 1024, 3) := by decide +kernel
theorem dX2_init_24 : decode cX2_init 24 = .ok (.newarray .int, 2) := by decide +kernel
theorem dX2_init_26 : decode cX2_init 26 = .ok (.putfield 18, 3) := by decide +kernel
theorem dX2_init_29 : decode cX2_init 29 = .ok (.aload_n 0, 1) := by decide +kernel
theorem dX2_init_30 : decode cX2_init 30 = .ok (.iconst 0, 1) := by decide +kernel
theorem dX2_init_31 : decode cX2_init 31 = .ok (.putfield 21, 3) := by decide +kernel
theorem dX2_init_34 : decode cX2_init 34 = .ok (.return_, 1) := by decide +kernel
theorem dX2_clear_0 : decode cX2_clear 0 = .ok (.aload_n 0, 1) := by decide +kernel
theorem dX2_clear_1 : decode cX2_clear 1 = .ok (.iload_n 1, 1) := by decide +kernel
theorem dX2_clear_2 : decode cX2_clear 2 = .ok (.putfield 21, 3) := by decide +kernel
theorem dX2_clear_5 : decode cX2_clear 5 = .ok (.iconst 0, 1) := by decide +kernel
theorem dX2_clear_6 : decode cX2_clear 6 = .ok (.istore_n 2, 1) := by decide +kernel
theorem dX2_clear_7 : decode cX2_clear 7 = .ok (.iload_n 2, 1) := by decide +kernel
theorem dX2_clear_8 : decode cX2_clear 8 = .ok (.bipush 10, 2) := by decide +kernel
theorem dX2_clear_10 : decode cX2_clear 10 = .ok (.if_icmp .ge 16, 3) := by decide +kernel
theorem dX2_clear_13 : decode cX2_clear 13 = .ok (.aload_n 0, 1) := by decide +kernel
theorem dX2_clear_14 : decode cX2_clear 14 = .ok (.getfield 9, 3) := by decide +kernel
theorem dX2_clear_17 : decode cX2_clear 17 = .ok (.iload_n 2, 1) := by decide +kernel
theorem dX2_clear_18 : decode cX2_clear 18 = .ok (.iconst 0, 1) := by decide +kernel
theorem dX2_clear_19 : decode cX2_clear 19 = .ok (.iastore, 1) := by decide +kernel
theorem dX2_clear_20 : decode cX2_clear 20 = .ok (.iinc 2 1, 3) := by decide +kernel
theorem dX2_clear_23 : decode cX2_clear 23 = .ok (.goto (-16), 3) := by decide +kernel
theorem dX2_clear_26 : decode cX2_clear 26 = .ok (.return_, 1) := by decide +kernel
theorem dX2_add_0 : decode cX2_add 0 = .ok (.aload_n 0, 1) := by decide +kernel
theorem dX2_add_1 : decode cX2_add 1 = .ok (.getfield 9, 3) := by decide +kernel
theorem dX2_add_4 : decode cX2_add 4 = .ok (.iload_n 1, 1) := by decide +kernel
theorem dX2_add_5 : decode cX2_add 5 = .ok (.dup2, 1) := by decide +kernel
theorem dX2_add_6 : decode cX2_add 6 = .ok (.iaload, 1) := by decide +kernel
theorem dX2_add_7 : decode cX2_add 7 = .ok (.iconst 1, 1) := by decide +kernel
theorem dX2_add_8 : decode cX2_add 8 = .ok (.iload_n 2, 1) := by decide +kernel
theorem dX2_add_9 : decode cX2_add 9 = .ok (.ishl, 1) := by decide +kernel
theorem dX2_add_10 : decode cX2_add 10 = .ok (.ior, 1) := by decide +kernel
theorem dX2_add_11 : decode cX2_add 11 = .ok (.iastore, 1) := by decide +kernel
theorem dX2_add_12 : decode cX2_add 12 = .ok (.return_, 1) := by decide +kernel
theorem dX2_tellShortestRing_0 : decode cX2_tellShortestRing 0 = .ok (.bipush 11, 2) := by decide +kernel
theorem dX2_tellShortestRing_2 : decode cX2_tellShortestRing 2 = .ok (.istore_n 2, 1) := by decide +kernel
theorem dX2_tellShortestRing_3 : decode cX2_tellShortestRing 3 = .ok (.iconst 0, 1) := by decide +kernel
theorem dX2_tellShortestRing_4 : decode cX2_tellShortestRing 4 = .ok (.istore_n 3, 1) := by decide +kernel
theorem dX2_tellShortestRing_5 : decode cX2_tellShortestRing 5 = .ok (.iconst 0, 1) := by decide +kernel
theorem dX2_tellShortestRing_6 : decode cX2_tellShortestRing 6 = .ok (.istore 4, 2) := by decide +kernel
theorem dX2_tellShortestRing_8 : decode cX2_tellShortestRing 8 = .ok (.iload 4, 2) := by decide +kernel
theorem dX2_tellShortestRing_10 : decode cX2_tellShortestRing 10 = .ok (.aload_n 0, 1) := by decide +kernel
theorem dX2_tellShortestRing_11 : decode cX2_tellShortestRing 11 = .ok (.getfield 21, 3) := by decide +kernel
theorem dX2_tellShortestRing_14 : decode cX2_tellShortestRing 14 = .ok (.if_icmp .ge 34, 3) := by decide +kernel
theorem dX2_tellShortestRing_17 : decode cX2_tellShortestRing 17 = .ok (.aload_n 0, 1) := by decide +kernel
theorem dX2_tellShortestRing_18 : decode cX2_tellShortestRing 18 = .ok (.iload 4, 2) := by decide +kernel
theorem dX2_tellShortestRing_20 : decode cX2_tellShortestRing 20 = .ok (.invokevirtual 25, 3) := by decide +kernel
theorem dX2_tellShortestRing_23 : decode cX2_tellShortestRing 23 = .ok (.istore 5, 2) := by decide +kernel
theorem dX2_tellShortestRing_25 : decode cX2_tellShortestRing 25 = .ok (.iload 5, 2) := by decide +kernel
theorem dX2_tellShortestRing_27 : decode cX2_tellShortestRing 27 = .ok (.ifCond .le 15, 3) := by decide +kernel
theorem dX2_tellShortestRing_30 : decode cX2_tellShortestRing 30 = .ok (.iload 5, 2) := by decide +kernel
theorem dX2_tellShortestRing_32 : decode cX2_tellShortestRing 32 = .ok (.iload_n 2, 1) := by decide +kernel
theorem dX2_tellShortestRing_33 : decode cX2_tellShortestRing 33 = .ok (.if_icmp .ge 9, 3) := by decide +kernel
theorem dX2_tellShortestRing_36 : decode cX2_tellShortestRing 36 = .ok (.iload 5, 2) := by decide +kernel
theorem dX2_tellShortestRing_38 : decode cX2_tellShortestRing 38 = .ok (.istore_n 2, 1) := by decide +kernel
theorem dX2_tellShortestRing_39 : decode cX2_tellShortestRing 39 = .ok (.iload 4, 2) := by decide +kernel
theorem dX2_tellShortestRing_41 : decode cX2_tellShortestRing 41 = .ok (.istore_n 3, 1) := by decide +kernel
theorem dX2_tellShortestRing_42 : decode cX2_tellShortestRing 42 = .ok (.iinc 4 1, 3) := by decide +kernel
theorem dX2_tellShortestRing_45 : decode cX2_tellShortestRing 45 = .ok (.goto (-37), 3) := by decide +kernel
theorem dX2_tellShortestRing_48 : decode cX2_tellShortestRing 48 = .ok (.iload_n 2, 1) := by decide +kernel
theorem dX2_tellShortestRing_49 : decode cX2_tellShortestRing 49 = .ok (.bipush 10, 2) := by decide +kernel
theorem dX2_tellShortestRing_51 : decode cX2_tellShortestRing 51 = .ok (.if_icmp .le 5, 3) := by decide +kernel
theorem dX2_tellShortestRing_54 : decode cX2_tellShortestRing 54 = .ok (.iconst 0, 1) := by decide +kernel
theorem dX2_tellShortestRing_55 : decode cX2_tellShortestRing 55 = .ok (.ireturn, 1) := by decide +kernel
theorem dX2_tellShortestRing_56 : decode cX2_tellShortestRing 56 = .ok (.aload_n 0, 1) := by decide +kernel
theorem dX2_tellShortestRing_57 : decode cX2_tellShortestRing 57 = .ok (.iload_n 3, 1) := by decide +kernel
theorem dX2_tellShortestRing_58 : decode cX2_tellShortestRing 58 = .ok (.invokevirtual 25, 3) := by decide +kernel
theorem dX2_tellShortestRing_61 : decode cX2_tellShortestRing 61 = .ok (.pop, 1) := by decide +kernel
theorem dX2_tellShortestRing_62 : decode cX2_tellShortestRing 62 = .ok (.iload_n 3, 1) := by decide +kernel
theorem dX2_tellShortestRing_63 : decode cX2_tellShortestRing 63 = .ok (.istore 4, 2) := by decide +kernel
theorem dX2_tellShortestRing_65 : decode cX2_tellShortestRing 65 = .ok (.iconst 0, 1) := by decide +kernel
theorem dX2_tellShortestRing_66 : decode cX2_tellShortestRing 66 = .ok (.istore 5, 2) := by decide +kernel
theorem dX2_tellShortestRing_68 : decode cX2_tellShortestRing 68 = .ok (.iload 5, 2) := by decide +kernel
theorem dX2_tellShortestRing_70 : decode cX2_tellShortestRing 70 = .ok (.iload_n 2, 1) := by decide +kernel
theorem dX2_tellShortestRing_71 : decode cX2_tellShortestRing 71 = .ok (.if_icmp .ge 39, 3) := by decide +kernel
theorem dX2_tellShortestRing_74 : decode cX2_tellShortestRing 74 = .ok (.aload_n 1, 1) := by decide +kernel
theorem dX2_tellShortestRing_75 : decode cX2_tellShortestRing 75 = .ok (.iload 5, 2) := by decide +kernel
theorem dX2_tellShortestRing_77 : decode cX2_tellShortestRing 77 = .ok (.iload 4, 2) := by decide +kernel
theorem dX2_tellShortestRing_79 : decode cX2_tellShortestRing 79 = .ok (.iastore, 1) := by decide +kernel
theorem dX2_tellShortestRing_80 : decode cX2_tellShortestRing 80 = .ok (.aload_n 0, 1) := by decide +kernel
theorem dX2_tellShortestRing_81 : decode cX2_tellShortestRing 81 = .ok (.getfield 9, 3) := by decide +kernel
theorem dX2_tellShortestRing_84 : decode cX2_tellShortestRing 84 = .ok (.iload 4, 2) := by decide +kernel
theorem dX2_tellShortestRing_86 : decode cX2_tellShortestRing 86 = .ok (.iaload, 1) := by decide +kernel
theorem dX2_tellShortestRing_87 : decode cX2_tellShortestRing 87 = .ok (.aload_n 0, 1) := by decide +kernel
theorem dX2_tellShortestRing_88 : decode cX2_tellShortestRing 88 = .ok (.getfield 15, 3) := by decide +kernel
theorem dX2_tellShortestRing_91 : decode cX2_tellShortestRing 91 = .ok (.iload_n 2, 1) := by decide +kernel
theorem dX2_tellShortestRing_92 : decode cX2_tellShortestRing 92 = .ok (.iconst 1, 1) := by decide +kernel
theorem dX2_tellShortestRing_93 : decode cX2_tellShortestRing 93 = .ok (.isub, 1) := by decide +kernel
theorem dX2_tellShortestRing_94 : decode cX2_tellShortestRing 94 = .ok (.iload 5, 2) := by decide +kernel
theorem dX2_tellShortestRing_96 : decode cX2_tellShortestRing 96 = .ok (.isub, 1) := by decide +kernel
theorem dX2_tellShortestRing_97 : decode cX2_tellShortestRing 97 = .ok (.iaload, 1) := by decide +kernel
theorem dX2_tellShortestRing_98 : decode cX2_tellShortestRing 98 = .ok (.iand, 1) := by decide +kernel
theorem dX2_tellShortestRing_99 : decode cX2_tellShortestRing 99 = .ok (.invokestatic 29, 3) := by decide +kernel
theorem dX2_tellShortestRing_102 : decode cX2_tellShortestRing 102 = .ok (.istore 4, 2) := by decide +kernel
theorem dX2_tellShortestRing_104 : decode cX2_tellShortestRing 104 = .ok (.iinc 5 1, 3) := by decide +kernel
theorem dX2_tellShortestRing_107 : decode cX2_tellShortestRing 107 = .ok (.goto (-39), 3) := by decide +kernel
theorem dX2_tellShortestRing_110 : decode cX2_tellShortestRing 110 = .ok (.iload_n 2, 1) := by decide +kernel
theorem dX2_tellShortestRing_111 : decode cX2_tellShortestRing 111 = .ok (.ireturn, 1) := by decide +kernel
theorem dX2_lengthFrom_0 : decode cX2_lengthFrom 0 = .ok (.aload_n 0, 1) := by decide +kernel
theorem dX2_lengthFrom_1 : decode cX2_lengthFrom 1 = .ok (.getfield 15, 3) := by decide +kernel
theorem dX2_lengthFrom_4 : decode cX2_lengthFrom 4 = .ok (.iconst 0, 1) := by decide +kernel
theorem dX2_lengthFrom_5 : decode cX2_lengthFrom 5 = .ok (.iconst 1, 1) := by decide +kernel
theorem dX2_lengthFrom_6 : decode cX2_lengthFrom 6 = .ok (.iload_n 1, 1) := by decide +kernel
theorem dX2_lengthFrom_7 : decode cX2_lengthFrom 7 = .ok (.ishl, 1) := by decide +kernel
theorem dX2_lengthFrom_8 : decode cX2_lengthFrom 8 = .ok (.iastore, 1) := by decide +kernel
theorem dX2_lengthFrom_9 : decode cX2_lengthFrom 9 = .ok (.iconst 1, 1) := by decide +kernel
theorem dX2_lengthFrom_10 : decode cX2_lengthFrom 10 = .ok (.istore_n 2, 1) := by decide +kernel
theorem dX2_lengthFrom_11 : decode cX2_lengthFrom 11 = .ok (.iload_n 2, 1) := by decide +kernel
theorem dX2_lengthFrom_12 : decode cX2_lengthFrom 12 = .ok (.aload_n 0, 1) := by decide +kernel
theorem dX2_lengthFrom_13 : decode cX2_lengthFrom 13 = .ok (.getfield 21, 3) := by decide +kernel
theorem dX2_lengthFrom_16 : decode cX2_lengthFrom 16 = .ok (.if_icmp .gt 84, 3) := by decide +kernel
theorem dX2_lengthFrom_19 : decode cX2_lengthFrom 19 = .ok (.aload_n 0, 1) := by decide +kernel
theorem dX2_lengthFrom_20 : decode cX2_lengthFrom 20 = .ok (.getfield 9, 3) := by decide +kernel
theorem dX2_lengthFrom_23 : decode cX2_lengthFrom 23 = .ok (.iload_n 1, 1) := by decide +kernel
theorem dX2_lengthFrom_24 : decode cX2_lengthFrom 24 = .ok (.iaload, 1) := by decide +kernel
theorem dX2_lengthFrom_25 : decode cX2_lengthFrom 25 = .ok (.aload_n 0, 1) := by decide +kernel
theorem dX2_lengthFrom_26 : decode cX2_lengthFrom 26 = .ok (.getfield 15, 3) := by decide +kernel
theorem dX2_lengthFrom_29 : decode cX2_lengthFrom 29 = .ok (.iload_n 2, 1) := by decide +kernel
theorem dX2_lengthFrom_30 : decode cX2_lengthFrom 30 = .ok (.iconst 1, 1) := by decide +kernel
theorem dX2_lengthFrom_31 : decode cX2_lengthFrom 31 = .ok (.isub, 1) := by decide +kernel
theorem dX2_lengthFrom_32 : decode cX2_lengthFrom 32 = .ok (.iaload, 1) := by decide +kernel
theorem dX2_lengthFrom_33 : decode cX2_lengthFrom 33 = .ok (.iand, 1) := by decide +kernel
theorem dX2_lengthFrom_34 : decode cX2_lengthFrom 34 = .ok (.ifCond .eq 5, 3) := by decide +kernel
theorem dX2_lengthFrom_37 : decode cX2_lengthFrom 37 = .ok (.iload_n 2, 1) := by decide +kernel
theorem dX2_lengthFrom_38 : decode cX2_lengthFrom 38 = .ok (.ireturn, 1) := by decide +kernel
theorem dX2_lengthFrom_39 : decode cX2_lengthFrom 39 = .ok (.aload_n 0, 1) := by decide +kernel
theorem dX2_lengthFrom_40 : decode cX2_lengthFrom 40 = .ok (.getfield 15, 3) := by decide +kernel
theorem dX2_lengthFrom_43 : decode cX2_lengthFrom 43 = .ok (.iload_n 2, 1) := by decide +kernel
theorem dX2_lengthFrom_44 : decode cX2_lengthFrom 44 = .ok (.iconst 0, 1) := by decide +kernel
theorem dX2_lengthFrom_45 : decode cX2_lengthFrom 45 = .ok (.iastore, 1) := by decide +kernel
theorem dX2_lengthFrom_46 : decode cX2_lengthFrom 46 = .ok (.iload_n 1, 1) := by decide +kernel
theorem dX2_lengthFrom_47 : decode cX2_lengthFrom 47 = .ok (.iconst 1, 1) := by decide +kernel
theorem dX2_lengthFrom_48 : decode cX2_lengthFrom 48 = .ok (.iadd, 1) := by decide +kernel
theorem dX2_lengthFrom_49 : decode cX2_lengthFrom 49 = .ok (.istore_n 3, 1) := by decide +kernel
theorem dX2_lengthFrom_50 : decode cX2_lengthFrom 50 = .ok (.iload_n 3, 1) := by decide +kernel
theorem dX2_lengthFrom_51 : decode cX2_lengthFrom 51 = .ok (.aload_n 0, 1) := by decide +kernel
theorem dX2_lengthFrom_52 : decode cX2_lengthFrom 52 = .ok (.getfield 21, 3) := by decide +kernel
theorem dX2_lengthFrom_55 : decode cX2_lengthFrom 55 = .ok (.if_icmp .ge 39, 3) := by decide +kernel
theorem dX2_lengthFrom_58 : decode cX2_lengthFrom 58 = .ok (.aload_n 0, 1) := by decide +kernel
theorem dX2_lengthFrom_59 : decode cX2_lengthFrom 59 = .ok (.getfield 9, 3) := by decide +kernel
theorem dX2_lengthFrom_62 : decode cX2_lengthFrom 62 = .ok (.iload_n 3, 1) := by decide +kernel
theorem dX2_lengthFrom_63 : decode cX2_lengthFrom 63 = .ok (.iaload, 1) := by decide +kernel
theorem dX2_lengthFrom_64 : decode cX2_lengthFrom 64 = .ok (.aload_n 0, 1) := by decide +kernel
theorem dX2_lengthFrom_65 : decode cX2_lengthFrom 65 = .ok (.getfield 15, 3) := by decide +kernel
theorem dX2_lengthFrom_68 : decode cX2_lengthFrom 68 = .ok (.iload_n 2, 1) := by decide +kernel
theorem dX2_lengthFrom_69 : decode cX2_lengthFrom 69 = .ok (.iconst 1, 1) := by decide +kernel
theorem dX2_lengthFrom_70 : decode cX2_lengthFrom 70 = .ok (.isub, 1) := by decide +kernel
theorem dX2_lengthFrom_71 : decode cX2_lengthFrom 71 = .ok (.iaload, 1) := by decide +kernel
theorem dX2_lengthFrom_72 : decode cX2_lengthFrom 72 = .ok (.iand, 1) := by decide +kernel
theorem dX2_lengthFrom_73 : decode cX2_lengthFrom 73 = .ok (.ifCond .eq 15, 3) := by decide +kernel
theorem dX2_lengthFrom_76 : decode cX2_lengthFrom 76 = .ok (.aload_n 0, 1) := by decide +kernel
theorem dX2_lengthFrom_77 : decode cX2_lengthFrom 77 = .ok (.getfield 15, 3) := by decide +kernel
theorem dX2_lengthFrom_80 : decode cX2_lengthFrom 80 = .ok (.iload_n 2, 1) := by decide +kernel
theorem dX2_lengthFrom_81 : decode cX2_lengthFrom 81 = .ok (.dup2, 1) := by decide +kernel
theorem dX2_lengthFrom_82 : decode cX2_lengthFrom 82 = .ok (.iaload, 1) := by decide +kernel
theorem dX2_lengthFrom_83 : decode cX2_lengthFrom 83 = .ok (.iconst 1, 1) := by decide +kernel
theorem dX2_lengthFrom_84 : decode cX2_lengthFrom 84 = .ok (.iload_n 3, 1) := by decide +kernel
theorem dX2_lengthFrom_85 : decode cX2_lengthFrom 85 = .ok (.ishl, 1) := by decide +kernel
theorem dX2_lengthFrom_86 : decode cX2_lengthFrom 86 = .ok (.ior, 1) := by decide +kernel
theorem dX2_lengthFrom_87 : decode cX2_lengthFrom 87 = .ok (.iastore, 1) := by decide +kernel
theorem dX2_lengthFrom_88 : decode cX2_lengthFrom 88 = .ok (.iinc 3 1, 3) := by decide +kernel
theorem dX2_lengthFrom_91 : decode cX2_lengthFrom 91 = .ok (.goto (-41), 3) := by decide +kernel
theorem dX2_lengthFrom_94 : decode cX2_lengthFrom 94 = .ok (.iinc 2 1, 3) := by decide +kernel
theorem dX2_lengthFrom_97 : decode cX2_lengthFrom 97 = .ok (.goto (-86), 3) := by decide +kernel
theorem dX2_lengthFrom_100 : decode cX2_lengthFrom 100 = .ok (.iconst 0, 1) := by decide +kernel
theorem dX2_lengthFrom_101 : decode cX2_lengthFrom 101 = .ok (.ireturn, 1) := by decide +kernel
theorem dX2_tellLongestWay_0 : decode cX2_tellLongestWay 0 = .ok (.aload_n 0, 1) := by decide +kernel
theorem dX2_tellLongestWay_1 : decode cX2_tellLongestWay 1 = .ok (.invokevirtual 32, 3) := by decide +kernel
theorem dX2_tellLongestWay_4 : decode cX2_tellLongestWay 4 = .ok (.aload_n 0, 1) := by decide +kernel
theorem dX2_tellLongestWay_5 : decode cX2_tellLongestWay 5 = .ok (.iload_n 1, 1) := by decide +kernel
theorem dX2_tellLongestWay_6 : decode cX2_tellLongestWay 6 = .ok (.invokevirtual 35, 3) := by decide +kernel
theorem dX2_tellLongestWay_9 : decode cX2_tellLongestWay 9 = .ok (.istore_n 3, 1) := by decide +kernel
theorem dX2_tellLongestWay_10 : decode cX2_tellLongestWay 10 = .ok (.iload_n 3, 1) := by decide +kernel
theorem dX2_tellLongestWay_11 : decode cX2_tellLongestWay 11 = .ok (.ifCond .ne 5, 3) := by decide +kernel
theorem dX2_tellLongestWay_14 : decode cX2_tellLongestWay 14 = .ok (.iconst 0, 1) := by decide +kernel
theorem dX2_tellLongestWay_15 : decode cX2_tellLongestWay 15 = .ok (.ireturn, 1) := by decide +kernel
theorem dX2_tellLongestWay_16 : decode cX2_tellLongestWay 16 = .ok (.iconst 1, 1) := by decide +kernel
theorem dX2_tellLongestWay_17 : decode cX2_tellLongestWay 17 = .ok (.iload_n 1, 1) := by decide +kernel
theorem dX2_tellLongestWay_18 : decode cX2_tellLongestWay 18 = .ok (.ishl, 1) := by decide +kernel
theorem dX2_tellLongestWay_19 : decode cX2_tellLongestWay 19 = .ok (.istore 4, 2) := by decide +kernel
theorem dX2_tellLongestWay_21 : decode cX2_tellLongestWay 21 = .ok (.iload_n 1, 1) := by decide +kernel
theorem dX2_tellLongestWay_22 : decode cX2_tellLongestWay 22 = .ok (.istore 5, 2) := by decide +kernel
theorem dX2_tellLongestWay_24 : decode cX2_tellLongestWay 24 = .ok (.aload_n 2, 1) := by decide +kernel
theorem dX2_tellLongestWay_25 : decode cX2_tellLongestWay 25 = .ok (.iconst 0, 1) := by decide +kernel
theorem dX2_tellLongestWay_26 : decode cX2_tellLongestWay 26 = .ok (.iload_n 1, 1) := by decide +kernel
theorem dX2_tellLongestWay_27 : decode cX2_tellLongestWay 27 = .ok (.iastore, 1) := by decide +kernel
theorem dX2_tellLongestWay_28 : decode cX2_tellLongestWay 28 = .ok (.iconst 1, 1) := by decide +kernel
theorem dX2_tellLongestWay_29 : decode cX2_tellLongestWay 29 = .ok (.istore 6, 2) := by decide +kernel
theorem dX2_tellLongestWay_31 : decode cX2_tellLongestWay 31 = .ok (.iload 6, 2) := by decide +kernel
theorem dX2_tellLongestWay_33 : decode cX2_tellLongestWay 33 = .ok (.iload_n 3, 1) := by decide +kernel
theorem dX2_tellLongestWay_34 : decode cX2_tellLongestWay 34 = .ok (.if_icmp .gt 49, 3) := by decide +kernel
theorem dX2_tellLongestWay_37 : decode cX2_tellLongestWay 37 = .ok (.aload_n 0, 1) := by decide +kernel
theorem dX2_tellLongestWay_38 : decode cX2_tellLongestWay 38 = .ok (.getfield 9, 3) := by decide +kernel
theorem dX2_tellLongestWay_41 : decode cX2_tellLongestWay 41 = .ok (.iload 5, 2) := by decide +kernel
theorem dX2_tellLongestWay_43 : decode cX2_tellLongestWay 43 = .ok (.iaload, 1) := by decide +kernel
theorem dX2_tellLongestWay_44 : decode cX2_tellLongestWay 44 = .ok (.aload_n 0, 1) := by decide +kernel
theorem dX2_tellLongestWay_45 : decode cX2_tellLongestWay 45 = .ok (.iload 4, 2) := by decide +kernel
theorem dX2_tellLongestWay_47 : decode cX2_tellLongestWay 47 = .ok (.iload_n 3, 1) := by decide +kernel
theorem dX2_tellLongestWay_48 : decode cX2_tellLongestWay 48 = .ok (.iconst 1, 1) := by decide +kernel
theorem dX2_tellLongestWay_49 : decode cX2_tellLongestWay 49 = .ok (.iadd, 1) := by decide +kernel
theorem dX2_tellLongestWay_50 : decode cX2_tellLongestWay 50 = .ok (.iload 6, 2) := by decide +kernel
theorem dX2_tellLongestWay_52 : decode cX2_tellLongestWay 52 = .ok (.isub, 1) := by decide +kernel
theorem dX2_tellLongestWay_53 : decode cX2_tellLongestWay 53 = .ok (.invokevirtual 38, 3) := by decide +kernel
theorem dX2_tellLongestWay_56 : decode cX2_tellLongestWay 56 = .ok (.iand, 1) := by decide +kernel
theorem dX2_tellLongestWay_57 : decode cX2_tellLongestWay 57 = .ok (.invokestatic 29, 3) := by decide +kernel
theorem dX2_tellLongestWay_60 : decode cX2_tellLongestWay 60 = .ok (.istore 5, 2) := by decide +kernel
theorem dX2_tellLongestWay_62 : decode cX2_tellLongestWay 62 = .ok (.iload 4, 2) := by decide +kernel
theorem dX2_tellLongestWay_64 : decode cX2_tellLongestWay 64 = .ok (.iconst 1, 1) := by decide +kernel
theorem dX2_tellLongestWay_65 : decode cX2_tellLongestWay 65 = .ok (.iload 5, 2) := by decide +kernel
theorem dX2_tellLongestWay_67 : decode cX2_tellLongestWay 67 = .ok (.ishl, 1) := by decide +kernel
theorem dX2_tellLongestWay_68 : decode cX2_tellLongestWay 68 = .ok (.ior, 1) := by decide +kernel
theorem dX2_tellLongestWay_69 : decode cX2_tellLongestWay 69 = .ok (.istore 4, 2) := by decide +kernel
theorem dX2_tellLongestWay_71 : decode cX2_tellLongestWay 71 = .ok (.aload_n 2, 1) := by decide +kernel
theorem dX2_tellLongestWay_72 : decode cX2_tellLongestWay 72 = .ok (.iload 6, 2) := by decide +kernel
theorem dX2_tellLongestWay_74 : decode cX2_tellLongestWay 74 = .ok (.iload 5, 2) := by decide +kernel
theorem dX2_tellLongestWay_76 : decode cX2_tellLongestWay 76 = .ok (.iastore, 1) := by decide +kernel
theorem dX2_tellLongestWay_77 : decode cX2_tellLongestWay 77 = .ok (.iinc 6 1, 3) := by decide +kernel
theorem dX2_tellLongestWay_80 : decode cX2_tellLongestWay 80 = .ok (.goto (-49), 3) := by decide +kernel
theorem dX2_tellLongestWay_83 : decode cX2_tellLongestWay 83 = .ok (.iload_n 3, 1) := by decide +kernel
theorem dX2_tellLongestWay_84 : decode cX2_tellLongestWay 84 = .ok (.iconst 1, 1) := by decide +kernel
theorem dX2_tellLongestWay_85 : decode cX2_tellLongestWay 85 = .ok (.iadd, 1) := by decide +kernel
theorem dX2_tellLongestWay_86 : decode cX2_tellLongestWay 86 = .ok (.ireturn, 1) := by decide +kernel
theorem dX2_findStarts_0 : decode cX2_findStarts 0 = .ok (.iconst 1, 1) := by decide +kernel
theorem dX2_findStarts_1 : decode cX2_findStarts 1 = .ok (.istore_n 1, 1) := by decide +kernel
theorem dX2_findStarts_2 : decode cX2_findStarts 2 = .ok (.iload_n 1, 1) := by decide +kernel
theorem dX2_findStarts_3 : decode cX2_findStarts 3 = .ok (.iconst 1, 1) := by decide +kernel
theorem dX2_findStarts_4 : decode cX2_findStarts 4 = .ok (.aload_n 0, 1) := by decide +kernel
theorem dX2_findStarts_5 : decode cX2_findStarts 5 = .ok (.getfield 21, 3) := by decide +kernel
theorem dX2_findStarts_8 : decode cX2_findStarts 8 = .ok (.ishl, 1) := by decide +kernel
theorem dX2_findStarts_9 : decode cX2_findStarts 9 = .ok (.if_icmp .ge 42, 3) := by decide +kernel
theorem dX2_findStarts_12 : decode cX2_findStarts 12 = .ok (.iload_n 1, 1) := by decide +kernel
theorem dX2_findStarts_13 : decode cX2_findStarts 13 = .ok (.iload_n 1, 1) := by decide +kernel
theorem dX2_findStarts_14 : decode cX2_findStarts 14 = .ok (.iconst 1, 1) := by decide +kernel
theorem dX2_findStarts_15 : decode cX2_findStarts 15 = .ok (.isub, 1) := by decide +kernel
theorem dX2_findStarts_16 : decode cX2_findStarts 16 = .ok (.iand, 1) := by decide +kernel
theorem dX2_findStarts_17 : decode cX2_findStarts 17 = .ok (.ifCond .ne 7, 3) := by decide +kernel
theorem dX2_findStarts_20 : decode cX2_findStarts 20 = .ok (.iconst 1, 1) := by decide +kernel
theorem dX2_findStarts_21 : decode cX2_findStarts 21 = .ok (.goto 4, 3) := by decide +kernel
theorem dX2_findStarts_24 : decode cX2_findStarts 24 = .ok (.iconst 0, 1) := by decide +kernel
theorem dX2_findStarts_25 : decode cX2_findStarts 25 = .ok (.istore_n 2, 1) := by decide +kernel
theorem dX2_findStarts_26 : decode cX2_findStarts 26 = .ok (.aload_n 0, 1) := by decide +kernel
theorem dX2_findStarts_27 : decode cX2_findStarts 27 = .ok (.getfield 18, 3) := by decide +kernel
theorem dX2_findStarts_30 : decode cX2_findStarts 30 = .ok (.iload_n 1, 1) := by decide +kernel
theorem dX2_findStarts_31 : decode cX2_findStarts 31 = .ok (.iload_n 2, 1) := by decide +kernel
theorem dX2_findStarts_32 : decode cX2_findStarts 32 = .ok (.ifCond .eq 7, 3) := by decide +kernel
theorem dX2_findStarts_35 : decode cX2_findStarts 35 = .ok (.iload_n 1, 1) := by decide +kernel
theorem dX2_findStarts_36 : decode cX2_findStarts 36 = .ok (.goto 8, 3) := by decide +kernel
theorem dX2_findStarts_39 : decode cX2_findStarts 39 = .ok (.aload_n 0, 1) := by decide +kernel
theorem dX2_findStarts_40 : decode cX2_findStarts 40 = .ok (.iload_n 1, 1) := by decide +kernel
theorem dX2_findStarts_41 : decode cX2_findStarts 41 = .ok (.invokevirtual 42, 3) := by decide +kernel
theorem dX2_findStarts_44 : decode cX2_findStarts 44 = .ok (.iastore, 1) := by decide +kernel
theorem dX2_findStarts_45 : decode cX2_findStarts 45 = .ok (.iinc 1 1, 3) := by decide +kernel
theorem dX2_findStarts_48 : decode cX2_findStarts 48 = .ok (.goto (-46), 3) := by decide +kernel
theorem dX2_findStarts_51 : decode cX2_findStarts 51 = .ok (.return_, 1) := by decide +kernel
theorem dX2_startsWithin_0 : decode cX2_startsWithin 0 = .ok (.iconst 0, 1) := by decide +kernel
theorem dX2_startsWithin_1 : decode cX2_startsWithin 1 = .ok (.istore_n 2, 1) := by decide +kernel
theorem dX2_startsWithin_2 : decode cX2_startsWithin 2 = .ok (.iconst 0, 1) := by decide +kernel
theorem dX2_startsWithin_3 : decode cX2_startsWithin 3 = .ok (.istore_n 3, 1) := by decide +kernel
theorem dX2_startsWithin_4 : decode cX2_startsWithin 4 = .ok (.iload_n 3, 1) := by decide +kernel
theorem dX2_startsWithin_5 : decode cX2_startsWithin 5 = .ok (.aload_n 0, 1) := by decide +kernel
theorem dX2_startsWithin_6 : decode cX2_startsWithin 6 = .ok (.getfield 21, 3) := by decide +kernel
theorem dX2_startsWithin_9 : decode cX2_startsWithin 9 = .ok (.if_icmp .ge 45, 3) := by decide +kernel
theorem dX2_startsWithin_12 : decode cX2_startsWithin 12 = .ok (.iconst 1, 1) := by decide +kernel
theorem dX2_startsWithin_13 : decode cX2_startsWithin 13 = .ok (.iload_n 3, 1) := by decide +kernel
theorem dX2_startsWithin_14 : decode cX2_startsWithin 14 = .ok (.ishl, 1) := by decide +kernel
theorem dX2_startsWithin_15 : decode cX2_startsWithin 15 = .ok (.istore 4, 2) := by decide +kernel
theorem dX2_startsWithin_17 : decode cX2_startsWithin 17 = .ok (.iload_n 1, 1) := by decide +kernel
theorem dX2_startsWithin_18 : decode cX2_startsWithin 18 = .ok (.iload 4, 2) := by decide +kernel
theorem dX2_startsWithin_20 : decode cX2_startsWithin 20 = .ok (.iand, 1) := by decide +kernel
theorem dX2_startsWithin_21 : decode cX2_startsWithin 21 = .ok (.ifCond .eq 27, 3) := by decide +kernel
theorem dX2_startsWithin_24 : decode cX2_startsWithin 24 = .ok (.aload_n 0, 1) := by decide +kernel
theorem dX2_startsWithin_25 : decode cX2_startsWithin 25 = .ok (.getfield 9, 3) := by decide +kernel
theorem dX2_startsWithin_28 : decode cX2_startsWithin 28 = .ok (.iload_n 3, 1) := by decide +kernel
theorem dX2_startsWithin_29 : decode cX2_startsWithin 29 = .ok (.iaload, 1) := by decide +kernel
theorem dX2_startsWithin_30 : decode cX2_startsWithin 30 = .ok (.aload_n 0, 1) := by decide +kernel
theorem dX2_startsWithin_31 : decode cX2_startsWithin 31 = .ok (.getfield 18, 3) := by decide +kernel
theorem dX2_startsWithin_34 : decode cX2_startsWithin 34 = .ok (.iload_n 1, 1) := by decide +kernel
theorem dX2_startsWithin_35 : decode cX2_startsWithin 35 = .ok (.iload 4, 2) := by decide +kernel
theorem dX2_startsWithin_37 : decode cX2_startsWithin 37 = .ok (.ixor, 1) := by decide +kernel
theorem dX2_startsWithin_38 : decode cX2_startsWithin 38 = .ok (.iaload, 1) := by decide +kernel
theorem dX2_startsWithin_39 : decode cX2_startsWithin 39 = .ok (.iand, 1) := by decide +kernel
theorem dX2_startsWithin_40 : decode cX2_startsWithin 40 = .ok (.ifCond .eq 8, 3) := by decide +kernel
theorem dX2_startsWithin_43 : decode cX2_startsWithin 43 = .ok (.iload_n 2, 1) := by decide +kernel
theorem dX2_startsWithin_44 : decode cX2_startsWithin 44 = .ok (.iload 4, 2) := by decide +kernel
theorem dX2_startsWithin_46 : decode cX2_startsWithin 46 = .ok (.ior, 1) := by decide +kernel
theorem dX2_startsWithin_47 : decode cX2_startsWithin 47 = .ok (.istore_n 2, 1) := by decide +kernel
theorem dX2_startsWithin_48 : decode cX2_startsWithin 48 = .ok (.iinc 3 1, 3) := by decide +kernel
theorem dX2_startsWithin_51 : decode cX2_startsWithin 51 = .ok (.goto (-47), 3) := by decide +kernel
theorem dX2_startsWithin_54 : decode cX2_startsWithin 54 = .ok (.iload_n 2, 1) := by decide +kernel
theorem dX2_startsWithin_55 : decode cX2_startsWithin 55 = .ok (.ireturn, 1) := by decide +kernel
theorem dX2_mostSteps_0 : decode cX2_mostSteps 0 = .ok (.iconst 0, 1) := by decide +kernel
theorem dX2_mostSteps_1 : decode cX2_mostSteps 1 = .ok (.istore_n 2, 1) := by decide +kernel
theorem dX2_mostSteps_2 : decode cX2_mostSteps 2 = .ok (.iconst 1, 1) := by decide +kernel
theorem dX2_mostSteps_3 : decode cX2_mostSteps 3 = .ok (.istore_n 3, 1) := by decide +kernel
theorem dX2_mostSteps_4 : decode cX2_mostSteps 4 = .ok (.iload_n 3, 1) := by decide +kernel
theorem dX2_mostSteps_5 : decode cX2_mostSteps 5 = .ok (.iconst 1, 1) := by decide +kernel
theorem dX2_mostSteps_6 : decode cX2_mostSteps 6 = .ok (.aload_n 0, 1) := by decide +kernel
theorem dX2_mostSteps_7 : decode cX2_mostSteps 7 = .ok (.getfield 21, 3) := by decide +kernel
theorem dX2_mostSteps_10 : decode cX2_mostSteps 10 = .ok (.ishl, 1) := by decide +kernel
theorem dX2_mostSteps_11 : decode cX2_mostSteps 11 = .ok (.if_icmp .ge 54, 3) := by decide +kernel
theorem dX2_mostSteps_14 : decode cX2_mostSteps 14 = .ok (.iload_n 3, 1) := by decide +kernel
theorem dX2_mostSteps_15 : decode cX2_mostSteps 15 = .ok (.iload_n 1, 1) := by decide +kernel
theorem dX2_mostSteps_16 : decode cX2_mostSteps 16 = .ok (.ishr, 1) := by decide +kernel
theorem dX2_mostSteps_17 : decode cX2_mostSteps 17 = .ok (.iconst 1, 1) := by decide +kernel
theorem dX2_mostSteps_18 : decode cX2_mostSteps 18 = .ok (.iand, 1) := by decide +kernel
theorem dX2_mostSteps_19 : decode cX2_mostSteps 19 = .ok (.ifCond .ne 7, 3) := by decide +kernel
theorem dX2_mostSteps_22 : decode cX2_mostSteps 22 = .ok (.iconst 1, 1) := by decide +kernel
theorem dX2_mostSteps_23 : decode cX2_mostSteps 23 = .ok (.goto 4, 3) := by decide +kernel
theorem dX2_mostSteps_26 : decode cX2_mostSteps 26 = .ok (.iconst 0, 1) := by decide +kernel
theorem dX2_mostSteps_27 : decode cX2_mostSteps 27 = .ok (.istore 4, 2) := by decide +kernel
theorem dX2_mostSteps_29 : decode cX2_mostSteps 29 = .ok (.iload 4, 2) := by decide +kernel
theorem dX2_mostSteps_31 : decode cX2_mostSteps 31 = .ok (.ifCond .eq 28, 3) := by decide +kernel
theorem dX2_mostSteps_34 : decode cX2_mostSteps 34 = .ok (.aload_n 0, 1) := by decide +kernel
theorem dX2_mostSteps_35 : decode cX2_mostSteps 35 = .ok (.getfield 9, 3) := by decide +kernel
theorem dX2_mostSteps_38 : decode cX2_mostSteps 38 = .ok (.iload_n 1, 1) := by decide +kernel
theorem dX2_mostSteps_39 : decode cX2_mostSteps 39 = .ok (.iaload, 1) := by decide +kernel
theorem dX2_mostSteps_40 : decode cX2_mostSteps 40 = .ok (.aload_n 0, 1) := by decide +kernel
theorem dX2_mostSteps_41 : decode cX2_mostSteps 41 = .ok (.getfield 18, 3) := by decide +kernel
theorem dX2_mostSteps_44 : decode cX2_mostSteps 44 = .ok (.iload_n 3, 1) := by decide +kernel
theorem dX2_mostSteps_45 : decode cX2_mostSteps 45 = .ok (.iaload, 1) := by decide +kernel
theorem dX2_mostSteps_46 : decode cX2_mostSteps 46 = .ok (.iand, 1) := by decide +kernel
theorem dX2_mostSteps_47 : decode cX2_mostSteps 47 = .ok (.ifCond .eq 12, 3) := by decide +kernel
theorem dX2_mostSteps_50 : decode cX2_mostSteps 50 = .ok (.iload_n 2, 1) := by decide +kernel
theorem dX2_mostSteps_51 : decode cX2_mostSteps 51 = .ok (.iload_n 3, 1) := by decide +kernel
theorem dX2_mostSteps_52 : decode cX2_mostSteps 52 = .ok (.invokestatic 45, 3) := by decide +kernel
theorem dX2_mostSteps_55 : decode cX2_mostSteps 55 = .ok (.invokestatic 50, 3) := by decide +kernel
theorem dX2_mostSteps_58 : decode cX2_mostSteps 58 = .ok (.istore_n 2, 1) := by decide +kernel
theorem dX2_mostSteps_59 : decode cX2_mostSteps 59 = .ok (.iinc 3 1, 3) := by decide +kernel
theorem dX2_mostSteps_62 : decode cX2_mostSteps 62 = .ok (.goto (-58), 3) := by decide +kernel
theorem dX2_mostSteps_65 : decode cX2_mostSteps 65 = .ok (.iload_n 2, 1) := by decide +kernel
theorem dX2_mostSteps_66 : decode cX2_mostSteps 66 = .ok (.ireturn, 1) := by decide +kernel
theorem dX2_startsApart_0 : decode cX2_startsApart 0 = .ok (.iconst 0, 1) := by decide +kernel
theorem dX2_startsApart_1 : decode cX2_startsApart 1 = .ok (.istore_n 3, 1) := by decide +kernel
theorem dX2_startsApart_2 : decode cX2_startsApart 2 = .ok (.iconst 1, 1) := by decide +kernel
theorem dX2_startsApart_3 : decode cX2_startsApart 3 = .ok (.istore 4, 2) := by decide +kernel
theorem dX2_startsApart_5 : decode cX2_startsApart 5 = .ok (.iload 4, 2) := by decide +kernel
theorem dX2_startsApart_7 : decode cX2_startsApart 7 = .ok (.iconst 1, 1) := by decide +kernel
theorem dX2_startsApart_8 : decode cX2_startsApart 8 = .ok (.aload_n 0, 1) := by decide +kernel
theorem dX2_startsApart_9 : decode cX2_startsApart 9 = .ok (.getfield 21, 3) := by decide +kernel
theorem dX2_startsApart_12 : decode cX2_startsApart 12 = .ok (.ishl, 1) := by decide +kernel
theorem dX2_startsApart_13 : decode cX2_startsApart 13 = .ok (.if_icmp .ge 35, 3) := by decide +kernel
theorem dX2_startsApart_16 : decode cX2_startsApart 16 = .ok (.iload 4, 2) := by decide +kernel
theorem dX2_startsApart_18 : decode cX2_startsApart 18 = .ok (.iload_n 1, 1) := by decide +kernel
theorem dX2_startsApart_19 : decode cX2_startsApart 19 = .ok (.iand, 1) := by decide +kernel
theorem dX2_startsApart_20 : decode cX2_startsApart 20 = .ok (.ifCond .ne 22, 3) := by decide +kernel
theorem dX2_startsApart_23 : decode cX2_startsApart 23 = .ok (.iload 4, 2) := by decide +kernel
theorem dX2_startsApart_25 : decode cX2_startsApart 25 = .ok (.invokestatic 45, 3) := by decide +kernel
theorem dX2_startsApart_28 : decode cX2_startsApart 28 = .ok (.iload_n 2, 1) := by decide +kernel
theorem dX2_startsApart_29 : decode cX2_startsApart 29 = .ok (.if_icmp .ne 13, 3) := by decide +kernel
theorem dX2_startsApart_32 : decode cX2_startsApart 32 = .ok (.iload_n 3, 1) := by decide +kernel
theorem dX2_startsApart_33 : decode cX2_startsApart 33 = .ok (.aload_n 0, 1) := by decide +kernel
theorem dX2_startsApart_34 : decode cX2_startsApart 34 = .ok (.getfield 18, 3) := by decide +kernel
theorem dX2_startsApart_37 : decode cX2_startsApart 37 = .ok (.iload 4, 2) := by decide +kernel
theorem dX2_startsApart_39 : decode cX2_startsApart 39 = .ok (.iaload, 1) := by decide +kernel
theorem dX2_startsApart_40 : decode cX2_startsApart 40 = .ok (.ior, 1) := by decide +kernel
theorem dX2_startsApart_41 : decode cX2_startsApart 41 = .ok (.istore_n 3, 1) := by decide +kernel
theorem dX2_startsApart_42 : decode cX2_startsApart 42 = .ok (.iinc 4 1, 3) := by decide +kernel
theorem dX2_startsApart_45 : decode cX2_startsApart 45 = .ok (.goto (-40), 3) := by decide +kernel
theorem dX2_startsApart_48 : decode cX2_startsApart 48 = .ok (.iload_n 3, 1) := by decide +kernel
theorem dX2_startsApart_49 : decode cX2_startsApart 49 = .ok (.ireturn, 1) := by decide +kernel
theorem dX2_leastOf_0 : decode cX2_leastOf 0 = .ok (.iconst 0, 1) := by decide +kernel
theorem dX2_leastOf_1 : decode cX2_leastOf 1 = .ok (.istore_n 1, 1) := by decide +kernel
theorem dX2_leastOf_2 : decode cX2_leastOf 2 = .ok (.iload_n 1, 1) := by decide +kernel
theorem dX2_leastOf_3 : decode cX2_leastOf 3 = .ok (.bipush 10, 2) := by decide +kernel
theorem dX2_leastOf_5 : decode cX2_leastOf 5 = .ok (.if_icmp .ge 20, 3) := by decide +kernel
theorem dX2_leastOf_8 : decode cX2_leastOf 8 = .ok (.iload_n 0, 1) := by decide +kernel
theorem dX2_leastOf_9 : decode cX2_leastOf 9 = .ok (.iload_n 1, 1) := by decide +kernel
theorem dX2_leastOf_10 : decode cX2_leastOf 10 = .ok (.ishr, 1) := by decide +kernel
theorem dX2_leastOf_11 : decode cX2_leastOf 11 = .ok (.iconst 1, 1) := by decide +kernel
theorem dX2_leastOf_12 : decode cX2_leastOf 12 = .ok (.iand, 1) := by decide +kernel
theorem dX2_leastOf_13 : decode cX2_leastOf 13 = .ok (.iconst 1, 1) := by decide +kernel
theorem dX2_leastOf_14 : decode cX2_leastOf 14 = .ok (.if_icmp .ne 5, 3) := by decide +kernel
theorem dX2_leastOf_17 : decode cX2_leastOf 17 = .ok (.iload_n 1, 1) := by decide +kernel
theorem dX2_leastOf_18 : decode cX2_leastOf 18 = .ok (.ireturn, 1) := by decide +kernel
theorem dX2_leastOf_19 : decode cX2_leastOf 19 = .ok (.iinc 1 1, 3) := by decide +kernel
theorem dX2_leastOf_22 : decode cX2_leastOf 22 = .ok (.goto (-20), 3) := by decide +kernel
theorem dX2_leastOf_25 : decode cX2_leastOf 25 = .ok (.iconst 0, 1) := by decide +kernel
theorem dX2_leastOf_26 : decode cX2_leastOf 26 = .ok (.ireturn, 1) := by decide +kernel
theorem dX3_init_0 : decode cX3_init 0 = .ok (.aload_n 0, 1) := by decide +kernel
theorem dX3_init_1 : decode cX3_init 1 = .ok (.invokespecial 1, 3) := by decide +kernel
theorem dX3_init_4 : decode cX3_init 4 = .ok (.aload_n 0, 1) := by decide +kernel
theorem dX3_init_5 : decode cX3_init 5 = .ok (.bipush 10, 2) := by decide +kernel
theorem dX3_init_7 : decode cX3_init 7 = .ok (.anewarray 9, 3) := by decide +kernel
theorem dX3_init_10 : decode cX3_init 10 = .ok (.putfield 11, 3) := by decide +kernel
theorem dX3_init_13 : decode cX3_init 13 = .ok (.aload_n 0, 1) := by decide +kernel
theorem dX3_init_14 : decode cX3_init 14 = .ok (.bipush 10, 2) := by decide +kernel
theorem dX3_init_16 : decode cX3_init 16 = .ok (.newarray .int, 2) := by decide +kernel
theorem dX3_init_18 : decode cX3_init 18 = .ok (.putfield 15, 3) := by decide +kernel
theorem dX3_init_21 : decode cX3_init 21 = .ok (.aload_n 0, 1) := by decide +kernel
theorem dX3_init_22 : decode cX3_init 22 = .ok (.sipush 600, 3) := by decide +kernel
theorem dX3_init_25 : decode cX3_init 25 = .ok (.newarray .int, 2) := by decide +kernel
theorem dX3_init_27 : decode cX3_init 27 = .ok (.putfield 19, 3) := by decide +kernel
theorem dX3_init_30 : decode cX3_init 30 = .ok (.aload_n 0, 1) := by decide +kernel
theorem dX3_init_31 : decode cX3_init 31 = .ok (.bipush 10, 2) := by decide +kernel
theorem dX3_init_33 : decode cX3_init 33 = .ok (.newarray .int, 2) := by decide +kernel
theorem dX3_init_35 : decode cX3_init 35 = .ok (.putfield 22, 3) := by decide +kernel
theorem dX3_init_38 : decode cX3_init 38 = .ok (.aload_n 0, 1) := by decide +kernel
theorem dX3_init_39 : decode cX3_init 39 = .ok (.bipush 10, 2) := by decide +kernel
theorem dX3_init_41 : decode cX3_init 41 = .ok (.newarray .int, 2) := by decide +kernel
theorem dX3_init_43 : decode cX3_init 43 = .ok (.putfield 25, 3) := by decide +kernel
theorem dX3_init_46 : decode cX3_init 46 = .ok (.aload_n 0, 1) := by decide +kernel
theorem dX3_init_47 : decode cX3_init 47 = .ok (.new 28, 3) := by decide +kernel
theorem dX3_init_50 : decode cX3_init 50 = .ok (.dup, 1) := by decide +kernel
theorem dX3_init_51 : decode cX3_init 51 = .ok (.invokespecial 30, 3) := by decide +kernel
theorem dX3_init_54 : decode cX3_init 54 = .ok (.putfield 31, 3) := by decide +kernel
theorem dX3_init_57 : decode cX3_init 57 = .ok (.aload_n 0, 1) := by decide +kernel
theorem dX3_init_58 : decode cX3_init 58 = .ok (.new 35, 3) := by decide +kernel
theorem dX3_init_61 : decode cX3_init 61 = .ok (.dup, 1) := by decide +kernel
theorem dX3_init_62 : decode cX3_init 62 = .ok (.invokespecial 37, 3) := by decide +kernel
theorem dX3_init_65 : decode cX3_init 65 = .ok (.putfield 38, 3) := by decide +kernel
theorem dX3_init_68 : decode cX3_init 68 = .ok (.aload_n 0, 1) := by decide +kernel
theorem dX3_init_69 : decode cX3_init 69 = .ok (.iconst 0, 1) := by decide +kernel
theorem dX3_init_70 : decode cX3_init 70 = .ok (.putfield 42, 3) := by decide +kernel
theorem dX3_init_73 : decode cX3_init 73 = .ok (.aload_n 0, 1) := by decide +kernel
theorem dX3_init_74 : decode cX3_init 74 = .ok (.iconst 0, 1) := by decide +kernel
theorem dX3_init_75 : decode cX3_init 75 = .ok (.putfield 46, 3) := by decide +kernel
theorem dX3_init_78 : decode cX3_init 78 = .ok (.aload_n 0, 1) := by decide +kernel
theorem dX3_init_79 : decode cX3_init 79 = .ok (.iconst 0, 1) := by decide +kernel
theorem dX3_init_80 : decode cX3_init 80 = .ok (.putfield 49, 3) := by decide +kernel
theorem dX3_init_83 : decode cX3_init 83 = .ok (.aload_n 0, 1) := by decide +kernel
theorem dX3_init_84 : decode cX3_init 84 = .ok (.iconst 2, 1) := by decide +kernel
theorem dX3_init_85 : decode cX3_init 85 = .ok (.putfield 52, 3) := by decide +kernel
theorem dX3_init_88 : decode cX3_init 88 = .ok (.aload_n 0, 1) := by decide +kernel
theorem dX3_init_89 : decode cX3_init 89 = .ok (.bipush 10, 2) := by decide +kernel
theorem dX3_init_91 : decode cX3_init 91 = .ok (.putfield 55, 3) := by decide +kernel
theorem dX3_init_94 : decode cX3_init 94 = .ok (.aload_n 0, 1) := by decide +kernel
theorem dX3_init_95 : decode cX3_init 95 = .ok (.iconst 0, 1) := by decide +kernel
theorem dX3_init_96 : decode cX3_init 96 = .ok (.putfield 58, 3) := by decide +kernel
theorem dX3_init_99 : decode cX3_init 99 = .ok (.aload_n 0, 1) := by decide +kernel
theorem dX3_init_100 : decode cX3_init 100 = .ok (.iconst 0, 1) := by decide +kernel
theorem dX3_init_101 : decode cX3_init 101 = .ok (.putfield 61, 3) := by decide +kernel
theorem dX3_init_104 : decode cX3_init 104 = .ok (.iconst 0, 1) := by decide +kernel
theorem dX3_init_105 : decode cX3_init 105 = .ok (.istore_n 1, 1) := by decide +kernel
theorem dX3_init_106 : decode cX3_init 106 = .ok (.iload_n 1, 1) := by decide +kernel
theorem dX3_init_107 : decode cX3_init 107 = .ok (.bipush 10, 2) := by decide +kernel
theorem dX3_init_109 : decode cX3_init 109 = .ok (.if_icmp .ge 29, 3) := by decide +kernel
theorem dX3_init_112 : decode cX3_init 112 = .ok (.aload_n 0, 1) := by decide +kernel
theorem dX3_init_113 : decode cX3_init 113 = .ok (.getfield 11, 3) := by decide +kernel
theorem dX3_init_116 : decode cX3_init 116 = .ok (.iload_n 1, 1) := by decide +kernel
theorem dX3_init_117 : decode cX3_init 117 = .ok (.new 9, 3) := by decide +kernel
theorem dX3_init_120 : decode cX3_init 120 = .ok (.dup, 1) := by decide +kernel
theorem dX3_init_121 : decode cX3_init 121 = .ok (.invokespecial 65, 3) := by decide +kernel
theorem dX3_init_124 : decode cX3_init 124 = .ok (.aastore, 1) := by decide +kernel
theorem dX3_init_125 : decode cX3_init 125 = .ok (.aload_n 0, 1) := by decide +kernel
theorem dX3_init_126 : decode cX3_init 126 = .ok (.getfield 15, 3) := by decide +kernel
theorem dX3_init_129 : decode cX3_init 129 = .ok (.iload_n 1, 1) := by decide +kernel
theorem dX3_init_130 : decode cX3_init 130 = .ok (.iconst (-1), 1) := by decide +kernel
theorem dX3_init_131 : decode cX3_init 131 = .ok (.iastore, 1) := by decide +kernel
theorem dX3_init_132 : decode cX3_init 132 = .ok (.iinc 1 1, 3) := by decide +kernel
theorem dX3_init_135 : decode cX3_init 135 = .ok (.goto (-29), 3) := by decide +kernel
theorem dX3_init_138 : decode cX3_init 138 = .ok (.return_, 1) := by decide +kernel
theorem dX3_family_0 : decode cX3_family 0 = .ok (.aload_n 0, 1) := by decide +kernel
theorem dX3_family_1 : decode cX3_family 1 = .ok (.iconst 0, 1) := by decide +kernel
theorem dX3_family_2 : decode cX3_family 2 = .ok (.putfield 61, 3) := by decide +kernel
theorem dX3_family_5 : decode cX3_family 5 = .ok (.iload_n 1, 1) := by decide +kernel
theorem dX3_family_6 : decode cX3_family 6 = .ok (.ifCond .lt 26, 3) := by decide +kernel
theorem dX3_family_9 : decode cX3_family 9 = .ok (.iload_n 1, 1) := by decide +kernel
theorem dX3_family_10 : decode cX3_family 10 = .ok (.iconst 4, 1) := by decide +kernel
theorem dX3_family_11 : decode cX3_family 11 = .ok (.if_icmp .ge 21, 3) := by decide +kernel
theorem dX3_family_14 : decode cX3_family 14 = .ok (.iload_n 2, 1) := by decide +kernel
theorem dX3_family_15 : decode cX3_family 15 = .ok (.invokestatic 66, 3) := by decide +kernel
theorem dX3_family_18 : decode cX3_family 18 = .ok (.ifCond .eq 14, 3) := by decide +kernel
theorem dX3_family_21 : decode cX3_family 21 = .ok (.iload_n 3, 1) := by decide +kernel
theorem dX3_family_22 : decode cX3_family 22 = .ok (.invokestatic 66, 3) := by decide +kernel
theorem dX3_family_25 : decode cX3_family 25 = .ok (.ifCond .eq 7, 3) := by decide +kernel
theorem dX3_family_28 : decode cX3_family 28 = .ok (.iconst 1, 1) := by decide +kernel
theorem dX3_family_29 : decode cX3_family 29 = .ok (.goto 4, 3) := by decide +kernel
theorem dX3_family_32 : decode cX3_family 32 = .ok (.iconst 0, 1) := by decide +kernel
theorem dX3_family_33 : decode cX3_family 33 = .ok (.istore 5, 2) := by decide +kernel
theorem dX3_family_35 : decode cX3_family 35 = .ok (.iload 5, 2) := by decide +kernel
theorem dX3_family_37 : decode cX3_family 37 = .ok (.ifCond .eq 12, 3) := by decide +kernel
theorem dX3_family_40 : decode cX3_family 40 = .ok (.aload_n 0, 1) := by decide +kernel
theorem dX3_family_41 : decode cX3_family 41 = .ok (.getfield 42, 3) := by decide +kernel
theorem dX3_family_44 : decode cX3_family 44 = .ok (.bipush 10, 2) := by decide +kernel
theorem dX3_family_46 : decode cX3_family 46 = .ok (.if_icmp .lt 5, 3) := by decide +kernel
theorem dX3_family_49 : decode cX3_family 49 = .ok (.iconst (-1), 1) := by decide +kernel
theorem dX3_family_50 : decode cX3_family 50 = .ok (.ireturn, 1) := by decide +kernel
theorem dX3_family_51 : decode cX3_family 51 = .ok (.aload_n 0, 1) := by decide +kernel
theorem dX3_family_52 : decode cX3_family 52 = .ok (.getfield 11, 3) := by decide +kernel
theorem dX3_family_55 : decode cX3_family 55 = .ok (.aload_n 0, 1) := by decide +kernel
theorem dX3_family_56 : decode cX3_family 56 = .ok (.getfield 42, 3) := by decide +kernel
theorem dX3_family_59 : decode cX3_family 59 = .ok (.aaload, 1) := by decide +kernel
theorem dX3_family_60 : decode cX3_family 60 = .ok (.iload_n 1, 1) := by decide +kernel
theorem dX3_family_61 : decode cX3_family 61 = .ok (.iload_n 2, 1) := by decide +kernel
theorem dX3_family_62 : decode cX3_family 62 = .ok (.iload_n 3, 1) := by decide +kernel
theorem dX3_family_63 : decode cX3_family 63 = .ok (.iload 4, 2) := by decide +kernel
theorem dX3_family_65 : decode cX3_family 65 = .ok (.invokevirtual 70, 3) := by decide +kernel
theorem dX3_family_68 : decode cX3_family 68 = .ok (.aload_n 0, 1) := by decide +kernel
theorem dX3_family_69 : decode cX3_family 69 = .ok (.dup, 1) := by decide +kernel
theorem dX3_family_70 : decode cX3_family 70 = .ok (.getfield 42, 3) := by decide +kernel
theorem dX3_family_73 : decode cX3_family 73 = .ok (.iconst 1, 1) := by decide +kernel
theorem dX3_family_74 : decode cX3_family 74 = .ok (.iadd, 1) := by decide +kernel
theorem dX3_family_75 : decode cX3_family 75 = .ok (.putfield 42, 3) := by decide +kernel
theorem dX3_family_78 : decode cX3_family 78 = .ok (.aload_n 0, 1) := by decide +kernel
theorem dX3_family_79 : decode cX3_family 79 = .ok (.getfield 42, 3) := by decide +kernel
theorem dX3_family_82 : decode cX3_family 82 = .ok (.iconst 1, 1) := by decide +kernel
theorem dX3_family_83 : decode cX3_family 83 = .ok (.isub, 1) := by decide +kernel
theorem dX3_family_84 : decode cX3_family 84 = .ok (.ireturn, 1) := by decide +kernel
theorem dX3_weeks_0 : decode cX3_weeks 0 = .ok (.aload_n 0, 1) := by decide +kernel
theorem dX3_weeks_1 : decode cX3_weeks 1 = .ok (.iconst 0, 1) := by decide +kernel
theorem dX3_weeks_2 : decode cX3_weeks 2 = .ok (.putfield 61, 3) := by decide +kernel
theorem dX3_weeks_5 : decode cX3_weeks 5 = .ok (.aload_n 0, 1) := by decide +kernel
theorem dX3_weeks_6 : decode cX3_weeks 6 = .ok (.iload_n 1, 1) := by decide +kernel
theorem dX3_weeks_7 : decode cX3_weeks 7 = .ok (.invokevirtual 74, 3) := by decide +kernel
theorem dX3_weeks_10 : decode cX3_weeks 10 = .ok (.ifCond .eq 20, 3) := by decide +kernel
theorem dX3_weeks_13 : decode cX3_weeks 13 = .ok (.iload_n 3, 1) := by decide +kernel
theorem dX3_weeks_14 : decode cX3_weeks 14 = .ok (.ifCond .lt 16, 3) := by decide +kernel
theorem dX3_weeks_17 : decode cX3_weeks 17 = .ok (.iload 4, 2) := by decide +kernel
theorem dX3_weeks_19 : decode cX3_weeks 19 = .ok (.bipush 51, 2) := by decide +kernel
theorem dX3_weeks_21 : decode cX3_weeks 21 = .ok (.if_icmp .gt 9, 3) := by decide +kernel
theorem dX3_weeks_24 : decode cX3_weeks 24 = .ok (.iload_n 3, 1) := by decide +kernel
theorem dX3_weeks_25 : decode cX3_weeks 25 = .ok (.iload 4, 2) := by decide +kernel
theorem dX3_weeks_27 : decode cX3_weeks 27 = .ok (.if_icmp .le 5, 3) := by decide +kernel
theorem dX3_weeks_30 : decode cX3_weeks 30 = .ok (.iconst 0, 1) := by decide +kernel
theorem dX3_weeks_31 : decode cX3_weeks 31 = .ok (.ireturn, 1) := by decide +kernel
theorem dX3_weeks_32 : decode cX3_weeks 32 = .ok (.iload_n 2, 1) := by decide +kernel
theorem dX3_weeks_33 : decode cX3_weeks 33 = .ok (.ifCond .ne 26, 3) := by decide +kernel
theorem dX3_weeks_36 : decode cX3_weeks 36 = .ok (.aload_n 0, 1) := by decide +kernel
theorem dX3_weeks_37 : decode cX3_weeks 37 = .ok (.getfield 11, 3) := by decide +kernel
theorem dX3_weeks_40 : decode cX3_weeks 40 = .ok (.iload_n 1, 1) := by decide +kernel
theorem dX3_weeks_41 : decode cX3_weeks 41 = .ok (.aaload, 1) := by decide +kernel
theorem dX3_weeks_42 : decode cX3_weeks 42 = .ok (.iload_n 3, 1) := by decide +kernel
theorem dX3_weeks_43 : decode cX3_weeks 43 = .ok (.putfield 77, 3) := by decide +kernel
theorem dX3_weeks_46 : decode cX3_weeks 46 = .ok (.aload_n 0, 1) := by decide +kernel
theorem dX3_weeks_47 : decode cX3_weeks 47 = .ok (.getfield 11, 3) := by decide +kernel
theorem dX3_weeks_50 : decode cX3_weeks 50 = .ok (.iload_n 1, 1) := by decide +kernel
theorem dX3_weeks_51 : decode cX3_weeks 51 = .ok (.aaload, 1) := by decide +kernel
theorem dX3_weeks_52 : decode cX3_weeks 52 = .ok (.iload 4, 2) := by decide +kernel
theorem dX3_weeks_54 : decode cX3_weeks 54 = .ok (.putfield 80, 3) := by decide +kernel
theorem dX3_weeks_57 : decode cX3_weeks 57 = .ok (.iconst 1, 1) := by decide +kernel
theorem dX3_weeks_58 : decode cX3_weeks 58 = .ok (.ireturn, 1) := by decide +kernel
theorem dX3_weeks_59 : decode cX3_weeks 59 = .ok (.iload_n 2, 1) := by decide +kernel
theorem dX3_weeks_60 : decode cX3_weeks 60 = .ok (.iconst 1, 1) := by decide +kernel
theorem dX3_weeks_61 : decode cX3_weeks 61 = .ok (.if_icmp .ne 26, 3) := by decide +kernel
theorem dX3_weeks_64 : decode cX3_weeks 64 = .ok (.aload_n 0, 1) := by decide +kernel
theorem dX3_weeks_65 : decode cX3_weeks 65 = .ok (.getfield 11, 3) := by decide +kernel
theorem dX3_weeks_68 : decode cX3_weeks 68 = .ok (.iload_n 1, 1) := by decide +kernel
theorem dX3_weeks_69 : decode cX3_weeks 69 = .ok (.aaload, 1) := by decide +kernel
theorem dX3_weeks_70 : decode cX3_weeks 70 = .ok (.iload_n 3, 1) := by decide +kernel
theorem dX3_weeks_71 : decode cX3_weeks 71 = .ok (.putfield 83, 3) := by decide +kernel
theorem dX3_weeks_74 : decode cX3_weeks 74 = .ok (.aload_n 0, 1) := by decide +kernel
theorem dX3_weeks_75 : decode cX3_weeks 75 = .ok (.getfield 11, 3) := by decide +kernel
theorem dX3_weeks_78 : decode cX3_weeks 78 = .ok (.iload_n 1, 1) := by decide +kernel
theorem dX3_weeks_79 : decode cX3_weeks 79 = .ok (.aaload, 1) := by decide +kernel
theorem dX3_weeks_80 : decode cX3_weeks 80 = .ok (.iload 4, 2) := by decide +kernel
theorem dX3_weeks_82 : decode cX3_weeks 82 = .ok (.putfield 86, 3) := by decide +kernel
theorem dX3_weeks_85 : decode cX3_weeks 85 = .ok (.iconst 1, 1) := by decide +kernel
theorem dX3_weeks_86 : decode cX3_weeks 86 = .ok (.ireturn, 1) := by decide +kernel
theorem dX3_weeks_87 : decode cX3_weeks 87 = .ok (.iconst 0, 1) := by decide +kernel
theorem dX3_weeks_88 : decode cX3_weeks 88 = .ok (.ireturn, 1) := by decide +kernel
theorem dX3_wish_0 : decode cX3_wish 0 = .ok (.aload_n 0, 1) := by decide +kernel
theorem dX3_wish_1 : decode cX3_wish 1 = .ok (.iconst 0, 1) := by decide +kernel
theorem dX3_wish_2 : decode cX3_wish 2 = .ok (.putfield 61, 3) := by decide +kernel
theorem dX3_wish_5 : decode cX3_wish 5 = .ok (.aload_n 0, 1) := by decide +kernel
theorem dX3_wish_6 : decode cX3_wish 6 = .ok (.iload_n 1, 1) := by decide +kernel
theorem dX3_wish_7 : decode cX3_wish 7 = .ok (.iload_n 2, 1) := by decide +kernel
theorem dX3_wish_8 : decode cX3_wish 8 = .ok (.invokevirtual 89, 3) := by decide +kernel
theorem dX3_wish_11 : decode cX3_wish 11 = .ok (.ifCond .ne 5, 3) := by decide +kernel
theorem dX3_wish_14 : decode cX3_wish 14 = .ok (.iconst (-1), 1) := by decide +kernel
theorem dX3_wish_15 : decode cX3_wish 15 = .ok (.ireturn, 1) := by decide +kernel
theorem dX3_wish_16 : decode cX3_wish 16 = .ok (.aload_n 0, 1) := by decide +kernel
theorem dX3_wish_17 : decode cX3_wish 17 = .ok (.getfield 11, 3) := by decide +kernel
theorem dX3_wish_20 : decode cX3_wish 20 = .ok (.iload_n 1, 1) := by decide +kernel
theorem dX3_wish_21 : decode cX3_wish 21 = .ok (.aaload, 1) := by decide +kernel
theorem dX3_wish_22 : decode cX3_wish 22 = .ok (.iload_n 2, 1) := by decide +kernel
theorem dX3_wish_23 : decode cX3_wish 23 = .ok (.invokevirtual 93, 3) := by decide +kernel
theorem dX3_wish_26 : decode cX3_wish 26 = .ok (.aload_n 0, 1) := by decide +kernel
theorem dX3_wish_27 : decode cX3_wish 27 = .ok (.getfield 11, 3) := by decide +kernel
theorem dX3_wish_30 : decode cX3_wish 30 = .ok (.iload_n 1, 1) := by decide +kernel
theorem dX3_wish_31 : decode cX3_wish 31 = .ok (.aaload, 1) := by decide +kernel
theorem dX3_wish_32 : decode cX3_wish 32 = .ok (.getfield 97, 3) := by decide +kernel
theorem dX3_wish_35 : decode cX3_wish 35 = .ok (.ireturn, 1) := by decide +kernel
theorem dX3_wishes_0 : decode cX3_wishes 0 = .ok (.aload_n 0, 1) := by decide +kernel
theorem dX3_wishes_1 : decode cX3_wishes 1 = .ok (.iconst 0, 1) := by decide +kernel
theorem dX3_wishes_2 : decode cX3_wishes 2 = .ok (.putfield 61, 3) := by decide +kernel
theorem dX3_wishes_5 : decode cX3_wishes 5 = .ok (.aload_n 0, 1) := by decide +kernel
theorem dX3_wishes_6 : decode cX3_wishes 6 = .ok (.iload_n 1, 1) := by decide +kernel
theorem dX3_wishes_7 : decode cX3_wishes 7 = .ok (.invokevirtual 74, 3) := by decide +kernel
theorem dX3_wishes_10 : decode cX3_wishes 10 = .ok (.ifCond .eq 18, 3) := by decide +kernel
theorem dX3_wishes_13 : decode cX3_wishes 13 = .ok (.iload_n 2, 1) := by decide +kernel
theorem dX3_wishes_14 : decode cX3_wishes 14 = .ok (.ifCond .lt 14, 3) := by decide +kernel
theorem dX3_wishes_17 : decode cX3_wishes 17 = .ok (.iload_n 2, 1) := by decide +kernel
theorem dX3_wishes_18 : decode cX3_wishes 18 = .ok (.iconst 2, 1) := by decide +kernel
theorem dX3_wishes_19 : decode cX3_wishes 19 = .ok (.if_icmp .gt 9, 3) := by decide +kernel
theorem dX3_wishes_22 : decode cX3_wishes 22 = .ok (.iload_n 3, 1) := by decide +kernel
theorem dX3_wishes_23 : decode cX3_wishes 23 = .ok (.bipush 20, 2) := by decide +kernel
theorem dX3_wishes_25 : decode cX3_wishes 25 = .ok (.if_icmp .le 5, 3) := by decide +kernel
theorem dX3_wishes_28 : decode cX3_wishes 28 = .ok (.iconst (-1), 1) := by decide +kernel
theorem dX3_wishes_29 : decode cX3_wishes 29 = .ok (.ireturn, 1) := by decide +kernel
theorem dX3_wishes_30 : decode cX3_wishes 30 = .ok (.iload_n 2, 1) := by decide +kernel
theorem dX3_wishes_31 : decode cX3_wishes 31 = .ok (.iconst 2, 1) := by decide +kernel
theorem dX3_wishes_32 : decode cX3_wishes 32 = .ok (.if_icmp .eq 10, 3) := by decide +kernel
theorem dX3_wishes_35 : decode cX3_wishes 35 = .ok (.iload_n 3, 1) := by decide +kernel
theorem dX3_wishes_36 : decode cX3_wishes 36 = .ok (.ifCond .ge 6, 3) := by decide +kernel
theorem dX3_wishes_39 : decode cX3_wishes 39 = .ok (.bipush (-2), 2) := by decide +kernel
theorem dX3_wishes_41 : decode cX3_wishes 41 = .ok (.ireturn, 1) := by decide +kernel
theorem dX3_wishes_42 : decode cX3_wishes 42 = .ok (.aload_n 0, 1) := by decide +kernel
theorem dX3_wishes_43 : decode cX3_wishes 43 = .ok (.getfield 11, 3) := by decide +kernel
theorem dX3_wishes_46 : decode cX3_wishes 46 = .ok (.iload_n 1, 1) := by decide +kernel
theorem dX3_wishes_47 : decode cX3_wishes 47 = .ok (.aaload, 1) := by decide +kernel
theorem dX3_wishes_48 : decode cX3_wishes 48 = .ok (.invokevirtual 100, 3) := by decide +kernel
theorem dX3_wishes_51 : decode cX3_wishes 51 = .ok (.iload_n 2, 1) := by decide +kernel
theorem dX3_wishes_52 : decode cX3_wishes 52 = .ok (.iconst 2, 1) := by decide +kernel
theorem dX3_wishes_53 : decode cX3_wishes 53 = .ok (.if_icmp .eq 22, 3) := by decide +kernel
theorem dX3_wishes_56 : decode cX3_wishes 56 = .ok (.aload_n 0, 1) := by decide +kernel
theorem dX3_wishes_57 : decode cX3_wishes 57 = .ok (.iload_n 1, 1) := by decide +kernel
theorem dX3_wishes_58 : decode cX3_wishes 58 = .ok (.iload_n 2, 1) := by decide +kernel
theorem dX3_wishes_59 : decode cX3_wishes 59 = .ok (.ifCond .ne 7, 3) := by decide +kernel
theorem dX3_wishes_62 : decode cX3_wishes 62 = .ok (.iconst 1, 1) := by decide +kernel
theorem dX3_wishes_63 : decode cX3_wishes 63 = .ok (.goto 4, 3) := by decide +kernel
theorem dX3_wishes_66 : decode cX3_wishes 66 = .ok (.iconst 0, 1) := by decide +kernel
theorem dX3_wishes_67 : decode cX3_wishes 67 = .ok (.iload_n 3, 1) := by decide +kernel
theorem dX3_wishes_68 : decode cX3_wishes 68 = .ok (.iload 4, 2) := by decide +kernel
theorem dX3_wishes_70 : decode cX3_wishes 70 = .ok (.iload 5, 2) := by decide +kernel
theorem dX3_wishes_72 : decode cX3_wishes 72 = .ok (.invokevirtual 103, 3) := by decide +kernel
theorem dX3_wishes_75 : decode cX3_wishes 75 = .ok (.aload_n 0, 1) := by decide +kernel
theorem dX3_wishes_76 : decode cX3_wishes 76 = .ok (.getfield 11, 3) := by decide +kernel
theorem dX3_wishes_79 : decode cX3_wishes 79 = .ok (.iload_n 1, 1) := by decide +kernel
theorem dX3_wishes_80 : decode cX3_wishes 80 = .ok (.aaload, 1) := by decide +kernel
theorem dX3_wishes_81 : decode cX3_wishes 81 = .ok (.getfield 97, 3) := by decide +kernel
theorem dX3_wishes_84 : decode cX3_wishes 84 = .ok (.ireturn, 1) := by decide +kernel
theorem dX3_bar_0 : decode cX3_bar 0 = .ok (.aload_n 0, 1) := by decide +kernel
theorem dX3_bar_1 : decode cX3_bar 1 = .ok (.iconst 0, 1) := by decide +kernel
theorem dX3_bar_2 : decode cX3_bar 2 = .ok (.putfield 61, 3) := by decide +kernel
theorem dX3_bar_5 : decode cX3_bar 5 = .ok (.aload_n 0, 1) := by decide +kernel
theorem dX3_bar_6 : decode cX3_bar 6 = .ok (.iload_n 1, 1) := by decide +kernel
theorem dX3_bar_7 : decode cX3_bar 7 = .ok (.iload_n 2, 1) := by decide +kernel
theorem dX3_bar_8 : decode cX3_bar 8 = .ok (.invokevirtual 107, 3) := by decide +kernel
theorem dX3_bar_11 : decode cX3_bar 11 = .ok (.ifCond .ne 5, 3) := by decide +kernel
theorem dX3_bar_14 : decode cX3_bar 14 = .ok (.iconst 0, 1) := by decide +kernel
theorem dX3_bar_15 : decode cX3_bar 15 = .ok (.ireturn, 1) := by decide +kernel
theorem dX3_bar_16 : decode cX3_bar 16 = .ok (.aload_n 0, 1) := by decide +kernel
theorem dX3_bar_17 : decode cX3_bar 17 = .ok (.getfield 11, 3) := by decide +kernel
theorem dX3_bar_20 : decode cX3_bar 20 = .ok (.iload_n 1, 1) := by decide +kernel
theorem dX3_bar_21 : decode cX3_bar 21 = .ok (.aaload, 1) := by decide +kernel
theorem dX3_bar_22 : decode cX3_bar 22 = .ok (.iload_n 2, 1) := by decide +kernel
theorem dX3_bar_23 : decode cX3_bar 23 = .ok (.iload_n 3, 1) := by decide +kernel
theorem dX3_bar_24 : decode cX3_bar 24 = .ok (.invokevirtual 110, 3) := by decide +kernel
theorem dX3_bar_27 : decode cX3_bar 27 = .ok (.aload_n 0, 1) := by decide +kernel
theorem dX3_bar_28 : decode cX3_bar 28 = .ok (.getfield 11, 3) := by decide +kernel
theorem dX3_bar_31 : decode cX3_bar 31 = .ok (.iload_n 2, 1) := by decide +kernel
theorem dX3_bar_32 : decode cX3_bar 32 = .ok (.aaload, 1) := by decide +kernel
theorem dX3_bar_33 : decode cX3_bar 33 = .ok (.iload_n 1, 1) := by decide +kernel
theorem dX3_bar_34 : decode cX3_bar 34 = .ok (.iload_n 3, 1) := by decide +kernel
theorem dX3_bar_35 : decode cX3_bar 35 = .ok (.invokevirtual 110, 3) := by decide +kernel
theorem dX3_bar_38 : decode cX3_bar 38 = .ok (.iconst 1, 1) := by decide +kernel
theorem dX3_bar_39 : decode cX3_bar 39 = .ok (.ireturn, 1) := by decide +kernel
theorem dX3_in_0 : decode cX3_in 0 = .ok (.aload_n 0, 1) := by decide +kernel
theorem dX3_in_1 : decode cX3_in 1 = .ok (.iconst 0, 1) := by decide +kernel
theorem dX3_in_2 : decode cX3_in 2 = .ok (.putfield 61, 3) := by decide +kernel
theorem dX3_in_5 : decode cX3_in 5 = .ok (.aload_n 0, 1) := by decide +kernel
theorem dX3_in_6 : decode cX3_in 6 = .ok (.iload_n 1, 1) := by decide +kernel
theorem dX3_in_7 : decode cX3_in 7 = .ok (.invokevirtual 74, 3) := by decide +kernel
theorem dX3_in_10 : decode cX3_in 10 = .ok (.ifCond .ne 5, 3) := by decide +kernel
theorem dX3_in_13 : decode cX3_in 13 = .ok (.iconst 0, 1) := by decide +kernel
theorem dX3_in_14 : decode cX3_in 14 = .ok (.ireturn, 1) := by decide +kernel
theorem dX3_in_15 : decode cX3_in 15 = .ok (.aload_n 0, 1) := by decide +kernel
theorem dX3_in_16 : decode cX3_in 16 = .ok (.getfield 11, 3) := by decide +kernel
theorem dX3_in_19 : decode cX3_in 19 = .ok (.iload_n 1, 1) := by decide +kernel
theorem dX3_in_20 : decode cX3_in 20 = .ok (.aaload, 1) := by decide +kernel
theorem dX3_in_21 : decode cX3_in 21 = .ok (.iload_n 2, 1) := by decide +kernel
theorem dX3_in_22 : decode cX3_in 22 = .ok (.putfield 114, 3) := by decide +kernel
theorem dX3_in_25 : decode cX3_in 25 = .ok (.iconst 1, 1) := by decide +kernel
theorem dX3_in_26 : decode cX3_in 26 = .ok (.ireturn, 1) := by decide +kernel
theorem dX3_set_0 : decode cX3_set 0 = .ok (.aload_n 0, 1) := by decide +kernel
theorem dX3_set_1 : decode cX3_set 1 = .ok (.iconst 0, 1) := by decide +kernel
theorem dX3_set_2 : decode cX3_set 2 = .ok (.putfield 61, 3) := by decide +kernel
theorem dX3_set_5 : decode cX3_set 5 = .ok (.iconst (-1), 1) := by decide +kernel
theorem dX3_set_6 : decode cX3_set 6 = .ok (.istore_n 3, 1) := by decide +kernel
theorem dX3_set_7 : decode cX3_set 7 = .ok (.iload_n 1, 1) := by decide +kernel
theorem dX3_set_8 : decode cX3_set 8 = .ok (.ifCond .ne 27, 3) := by decide +kernel
theorem dX3_set_11 : decode cX3_set 11 = .ok (.iload_n 2, 1) := by decide +kernel
theorem dX3_set_12 : decode cX3_set 12 = .ok (.iconst 1, 1) := by decide +kernel
theorem dX3_set_13 : decode cX3_set 13 = .ok (.if_icmp .lt 22, 3) := by decide +kernel
theorem dX3_set_16 : decode cX3_set 16 = .ok (.iload_n 2, 1) := by decide +kernel
theorem dX3_set_17 : decode cX3_set 17 = .ok (.bipush 8, 2) := by decide +kernel
theorem dX3_set_19 : decode cX3_set 19 = .ok (.if_icmp .gt 16, 3) := by decide +kernel
theorem dX3_set_22 : decode cX3_set 22 = .ok (.aload_n 0, 1) := by decide +kernel
theorem dX3_set_23 : decode cX3_set 23 = .ok (.getfield 52, 3) := by decide +kernel
theorem dX3_set_26 : decode cX3_set 26 = .ok (.istore_n 3, 1) := by decide +kernel
theorem dX3_set_27 : decode cX3_set 27 = .ok (.aload_n 0, 1) := by decide +kernel
theorem dX3_set_28 : decode cX3_set 28 = .ok (.iload_n 2, 1) := by decide +kernel
theorem dX3_set_29 : decode cX3_set 29 = .ok (.putfield 52, 3) := by decide +kernel
theorem dX3_set_32 : decode cX3_set 32 = .ok (.goto 58, 3) := by decide +kernel
theorem dX3_set_35 : decode cX3_set 35 = .ok (.iload_n 1, 1) := by decide +kernel
theorem dX3_set_36 : decode cX3_set 36 = .ok (.iconst 1, 1) := by decide +kernel
theorem dX3_set_37 : decode cX3_set 37 = .ok (.if_icmp .ne 27, 3) := by decide +kernel
theorem dX3_set_40 : decode cX3_set 40 = .ok (.iload_n 2, 1) := by decide +kernel
theorem dX3_set_41 : decode cX3_set 41 = .ok (.iconst 2, 1) := by decide +kernel
theorem dX3_set_42 : decode cX3_set 42 = .ok (.if_icmp .lt 22, 3) := by decide +kernel
theorem dX3_set_45 : decode cX3_set 45 = .ok (.iload_n 2, 1) := by decide +kernel
theorem dX3_set_46 : decode cX3_set 46 = .ok (.bipush 10, 2) := by decide +kernel
theorem dX3_set_48 : decode cX3_set 48 = .ok (.if_icmp .gt 16, 3) := by decide +kernel
theorem dX3_set_51 : decode cX3_set 51 = .ok (.aload_n 0, 1) := by decide +kernel
theorem dX3_set_52 : decode cX3_set 52 = .ok (.getfield 55, 3) := by decide +kernel
theorem dX3_set_55 : decode cX3_set 55 = .ok (.istore_n 3, 1) := by decide +kernel
theorem dX3_set_56 : decode cX3_set 56 = .ok (.aload_n 0, 1) := by decide +kernel
theorem dX3_set_57 : decode cX3_set 57 = .ok (.iload_n 2, 1) := by decide +kernel
theorem dX3_set_58 : decode cX3_set 58 = .ok (.putfield 55, 3) := by decide +kernel
theorem dX3_set_61 : decode cX3_set 61 = .ok (.goto 29, 3) := by decide +kernel
theorem dX3_set_64 : decode cX3_set 64 = .ok (.iload_n 1, 1) := by decide +kernel
theorem dX3_set_65 : decode cX3_set 65 = .ok (.iconst 2, 1) := by decide +kernel
theorem dX3_set_66 : decode cX3_set 66 = .ok (.if_icmp .ne 24, 3) := by decide +kernel
theorem dX3_set_69 : decode cX3_set 69 = .ok (.iload_n 2, 1) := by decide +kernel
theorem dX3_set_70 : decode cX3_set 70 = .ok (.ifCond .lt 20, 3) := by decide +kernel
theorem dX3_set_73 : decode cX3_set 73 = .ok (.iload_n 2, 1) := by decide +kernel
theorem dX3_set_74 : decode cX3_set 74 = .ok (.sipush 500, 3) := by decide +kernel
theorem dX3_set_77 : decode cX3_set 77 = .ok (.if_icmp .gt 13, 3) := by decide +kernel
theorem dX3_set_80 : decode cX3_set 80 = .ok (.aload_n 0, 1) := by decide +kernel
theorem dX3_set_81 : decode cX3_set 81 = .ok (.getfield 58, 3) := by decide +kernel
theorem dX3_set_84 : decode cX3_set 84 = .ok (.istore_n 3, 1) := by decide +kernel
theorem dX3_set_85 : decode cX3_set 85 = .ok (.aload_n 0, 1) := by decide +kernel
theorem dX3_set_86 : decode cX3_set 86 = .ok (.iload_n 2, 1) := by decide +kernel
theorem dX3_set_87 : decode cX3_set 87 = .ok (.putfield 58, 3) := by decide +kernel
theorem dX3_set_90 : decode cX3_set 90 = .ok (.iload_n 3, 1) := by decide +kernel
theorem dX3_set_91 : decode cX3_set 91 = .ok (.ireturn, 1) := by decide +kernel
theorem dX3_count_0 : decode cX3_count 0 = .ok (.iload_n 1, 1) := by decide +kernel
theorem dX3_count_1 : decode cX3_count 1 = .ok (.tableswitch 78 0 6 #[43, 48, 53, 58, 63, 68, 73], 43) := by decide +kernel
theorem dX3_count_44 : decode cX3_count 44 = .ok (.aload_n 0, 1) := by decide +kernel
theorem dX3_count_45 : decode cX3_count 45 = .ok (.getfield 42, 3) := by decide +kernel
theorem dX3_count_48 : decode cX3_count 48 = .ok (.ireturn, 1) := by decide +kernel
theorem dX3_count_49 : decode cX3_count 49 = .ok (.aload_n 0, 1) := by decide +kernel
theorem dX3_count_50 : decode cX3_count 50 = .ok (.invokevirtual 117, 3) := by decide +kernel
theorem dX3_count_53 : decode cX3_count 53 = .ok (.ireturn, 1) := by decide +kernel
theorem dX3_count_54 : decode cX3_count 54 = .ok (.aload_n 0, 1) := by decide +kernel
theorem dX3_count_55 : decode cX3_count 55 = .ok (.getfield 46, 3) := by decide +kernel
theorem dX3_count_58 : decode cX3_count 58 = .ok (.ireturn, 1) := by decide +kernel
theorem dX3_count_59 : decode cX3_count 59 = .ok (.aload_n 0, 1) := by decide +kernel
theorem dX3_count_60 : decode cX3_count 60 = .ok (.getfield 49, 3) := by decide +kernel
theorem dX3_count_63 : decode cX3_count 63 = .ok (.ireturn, 1) := by decide +kernel
theorem dX3_count_64 : decode cX3_count 64 = .ok (.aload_n 0, 1) := by decide +kernel
theorem dX3_count_65 : decode cX3_count 65 = .ok (.invokevirtual 121, 3) := by decide +kernel
theorem dX3_count_68 : decode cX3_count 68 = .ok (.ireturn, 1) := by decide +kernel
theorem dX3_count_69 : decode cX3_count 69 = .ok (.aload_n 0, 1) := by decide +kernel
theorem dX3_count_70 : decode cX3_count 70 = .ok (.invokevirtual 124, 3) := by decide +kernel
theorem dX3_count_73 : decode cX3_count 73 = .ok (.ireturn, 1) := by decide +kernel
theorem dX3_count_74 : decode cX3_count 74 = .ok (.aload_n 0, 1) := by decide +kernel
theorem dX3_count_75 : decode cX3_count 75 = .ok (.invokevirtual 127, 3) := by decide +kernel
theorem dX3_count_78 : decode cX3_count 78 = .ok (.ireturn, 1) := by decide +kernel
theorem dX3_count_79 : decode cX3_count 79 = .ok (.iconst (-1), 1) := by decide +kernel
theorem dX3_count_80 : decode cX3_count 80 = .ok (.ireturn, 1) := by decide +kernel
theorem dX3_of_0 : decode cX3_of 0 = .ok (.aload_n 0, 1) := by decide +kernel
theorem dX3_of_1 : decode cX3_of 1 = .ok (.iload_n 1, 1) := by decide +kernel
theorem dX3_of_2 : decode cX3_of 2 = .ok (.invokevirtual 74, 3) := by decide +kernel
theorem dX3_of_5 : decode cX3_of 5 = .ok (.ifCond .ne 13, 3) := by decide +kernel
theorem dX3_of_8 : decode cX3_of 8 = .ok (.new 130, 3) := by decide +kernel
theorem dX3_of_11 : decode cX3_of 11 = .ok (.dup, 1) := by decide +kernel
theorem dX3_of_12 : decode cX3_of 12 = .ok (.ldc 132, 2) := by decide +kernel
theorem dX3_of_14 : decode cX3_of 14 = .ok (.invokespecial 134, 3) := by decide +kernel
theorem dX3_of_17 : decode cX3_of 17 = .ok (.athrow, 1) := by decide +kernel
theorem dX3_of_18 : decode cX3_of 18 = .ok (.aload_n 0, 1) := by decide +kernel
theorem dX3_of_19 : decode cX3_of 19 = .ok (.getfield 11, 3) := by decide +kernel
theorem dX3_of_22 : decode cX3_of 22 = .ok (.iload_n 1, 1) := by decide +kernel
theorem dX3_of_23 : decode cX3_of 23 = .ok (.aaload, 1) := by decide +kernel
theorem dX3_of_24 : decode cX3_of 24 = .ok (.astore_n 3, 1) := by decide +kernel
theorem dX3_of_25 : decode cX3_of 25 = .ok (.iload_n 2, 1) := by decide +kernel
theorem dX3_of_26 : decode cX3_of 26 = .ok (.tableswitch 98 0 7 #[46, 51, 56, 61, 66, 73, 79, 92], 46) := by decide +kernel
theorem dX3_of_72 : decode cX3_of 72 = .ok (.aload_n 3, 1) := by decide +kernel
theorem dX3_of_73 : decode cX3_of 73 = .ok (.invokevirtual 137, 3) := by decide +kernel
theorem dX3_of_76 : decode cX3_of 76 = .ok (.ireturn, 1) := by decide +kernel
theorem dX3_of_77 : decode cX3_of 77 = .ok (.aload_n 3, 1) := by decide +kernel
theorem dX3_of_78 : decode cX3_of 78 = .ok (.invokevirtual 140, 3) := by decide +kernel
theorem dX3_of_81 : decode cX3_of 81 = .ok (.ireturn, 1) := by decide +kernel
theorem dX3_of_82 : decode cX3_of 82 = .ok (.aload_n 3, 1) := by decide +kernel
theorem dX3_of_83 : decode cX3_of 83 = .ok (.getfield 97, 3) := by decide +kernel
theorem dX3_of_86 : decode cX3_of 86 = .ok (.ireturn, 1) := by decide +kernel
theorem dX3_of_87 : decode cX3_of 87 = .ok (.aload_n 3, 1) := by decide +kernel
theorem dX3_of_88 : decode cX3_of 88 = .ok (.getfield 143, 3) := by decide +kernel
theorem dX3_of_91 : decode cX3_of 91 = .ok (.ireturn, 1) := by decide +kernel
theorem dX3_of_92 : decode cX3_of 92 = .ok (.aload_n 0, 1) := by decide +kernel
theorem dX3_of_93 : decode cX3_of 93 = .ok (.getfield 15, 3) := by decide +kernel
theorem dX3_of_96 : decode cX3_of 96 = .ok (.iload_n 1, 1) := by decide +kernel
theorem dX3_of_97 : decode cX3_of 97 = .ok (.iaload, 1) := by decide +kernel
theorem dX3_of_98 : decode cX3_of 98 = .ok (.ireturn, 1) := by decide +kernel
theorem dX3_of_99 : decode cX3_of 99 = .ok (.aload_n 0, 1) := by decide +kernel
theorem dX3_of_100 : decode cX3_of 100 = .ok (.iload_n 1, 1) := by decide +kernel
theorem dX3_of_101 : decode cX3_of 101 = .ok (.invokevirtual 146, 3) := by decide +kernel
theorem dX3_of_104 : decode cX3_of 104 = .ok (.ireturn, 1) := by decide +kernel
theorem dX3_of_105 : decode cX3_of 105 = .ok (.aload_n 3, 1) := by decide +kernel
theorem dX3_of_106 : decode cX3_of 106 = .ok (.getfield 114, 3) := by decide +kernel
theorem dX3_of_109 : decode cX3_of 109 = .ok (.ifCond .eq 7, 3) := by decide +kernel
theorem dX3_of_112 : decode cX3_of 112 = .ok (.iconst 1, 1) := by decide +kernel
theorem dX3_of_113 : decode cX3_of 113 = .ok (.goto 4, 3) := by decide +kernel
theorem dX3_of_116 : decode cX3_of 116 = .ok (.iconst 0, 1) := by decide +kernel
theorem dX3_of_117 : decode cX3_of 117 = .ok (.ireturn, 1) := by decide +kernel
theorem dX3_of_118 : decode cX3_of 118 = .ok (.aload_n 0, 1) := by decide +kernel
theorem dX3_of_119 : decode cX3_of 119 = .ok (.iload_n 1, 1) := by decide +kernel
theorem dX3_of_120 : decode cX3_of 120 = .ok (.invokevirtual 150, 3) := by decide +kernel
theorem dX3_of_123 : decode cX3_of 123 = .ok (.ireturn, 1) := by decide +kernel
theorem dX3_of_124 : decode cX3_of 124 = .ok (.new 130, 3) := by decide +kernel
theorem dX3_of_127 : decode cX3_of 127 = .ok (.dup, 1) := by decide +kernel
theorem dX3_of_128 : decode cX3_of 128 = .ok (.ldc 153, 2) := by decide +kernel
theorem dX3_of_130 : decode cX3_of 130 = .ok (.invokespecial 134, 3) := by decide +kernel
theorem dX3_of_133 : decode cX3_of 133 = .ok (.athrow, 1) := by decide +kernel
theorem dX3_rank_0 : decode cX3_rank 0 = .ok (.aload_n 0, 1) := by decide +kernel
theorem dX3_rank_1 : decode cX3_rank 1 = .ok (.iload_n 1, 1) := by decide +kernel
theorem dX3_rank_2 : decode cX3_rank 2 = .ok (.iload_n 2, 1) := by decide +kernel
theorem dX3_rank_3 : decode cX3_rank 3 = .ok (.invokevirtual 107, 3) := by decide +kernel
theorem dX3_rank_6 : decode cX3_rank 6 = .ok (.ifCond .eq 17, 3) := by decide +kernel
theorem dX3_rank_9 : decode cX3_rank 9 = .ok (.aload_n 0, 1) := by decide +kernel
theorem dX3_rank_10 : decode cX3_rank 10 = .ok (.getfield 11, 3) := by decide +kernel
theorem dX3_rank_13 : decode cX3_rank 13 = .ok (.iload_n 1, 1) := by decide +kernel
theorem dX3_rank_14 : decode cX3_rank 14 = .ok (.aaload, 1) := by decide +kernel
theorem dX3_rank_15 : decode cX3_rank 15 = .ok (.getfield 155, 3) := by decide +kernel
theorem dX3_rank_18 : decode cX3_rank 18 = .ok (.iload_n 2, 1) := by decide +kernel
theorem dX3_rank_19 : decode cX3_rank 19 = .ok (.iaload, 1) := by decide +kernel
theorem dX3_rank_20 : decode cX3_rank 20 = .ok (.goto 4, 3) := by decide +kernel
theorem dX3_rank_23 : decode cX3_rank 23 = .ok (.iconst (-1), 1) := by decide +kernel
theorem dX3_rank_24 : decode cX3_rank 24 = .ok (.ireturn, 1) := by decide +kernel
theorem dX3_can_0 : decode cX3_can 0 = .ok (.aload_n 0, 1) := by decide +kernel
theorem dX3_can_1 : decode cX3_can 1 = .ok (.iload_n 1, 1) := by decide +kernel
theorem dX3_can_2 : decode cX3_can 2 = .ok (.iload_n 2, 1) := by decide +kernel
theorem dX3_can_3 : decode cX3_can 3 = .ok (.invokevirtual 107, 3) := by decide +kernel
theorem dX3_can_6 : decode cX3_can 6 = .ok (.ifCond .eq 12, 3) := by decide +kernel
theorem dX3_can_9 : decode cX3_can 9 = .ok (.aload_n 0, 1) := by decide +kernel
theorem dX3_can_10 : decode cX3_can 10 = .ok (.iload_n 1, 1) := by decide +kernel
theorem dX3_can_11 : decode cX3_can 11 = .ok (.iload_n 2, 1) := by decide +kernel
theorem dX3_can_12 : decode cX3_can 12 = .ok (.invokevirtual 158, 3) := by decide +kernel
theorem dX3_can_15 : decode cX3_can 15 = .ok (.goto 4, 3) := by decide +kernel
theorem dX3_can_18 : decode cX3_can 18 = .ok (.iconst (-1), 1) := by decide +kernel
theorem dX3_can_19 : decode cX3_can 19 = .ok (.ireturn, 1) := by decide +kernel
theorem dX3_week_0 : decode cX3_week 0 = .ok (.aload_n 0, 1) := by decide +kernel
theorem dX3_week_1 : decode cX3_week 1 = .ok (.iload_n 1, 1) := by decide +kernel
theorem dX3_week_2 : decode cX3_week 2 = .ok (.iload_n 2, 1) := by decide +kernel
theorem dX3_week_3 : decode cX3_week 3 = .ok (.invokevirtual 107, 3) := by decide +kernel
theorem dX3_week_6 : decode cX3_week 6 = .ok (.ifCond .eq 12, 3) := by decide +kernel
theorem dX3_week_9 : decode cX3_week 9 = .ok (.aload_n 0, 1) := by decide +kernel
theorem dX3_week_10 : decode cX3_week 10 = .ok (.iload_n 1, 1) := by decide +kernel
theorem dX3_week_11 : decode cX3_week 11 = .ok (.iload_n 2, 1) := by decide +kernel
theorem dX3_week_12 : decode cX3_week 12 = .ok (.invokevirtual 158, 3) := by decide +kernel
theorem dX3_week_15 : decode cX3_week 15 = .ok (.ifCond .eq 5, 3) := by decide +kernel
theorem dX3_week_18 : decode cX3_week 18 = .ok (.iconst (-1), 1) := by decide +kernel
theorem dX3_week_19 : decode cX3_week 19 = .ok (.ireturn, 1) := by decide +kernel
theorem dX3_week_20 : decode cX3_week 20 = .ok (.aload_n 0, 1) := by decide +kernel
theorem dX3_week_21 : decode cX3_week 21 = .ok (.getfield 11, 3) := by decide +kernel
theorem dX3_week_24 : decode cX3_week 24 = .ok (.iload_n 1, 1) := by decide +kernel
theorem dX3_week_25 : decode cX3_week 25 = .ok (.aaload, 1) := by decide +kernel
theorem dX3_week_26 : decode cX3_week 26 = .ok (.getfield 83, 3) := by decide +kernel
theorem dX3_week_29 : decode cX3_week 29 = .ok (.aload_n 0, 1) := by decide +kernel
theorem dX3_week_30 : decode cX3_week 30 = .ok (.getfield 11, 3) := by decide +kernel
theorem dX3_week_33 : decode cX3_week 33 = .ok (.iload_n 2, 1) := by decide +kernel
theorem dX3_week_34 : decode cX3_week 34 = .ok (.aaload, 1) := by decide +kernel
theorem dX3_week_35 : decode cX3_week 35 = .ok (.getfield 77, 3) := by decide +kernel
theorem dX3_week_38 : decode cX3_week 38 = .ok (.invokestatic 162, 3) := by decide +kernel
theorem dX3_week_41 : decode cX3_week 41 = .ok (.ireturn, 1) := by decide +kernel
theorem dX3_put_0 : decode cX3_put 0 = .ok (.aload_n 0, 1) := by decide +kernel
theorem dX3_put_1 : decode cX3_put 1 = .ok (.iconst 0, 1) := by decide +kernel
theorem dX3_put_2 : decode cX3_put 2 = .ok (.putfield 61, 3) := by decide +kernel
theorem dX3_put_5 : decode cX3_put 5 = .ok (.aload_n 0, 1) := by decide +kernel
theorem dX3_put_6 : decode cX3_put 6 = .ok (.iload_n 1, 1) := by decide +kernel
theorem dX3_put_7 : decode cX3_put 7 = .ok (.invokevirtual 74, 3) := by decide +kernel
theorem dX3_put_10 : decode cX3_put 10 = .ok (.ifCond .eq 17, 3) := by decide +kernel
theorem dX3_put_13 : decode cX3_put 13 = .ok (.iload_n 2, 1) := by decide +kernel
theorem dX3_put_14 : decode cX3_put 14 = .ok (.iconst (-1), 1) := by decide +kernel
theorem dX3_put_15 : decode cX3_put 15 = .ok (.if_icmp .eq 14, 3) := by decide +kernel
theorem dX3_put_18 : decode cX3_put 18 = .ok (.aload_n 0, 1) := by decide +kernel
theorem dX3_put_19 : decode cX3_put 19 = .ok (.iload_n 1, 1) := by decide +kernel
theorem dX3_put_20 : decode cX3_put 20 = .ok (.iload_n 2, 1) := by decide +kernel
theorem dX3_put_21 : decode cX3_put 21 = .ok (.invokevirtual 107, 3) := by decide +kernel
theorem dX3_put_24 : decode cX3_put 24 = .ok (.ifCond .ne 5, 3) := by decide +kernel
theorem dX3_put_27 : decode cX3_put 27 = .ok (.iconst 0, 1) := by decide +kernel
theorem dX3_put_28 : decode cX3_put 28 = .ok (.ireturn, 1) := by decide +kernel
theorem dX3_put_29 : decode cX3_put 29 = .ok (.aload_n 0, 1) := by decide +kernel
theorem dX3_put_30 : decode cX3_put 30 = .ok (.getfield 15, 3) := by decide +kernel
theorem dX3_put_33 : decode cX3_put 33 = .ok (.iload_n 1, 1) := by decide +kernel
theorem dX3_put_34 : decode cX3_put 34 = .ok (.iload_n 2, 1) := by decide +kernel
theorem dX3_put_35 : decode cX3_put 35 = .ok (.iastore, 1) := by decide +kernel
theorem dX3_put_36 : decode cX3_put 36 = .ok (.iconst 1, 1) := by decide +kernel
theorem dX3_put_37 : decode cX3_put 37 = .ok (.ireturn, 1) := by decide +kernel
theorem dX3_wrong_0 : decode cX3_wrong 0 = .ok (.aload_n 0, 1) := by decide +kernel
theorem dX3_wrong_1 : decode cX3_wrong 1 = .ok (.invokevirtual 167, 3) := by decide +kernel
theorem dX3_wrong_4 : decode cX3_wrong 4 = .ok (.istore_n 1, 1) := by decide +kernel
theorem dX3_wrong_5 : decode cX3_wrong 5 = .ok (.iload_n 1, 1) := by decide +kernel
theorem dX3_wrong_6 : decode cX3_wrong 6 = .ok (.ifCond .eq 7, 3) := by decide +kernel
theorem dX3_wrong_9 : decode cX3_wrong 9 = .ok (.iload_n 1, 1) := by decide +kernel
theorem dX3_wrong_10 : decode cX3_wrong 10 = .ok (.goto 7, 3) := by decide +kernel
theorem dX3_wrong_13 : decode cX3_wrong 13 = .ok (.aload_n 0, 1) := by decide +kernel
theorem dX3_wrong_14 : decode cX3_wrong 14 = .ok (.invokevirtual 170, 3) := by decide +kernel
theorem dX3_wrong_17 : decode cX3_wrong 17 = .ok (.ireturn, 1) := by decide +kernel
theorem dX3_best_0 : decode cX3_best 0 = .ok (.aload_n 0, 1) := by decide +kernel
end
section
theorem dX3_best_1 : decode cX3_best 1 = .ok (.iconst 0, 1) := by decide +kernel
theorem dX3_best_2 : decode cX3_best 2 = .ok (.putfield 61, 3) := by decide +kernel
theorem dX3_best_5 : decode cX3_best 5 = .ok (.aload_n 0, 1) := by decide +kernel
theorem dX3_best_6 : decode cX3_best 6 = .ok (.iconst 0, 1) := by decide +kernel
theorem dX3_best_7 : decode cX3_best 7 = .ok (.invokevirtual 173, 3) := by decide +kernel
theorem dX3_best_10 : decode cX3_best 10 = .ok (.pop, 1) := by decide +kernel
theorem dX3_best_11 : decode cX3_best 11 = .ok (.aload_n 0, 1) := by decide +kernel
theorem dX3_best_12 : decode cX3_best 12 = .ok (.invokevirtual 121, 3) := by decide +kernel
theorem dX3_best_15 : decode cX3_best 15 = .ok (.ireturn, 1) := by decide +kernel
theorem dX3_mend_0 : decode cX3_mend 0 = .ok (.aload_n 0, 1) := by decide +kernel
theorem dX3_mend_1 : decode cX3_mend 1 = .ok (.iconst 0, 1) := by decide +kernel
theorem dX3_mend_2 : decode cX3_mend 2 = .ok (.putfield 61, 3) := by decide +kernel
theorem dX3_mend_5 : decode cX3_mend 5 = .ok (.aload_n 0, 1) := by decide +kernel
theorem dX3_mend_6 : decode cX3_mend 6 = .ok (.sipush 1000, 3) := by decide +kernel
theorem dX3_mend_9 : decode cX3_mend 9 = .ok (.invokevirtual 173, 3) := by decide +kernel
theorem dX3_mend_12 : decode cX3_mend 12 = .ok (.ireturn, 1) := by decide +kernel
theorem dX3_trade_0 : decode cX3_trade 0 = .ok (.aload_n 0, 1) := by decide +kernel
theorem dX3_trade_1 : decode cX3_trade 1 = .ok (.iconst 0, 1) := by decide +kernel
theorem dX3_trade_2 : decode cX3_trade 2 = .ok (.putfield 61, 3) := by decide +kernel
theorem dX3_trade_5 : decode cX3_trade 5 = .ok (.aload_n 0, 1) := by decide +kernel
theorem dX3_trade_6 : decode cX3_trade 6 = .ok (.invokevirtual 176, 3) := by decide +kernel
theorem dX3_trade_9 : decode cX3_trade 9 = .ok (.iconst 1, 1) := by decide +kernel
theorem dX3_trade_10 : decode cX3_trade 10 = .ok (.aload_n 0, 1) := by decide +kernel
theorem dX3_trade_11 : decode cX3_trade 11 = .ok (.getfield 42, 3) := by decide +kernel
theorem dX3_trade_14 : decode cX3_trade 14 = .ok (.ishl, 1) := by decide +kernel
theorem dX3_trade_15 : decode cX3_trade 15 = .ok (.iconst 1, 1) := by decide +kernel
theorem dX3_trade_16 : decode cX3_trade 16 = .ok (.isub, 1) := by decide +kernel
theorem dX3_trade_17 : decode cX3_trade 17 = .ok (.istore_n 1, 1) := by decide +kernel
theorem dX3_trade_18 : decode cX3_trade 18 = .ok (.iconst 0, 1) := by decide +kernel
theorem dX3_trade_19 : decode cX3_trade 19 = .ok (.istore_n 2, 1) := by decide +kernel
theorem dX3_trade_20 : decode cX3_trade 20 = .ok (.iload_n 2, 1) := by decide +kernel
theorem dX3_trade_21 : decode cX3_trade 21 = .ok (.bipush 10, 2) := by decide +kernel
theorem dX3_trade_23 : decode cX3_trade 23 = .ok (.if_icmp .ge 29, 3) := by decide +kernel
theorem dX3_trade_26 : decode cX3_trade 26 = .ok (.iload_n 1, 1) := by decide +kernel
theorem dX3_trade_27 : decode cX3_trade 27 = .ok (.ifCond .eq 25, 3) := by decide +kernel
theorem dX3_trade_30 : decode cX3_trade 30 = .ok (.aload_n 0, 1) := by decide +kernel
theorem dX3_trade_31 : decode cX3_trade 31 = .ok (.iload_n 1, 1) := by decide +kernel
theorem dX3_trade_32 : decode cX3_trade 32 = .ok (.invokevirtual 179, 3) := by decide +kernel
theorem dX3_trade_35 : decode cX3_trade 35 = .ok (.istore_n 1, 1) := by decide +kernel
theorem dX3_trade_36 : decode cX3_trade 36 = .ok (.iload_n 1, 1) := by decide +kernel
theorem dX3_trade_37 : decode cX3_trade 37 = .ok (.aload_n 0, 1) := by decide +kernel
theorem dX3_trade_38 : decode cX3_trade 38 = .ok (.iload_n 1, 1) := by decide +kernel
theorem dX3_trade_39 : decode cX3_trade 39 = .ok (.invokevirtual 182, 3) := by decide +kernel
theorem dX3_trade_42 : decode cX3_trade 42 = .ok (.iconst (-1), 1) := by decide +kernel
theorem dX3_trade_43 : decode cX3_trade 43 = .ok (.ixor, 1) := by decide +kernel
theorem dX3_trade_44 : decode cX3_trade 44 = .ok (.iand, 1) := by decide +kernel
theorem dX3_trade_45 : decode cX3_trade 45 = .ok (.istore_n 1, 1) := by decide +kernel
theorem dX3_trade_46 : decode cX3_trade 46 = .ok (.iinc 2 1, 3) := by decide +kernel
theorem dX3_trade_49 : decode cX3_trade 49 = .ok (.goto (-29), 3) := by decide +kernel
theorem dX3_trade_52 : decode cX3_trade 52 = .ok (.aload_n 0, 1) := by decide +kernel
theorem dX3_trade_53 : decode cX3_trade 53 = .ok (.invokevirtual 121, 3) := by decide +kernel
theorem dX3_trade_56 : decode cX3_trade 56 = .ok (.ireturn, 1) := by decide +kernel
theorem dX3_blocks_0 : decode cX3_blocks 0 = .ok (.aload_n 0, 1) := by decide +kernel
theorem dX3_blocks_1 : decode cX3_blocks 1 = .ok (.iconst 0, 1) := by decide +kernel
theorem dX3_blocks_2 : decode cX3_blocks 2 = .ok (.putfield 61, 3) := by decide +kernel
theorem dX3_blocks_5 : decode cX3_blocks 5 = .ok (.aload_n 0, 1) := by decide +kernel
theorem dX3_blocks_6 : decode cX3_blocks 6 = .ok (.getfield 38, 3) := by decide +kernel
theorem dX3_blocks_9 : decode cX3_blocks 9 = .ok (.aload_n 0, 1) := by decide +kernel
theorem dX3_blocks_10 : decode cX3_blocks 10 = .ok (.getfield 42, 3) := by decide +kernel
theorem dX3_blocks_13 : decode cX3_blocks 13 = .ok (.invokevirtual 185, 3) := by decide +kernel
theorem dX3_blocks_16 : decode cX3_blocks 16 = .ok (.iconst 0, 1) := by decide +kernel
theorem dX3_blocks_17 : decode cX3_blocks 17 = .ok (.istore_n 1, 1) := by decide +kernel
theorem dX3_blocks_18 : decode cX3_blocks 18 = .ok (.iload_n 1, 1) := by decide +kernel
theorem dX3_blocks_19 : decode cX3_blocks 19 = .ok (.aload_n 0, 1) := by decide +kernel
theorem dX3_blocks_20 : decode cX3_blocks 20 = .ok (.getfield 42, 3) := by decide +kernel
theorem dX3_blocks_23 : decode cX3_blocks 23 = .ok (.if_icmp .ge 52, 3) := by decide +kernel
theorem dX3_blocks_26 : decode cX3_blocks 26 = .ok (.iconst 0, 1) := by decide +kernel
theorem dX3_blocks_27 : decode cX3_blocks 27 = .ok (.istore_n 2, 1) := by decide +kernel
theorem dX3_blocks_28 : decode cX3_blocks 28 = .ok (.iload_n 2, 1) := by decide +kernel
theorem dX3_blocks_29 : decode cX3_blocks 29 = .ok (.aload_n 0, 1) := by decide +kernel
theorem dX3_blocks_30 : decode cX3_blocks 30 = .ok (.getfield 42, 3) := by decide +kernel
theorem dX3_blocks_33 : decode cX3_blocks 33 = .ok (.if_icmp .ge 36, 3) := by decide +kernel
theorem dX3_blocks_36 : decode cX3_blocks 36 = .ok (.aload_n 0, 1) := by decide +kernel
theorem dX3_blocks_37 : decode cX3_blocks 37 = .ok (.iload_n 1, 1) := by decide +kernel
theorem dX3_blocks_38 : decode cX3_blocks 38 = .ok (.iload_n 2, 1) := by decide +kernel
theorem dX3_blocks_39 : decode cX3_blocks 39 = .ok (.invokevirtual 188, 3) := by decide +kernel
theorem dX3_blocks_42 : decode cX3_blocks 42 = .ok (.ifCond .eq 21, 3) := by decide +kernel
theorem dX3_blocks_45 : decode cX3_blocks 45 = .ok (.aload_n 0, 1) := by decide +kernel
theorem dX3_blocks_46 : decode cX3_blocks 46 = .ok (.iload_n 1, 1) := by decide +kernel
theorem dX3_blocks_47 : decode cX3_blocks 47 = .ok (.iload_n 2, 1) := by decide +kernel
theorem dX3_blocks_48 : decode cX3_blocks 48 = .ok (.invokevirtual 191, 3) := by decide +kernel
theorem dX3_blocks_51 : decode cX3_blocks 51 = .ok (.ifCond .eq 12, 3) := by decide +kernel
theorem dX3_blocks_54 : decode cX3_blocks 54 = .ok (.aload_n 0, 1) := by decide +kernel
theorem dX3_blocks_55 : decode cX3_blocks 55 = .ok (.getfield 38, 3) := by decide +kernel
theorem dX3_blocks_58 : decode cX3_blocks 58 = .ok (.iload_n 1, 1) := by decide +kernel
theorem dX3_blocks_59 : decode cX3_blocks 59 = .ok (.iload_n 2, 1) := by decide +kernel
theorem dX3_blocks_60 : decode cX3_blocks 60 = .ok (.invokevirtual 194, 3) := by decide +kernel
theorem dX3_blocks_63 : decode cX3_blocks 63 = .ok (.iinc 2 1, 3) := by decide +kernel
theorem dX3_blocks_66 : decode cX3_blocks 66 = .ok (.goto (-38), 3) := by decide +kernel
theorem dX3_blocks_69 : decode cX3_blocks 69 = .ok (.iinc 1 1, 3) := by decide +kernel
theorem dX3_blocks_72 : decode cX3_blocks 72 = .ok (.goto (-54), 3) := by decide +kernel
theorem dX3_blocks_75 : decode cX3_blocks 75 = .ok (.aload_n 0, 1) := by decide +kernel
theorem dX3_blocks_76 : decode cX3_blocks 76 = .ok (.getfield 38, 3) := by decide +kernel
theorem dX3_blocks_79 : decode cX3_blocks 79 = .ok (.aload_n 0, 1) := by decide +kernel
theorem dX3_blocks_80 : decode cX3_blocks 80 = .ok (.getfield 22, 3) := by decide +kernel
theorem dX3_blocks_83 : decode cX3_blocks 83 = .ok (.invokevirtual 198, 3) := by decide +kernel
theorem dX3_blocks_86 : decode cX3_blocks 86 = .ok (.istore_n 1, 1) := by decide +kernel
theorem dX3_blocks_87 : decode cX3_blocks 87 = .ok (.aload_n 0, 1) := by decide +kernel
theorem dX3_blocks_88 : decode cX3_blocks 88 = .ok (.iload_n 1, 1) := by decide +kernel
theorem dX3_blocks_89 : decode cX3_blocks 89 = .ok (.invokevirtual 202, 3) := by decide +kernel
theorem dX3_blocks_92 : decode cX3_blocks 92 = .ok (.iload_n 1, 1) := by decide +kernel
theorem dX3_blocks_93 : decode cX3_blocks 93 = .ok (.ireturn, 1) := by decide +kernel
theorem dX3_ring_0 : decode cX3_ring 0 = .ok (.aload_n 0, 1) := by decide +kernel
theorem dX3_ring_1 : decode cX3_ring 1 = .ok (.iconst 0, 1) := by decide +kernel
theorem dX3_ring_2 : decode cX3_ring 2 = .ok (.putfield 61, 3) := by decide +kernel
theorem dX3_ring_5 : decode cX3_ring 5 = .ok (.aload_n 0, 1) := by decide +kernel
theorem dX3_ring_6 : decode cX3_ring 6 = .ok (.iload_n 1, 1) := by decide +kernel
theorem dX3_ring_7 : decode cX3_ring 7 = .ok (.invokevirtual 74, 3) := by decide +kernel
theorem dX3_ring_10 : decode cX3_ring 10 = .ok (.ifCond .ne 5, 3) := by decide +kernel
theorem dX3_ring_13 : decode cX3_ring 13 = .ok (.iconst (-1), 1) := by decide +kernel
theorem dX3_ring_14 : decode cX3_ring 14 = .ok (.ireturn, 1) := by decide +kernel
theorem dX3_ring_15 : decode cX3_ring 15 = .ok (.aload_n 0, 1) := by decide +kernel
theorem dX3_ring_16 : decode cX3_ring 16 = .ok (.getfield 15, 3) := by decide +kernel
theorem dX3_ring_19 : decode cX3_ring 19 = .ok (.iload_n 1, 1) := by decide +kernel
theorem dX3_ring_20 : decode cX3_ring 20 = .ok (.iaload, 1) := by decide +kernel
theorem dX3_ring_21 : decode cX3_ring 21 = .ok (.iconst (-1), 1) := by decide +kernel
theorem dX3_ring_22 : decode cX3_ring 22 = .ok (.if_icmp .eq 10, 3) := by decide +kernel
theorem dX3_ring_25 : decode cX3_ring 25 = .ok (.aload_n 0, 1) := by decide +kernel
theorem dX3_ring_26 : decode cX3_ring 26 = .ok (.invokevirtual 167, 3) := by decide +kernel
theorem dX3_ring_29 : decode cX3_ring 29 = .ok (.ifCond .eq 5, 3) := by decide +kernel
theorem dX3_ring_32 : decode cX3_ring 32 = .ok (.iconst 0, 1) := by decide +kernel
theorem dX3_ring_33 : decode cX3_ring 33 = .ok (.ireturn, 1) := by decide +kernel
theorem dX3_ring_34 : decode cX3_ring 34 = .ok (.aload_n 0, 1) := by decide +kernel
theorem dX3_ring_35 : decode cX3_ring 35 = .ok (.iload_n 1, 1) := by decide +kernel
theorem dX3_ring_36 : decode cX3_ring 36 = .ok (.invokevirtual 205, 3) := by decide +kernel
theorem dX3_ring_39 : decode cX3_ring 39 = .ok (.istore_n 2, 1) := by decide +kernel
theorem dX3_ring_40 : decode cX3_ring 40 = .ok (.iload_n 1, 1) := by decide +kernel
theorem dX3_ring_41 : decode cX3_ring 41 = .ok (.istore_n 3, 1) := by decide +kernel
theorem dX3_ring_42 : decode cX3_ring 42 = .ok (.iconst 0, 1) := by decide +kernel
theorem dX3_ring_43 : decode cX3_ring 43 = .ok (.istore 4, 2) := by decide +kernel
theorem dX3_ring_45 : decode cX3_ring 45 = .ok (.iload 4, 2) := by decide +kernel
theorem dX3_ring_47 : decode cX3_ring 47 = .ok (.iload_n 2, 1) := by decide +kernel
theorem dX3_ring_48 : decode cX3_ring 48 = .ok (.if_icmp .ge 24, 3) := by decide +kernel
theorem dX3_ring_51 : decode cX3_ring 51 = .ok (.aload_n 0, 1) := by decide +kernel
theorem dX3_ring_52 : decode cX3_ring 52 = .ok (.getfield 22, 3) := by decide +kernel
theorem dX3_ring_55 : decode cX3_ring 55 = .ok (.iload 4, 2) := by decide +kernel
theorem dX3_ring_57 : decode cX3_ring 57 = .ok (.iload_n 3, 1) := by decide +kernel
theorem dX3_ring_58 : decode cX3_ring 58 = .ok (.iastore, 1) := by decide +kernel
theorem dX3_ring_59 : decode cX3_ring 59 = .ok (.aload_n 0, 1) := by decide +kernel
theorem dX3_ring_60 : decode cX3_ring 60 = .ok (.getfield 15, 3) := by decide +kernel
theorem dX3_ring_63 : decode cX3_ring 63 = .ok (.iload_n 3, 1) := by decide +kernel
theorem dX3_ring_64 : decode cX3_ring 64 = .ok (.iaload, 1) := by decide +kernel
theorem dX3_ring_65 : decode cX3_ring 65 = .ok (.istore_n 3, 1) := by decide +kernel
theorem dX3_ring_66 : decode cX3_ring 66 = .ok (.iinc 4 1, 3) := by decide +kernel
theorem dX3_ring_69 : decode cX3_ring 69 = .ok (.goto (-24), 3) := by decide +kernel
theorem dX3_ring_72 : decode cX3_ring 72 = .ok (.aload_n 0, 1) := by decide +kernel
theorem dX3_ring_73 : decode cX3_ring 73 = .ok (.iload_n 2, 1) := by decide +kernel
theorem dX3_ring_74 : decode cX3_ring 74 = .ok (.invokevirtual 202, 3) := by decide +kernel
theorem dX3_ring_77 : decode cX3_ring 77 = .ok (.iload_n 2, 1) := by decide +kernel
theorem dX3_ring_78 : decode cX3_ring 78 = .ok (.ireturn, 1) := by decide +kernel
theorem dX3_chain_0 : decode cX3_chain 0 = .ok (.aload_n 0, 1) := by decide +kernel
theorem dX3_chain_1 : decode cX3_chain 1 = .ok (.iconst 0, 1) := by decide +kernel
theorem dX3_chain_2 : decode cX3_chain 2 = .ok (.putfield 61, 3) := by decide +kernel
theorem dX3_chain_5 : decode cX3_chain 5 = .ok (.aload_n 0, 1) := by decide +kernel
theorem dX3_chain_6 : decode cX3_chain 6 = .ok (.iload_n 1, 1) := by decide +kernel
theorem dX3_chain_7 : decode cX3_chain 7 = .ok (.invokevirtual 74, 3) := by decide +kernel
theorem dX3_chain_10 : decode cX3_chain 10 = .ok (.ifCond .eq 13, 3) := by decide +kernel
theorem dX3_chain_13 : decode cX3_chain 13 = .ok (.aload_n 0, 1) := by decide +kernel
theorem dX3_chain_14 : decode cX3_chain 14 = .ok (.getfield 15, 3) := by decide +kernel
theorem dX3_chain_17 : decode cX3_chain 17 = .ok (.iload_n 1, 1) := by decide +kernel
theorem dX3_chain_18 : decode cX3_chain 18 = .ok (.iaload, 1) := by decide +kernel
theorem dX3_chain_19 : decode cX3_chain 19 = .ok (.iconst (-1), 1) := by decide +kernel
theorem dX3_chain_20 : decode cX3_chain 20 = .ok (.if_icmp .eq 5, 3) := by decide +kernel
theorem dX3_chain_23 : decode cX3_chain 23 = .ok (.iconst (-1), 1) := by decide +kernel
theorem dX3_chain_24 : decode cX3_chain 24 = .ok (.ireturn, 1) := by decide +kernel
theorem dX3_chain_25 : decode cX3_chain 25 = .ok (.aload_n 0, 1) := by decide +kernel
theorem dX3_chain_26 : decode cX3_chain 26 = .ok (.getfield 38, 3) := by decide +kernel
theorem dX3_chain_29 : decode cX3_chain 29 = .ok (.aload_n 0, 1) := by decide +kernel
theorem dX3_chain_30 : decode cX3_chain 30 = .ok (.getfield 42, 3) := by decide +kernel
theorem dX3_chain_33 : decode cX3_chain 33 = .ok (.invokevirtual 185, 3) := by decide +kernel
theorem dX3_chain_36 : decode cX3_chain 36 = .ok (.iconst 0, 1) := by decide +kernel
theorem dX3_chain_37 : decode cX3_chain 37 = .ok (.istore_n 2, 1) := by decide +kernel
theorem dX3_chain_38 : decode cX3_chain 38 = .ok (.iload_n 2, 1) := by decide +kernel
theorem dX3_chain_39 : decode cX3_chain 39 = .ok (.aload_n 0, 1) := by decide +kernel
theorem dX3_chain_40 : decode cX3_chain 40 = .ok (.getfield 42, 3) := by decide +kernel
theorem dX3_chain_43 : decode cX3_chain 43 = .ok (.if_icmp .ge 39, 3) := by decide +kernel
theorem dX3_chain_46 : decode cX3_chain 46 = .ok (.iload_n 2, 1) := by decide +kernel
theorem dX3_chain_47 : decode cX3_chain 47 = .ok (.iload_n 1, 1) := by decide +kernel
theorem dX3_chain_48 : decode cX3_chain 48 = .ok (.if_icmp .eq 28, 3) := by decide +kernel
theorem dX3_chain_51 : decode cX3_chain 51 = .ok (.aload_n 0, 1) := by decide +kernel
theorem dX3_chain_52 : decode cX3_chain 52 = .ok (.getfield 15, 3) := by decide +kernel
theorem dX3_chain_55 : decode cX3_chain 55 = .ok (.iload_n 2, 1) := by decide +kernel
theorem dX3_chain_56 : decode cX3_chain 56 = .ok (.iaload, 1) := by decide +kernel
theorem dX3_chain_57 : decode cX3_chain 57 = .ok (.iconst (-1), 1) := by decide +kernel
theorem dX3_chain_58 : decode cX3_chain 58 = .ok (.if_icmp .ne 18, 3) := by decide +kernel
theorem dX3_chain_61 : decode cX3_chain 61 = .ok (.aload_n 0, 1) := by decide +kernel
theorem dX3_chain_62 : decode cX3_chain 62 = .ok (.iload_n 2, 1) := by decide +kernel
theorem dX3_chain_63 : decode cX3_chain 63 = .ok (.invokevirtual 146, 3) := by decide +kernel
theorem dX3_chain_66 : decode cX3_chain 66 = .ok (.iconst (-1), 1) := by decide +kernel
theorem dX3_chain_67 : decode cX3_chain 67 = .ok (.if_icmp .ne 9, 3) := by decide +kernel
theorem dX3_chain_70 : decode cX3_chain 70 = .ok (.aload_n 0, 1) := by decide +kernel
theorem dX3_chain_71 : decode cX3_chain 71 = .ok (.iload_n 2, 1) := by decide +kernel
theorem dX3_chain_72 : decode cX3_chain 72 = .ok (.iload_n 1, 1) := by decide +kernel
theorem dX3_chain_73 : decode cX3_chain 73 = .ok (.invokevirtual 208, 3) := by decide +kernel
theorem dX3_chain_76 : decode cX3_chain 76 = .ok (.iinc 2 1, 3) := by decide +kernel
theorem dX3_chain_79 : decode cX3_chain 79 = .ok (.goto (-41), 3) := by decide +kernel
theorem dX3_chain_82 : decode cX3_chain 82 = .ok (.aload_n 0, 1) := by decide +kernel
theorem dX3_chain_83 : decode cX3_chain 83 = .ok (.getfield 38, 3) := by decide +kernel
theorem dX3_chain_86 : decode cX3_chain 86 = .ok (.iload_n 1, 1) := by decide +kernel
theorem dX3_chain_87 : decode cX3_chain 87 = .ok (.aload_n 0, 1) := by decide +kernel
theorem dX3_chain_88 : decode cX3_chain 88 = .ok (.getfield 22, 3) := by decide +kernel
theorem dX3_chain_91 : decode cX3_chain 91 = .ok (.invokevirtual 211, 3) := by decide +kernel
theorem dX3_chain_94 : decode cX3_chain 94 = .ok (.istore_n 2, 1) := by decide +kernel
theorem dX3_chain_95 : decode cX3_chain 95 = .ok (.aload_n 0, 1) := by decide +kernel
theorem dX3_chain_96 : decode cX3_chain 96 = .ok (.iload_n 2, 1) := by decide +kernel
theorem dX3_chain_97 : decode cX3_chain 97 = .ok (.invokevirtual 202, 3) := by decide +kernel
theorem dX3_chain_100 : decode cX3_chain 100 = .ok (.aload_n 0, 1) := by decide +kernel
theorem dX3_chain_101 : decode cX3_chain 101 = .ok (.iload_n 2, 1) := by decide +kernel
theorem dX3_chain_102 : decode cX3_chain 102 = .ok (.ifCond .le 7, 3) := by decide +kernel
theorem dX3_chain_105 : decode cX3_chain 105 = .ok (.iconst 1, 1) := by decide +kernel
theorem dX3_chain_106 : decode cX3_chain 106 = .ok (.goto 4, 3) := by decide +kernel
theorem dX3_chain_109 : decode cX3_chain 109 = .ok (.iconst 0, 1) := by decide +kernel
theorem dX3_chain_110 : decode cX3_chain 110 = .ok (.putfield 61, 3) := by decide +kernel
theorem dX3_chain_113 : decode cX3_chain 113 = .ok (.aload_n 0, 1) := by decide +kernel
theorem dX3_chain_114 : decode cX3_chain 114 = .ok (.getfield 61, 3) := by decide +kernel
theorem dX3_chain_117 : decode cX3_chain 117 = .ok (.ifCond .eq 9, 3) := by decide +kernel
theorem dX3_chain_120 : decode cX3_chain 120 = .ok (.iload_n 2, 1) := by decide +kernel
theorem dX3_chain_121 : decode cX3_chain 121 = .ok (.iconst 1, 1) := by decide +kernel
theorem dX3_chain_122 : decode cX3_chain 122 = .ok (.isub, 1) := by decide +kernel
theorem dX3_chain_123 : decode cX3_chain 123 = .ok (.goto 4, 3) := by decide +kernel
theorem dX3_chain_126 : decode cX3_chain 126 = .ok (.iconst 0, 1) := by decide +kernel
theorem dX3_chain_127 : decode cX3_chain 127 = .ok (.ireturn, 1) := by decide +kernel
theorem dX3_travel_0 : decode cX3_travel 0 = .ok (.aload_n 0, 1) := by decide +kernel
theorem dX3_travel_1 : decode cX3_travel 1 = .ok (.getfield 61, 3) := by decide +kernel
theorem dX3_travel_4 : decode cX3_travel 4 = .ok (.ifCond .ne 5, 3) := by decide +kernel
theorem dX3_travel_7 : decode cX3_travel 7 = .ok (.iconst (-1), 1) := by decide +kernel
theorem dX3_travel_8 : decode cX3_travel 8 = .ok (.ireturn, 1) := by decide +kernel
theorem dX3_travel_9 : decode cX3_travel 9 = .ok (.aload_n 0, 1) := by decide +kernel
theorem dX3_travel_10 : decode cX3_travel 10 = .ok (.iconst 0, 1) := by decide +kernel
theorem dX3_travel_11 : decode cX3_travel 11 = .ok (.putfield 61, 3) := by decide +kernel
theorem dX3_travel_14 : decode cX3_travel 14 = .ok (.iconst 1, 1) := by decide +kernel
theorem dX3_travel_15 : decode cX3_travel 15 = .ok (.istore_n 1, 1) := by decide +kernel
theorem dX3_travel_16 : decode cX3_travel 16 = .ok (.iload_n 1, 1) := by decide +kernel
theorem dX3_travel_17 : decode cX3_travel 17 = .ok (.aload_n 0, 1) := by decide +kernel
theorem dX3_travel_18 : decode cX3_travel 18 = .ok (.getfield 49, 3) := by decide +kernel
theorem dX3_travel_21 : decode cX3_travel 21 = .ok (.if_icmp .ge 28, 3) := by decide +kernel
theorem dX3_travel_24 : decode cX3_travel 24 = .ok (.aload_n 0, 1) := by decide +kernel
theorem dX3_travel_25 : decode cX3_travel 25 = .ok (.aload_n 0, 1) := by decide +kernel
theorem dX3_travel_26 : decode cX3_travel 26 = .ok (.getfield 22, 3) := by decide +kernel
theorem dX3_travel_29 : decode cX3_travel 29 = .ok (.iload_n 1, 1) := by decide +kernel
theorem dX3_travel_30 : decode cX3_travel 30 = .ok (.iconst 1, 1) := by decide +kernel
theorem dX3_travel_31 : decode cX3_travel 31 = .ok (.isub, 1) := by decide +kernel
theorem dX3_travel_32 : decode cX3_travel 32 = .ok (.iaload, 1) := by decide +kernel
theorem dX3_travel_33 : decode cX3_travel 33 = .ok (.aload_n 0, 1) := by decide +kernel
theorem dX3_travel_34 : decode cX3_travel 34 = .ok (.getfield 22, 3) := by decide +kernel
theorem dX3_travel_37 : decode cX3_travel 37 = .ok (.iload_n 1, 1) := by decide +kernel
theorem dX3_travel_38 : decode cX3_travel 38 = .ok (.iaload, 1) := by decide +kernel
theorem dX3_travel_39 : decode cX3_travel 39 = .ok (.iconst 1, 1) := by decide +kernel
theorem dX3_travel_40 : decode cX3_travel 40 = .ok (.invokevirtual 215, 3) := by decide +kernel
theorem dX3_travel_43 : decode cX3_travel 43 = .ok (.iinc 1 1, 3) := by decide +kernel
theorem dX3_travel_46 : decode cX3_travel 46 = .ok (.goto (-30), 3) := by decide +kernel
theorem dX3_travel_49 : decode cX3_travel 49 = .ok (.aload_n 0, 1) := by decide +kernel
theorem dX3_travel_50 : decode cX3_travel 50 = .ok (.getfield 49, 3) := by decide +kernel
theorem dX3_travel_53 : decode cX3_travel 53 = .ok (.iconst 1, 1) := by decide +kernel
theorem dX3_travel_54 : decode cX3_travel 54 = .ok (.isub, 1) := by decide +kernel
theorem dX3_travel_55 : decode cX3_travel 55 = .ok (.ireturn, 1) := by decide +kernel
theorem dX3_book_0 : decode cX3_book 0 = .ok (.aload_n 0, 1) := by decide +kernel
theorem dX3_book_1 : decode cX3_book 1 = .ok (.iconst 0, 1) := by decide +kernel
theorem dX3_book_2 : decode cX3_book 2 = .ok (.putfield 61, 3) := by decide +kernel
theorem dX3_book_5 : decode cX3_book 5 = .ok (.aload_n 0, 1) := by decide +kernel
theorem dX3_book_6 : decode cX3_book 6 = .ok (.getfield 46, 3) := by decide +kernel
theorem dX3_book_9 : decode cX3_book 9 = .ok (.bipush 60, 2) := by decide +kernel
theorem dX3_book_11 : decode cX3_book 11 = .ok (.if_icmp .ge 10, 3) := by decide +kernel
theorem dX3_book_14 : decode cX3_book 14 = .ok (.aload_n 0, 1) := by decide +kernel
theorem dX3_book_15 : decode cX3_book 15 = .ok (.invokevirtual 167, 3) := by decide +kernel
theorem dX3_book_18 : decode cX3_book 18 = .ok (.ifCond .eq 5, 3) := by decide +kernel
theorem dX3_book_21 : decode cX3_book 21 = .ok (.iconst (-1), 1) := by decide +kernel
theorem dX3_book_22 : decode cX3_book 22 = .ok (.ireturn, 1) := by decide +kernel
theorem dX3_book_23 : decode cX3_book 23 = .ok (.aload_n 0, 1) := by decide +kernel
theorem dX3_book_24 : decode cX3_book 24 = .ok (.invokevirtual 121, 3) := by decide +kernel
theorem dX3_book_27 : decode cX3_book 27 = .ok (.istore_n 1, 1) := by decide +kernel
theorem dX3_book_28 : decode cX3_book 28 = .ok (.aload_n 0, 1) := by decide +kernel
theorem dX3_book_29 : decode cX3_book 29 = .ok (.iconst 1, 1) := by decide +kernel
theorem dX3_book_30 : decode cX3_book 30 = .ok (.invokevirtual 219, 3) := by decide +kernel
theorem dX3_book_33 : decode cX3_book 33 = .ok (.iconst 0, 1) := by decide +kernel
theorem dX3_book_34 : decode cX3_book 34 = .ok (.istore_n 2, 1) := by decide +kernel
theorem dX3_book_35 : decode cX3_book 35 = .ok (.iload_n 2, 1) := by decide +kernel
theorem dX3_book_36 : decode cX3_book 36 = .ok (.bipush 10, 2) := by decide +kernel
theorem dX3_book_38 : decode cX3_book 38 = .ok (.if_icmp .ge 29, 3) := by decide +kernel
theorem dX3_book_41 : decode cX3_book 41 = .ok (.aload_n 0, 1) := by decide +kernel
theorem dX3_book_42 : decode cX3_book 42 = .ok (.getfield 19, 3) := by decide +kernel
theorem dX3_book_45 : decode cX3_book 45 = .ok (.aload_n 0, 1) := by decide +kernel
theorem dX3_book_46 : decode cX3_book 46 = .ok (.getfield 46, 3) := by decide +kernel
theorem dX3_book_49 : decode cX3_book 49 = .ok (.bipush 10, 2) := by decide +kernel
theorem dX3_book_51 : decode cX3_book 51 = .ok (.imul, 1) := by decide +kernel
theorem dX3_book_52 : decode cX3_book 52 = .ok (.iload_n 2, 1) := by decide +kernel
theorem dX3_book_53 : decode cX3_book 53 = .ok (.iadd, 1) := by decide +kernel
theorem dX3_book_54 : decode cX3_book 54 = .ok (.aload_n 0, 1) := by decide +kernel
theorem dX3_book_55 : decode cX3_book 55 = .ok (.getfield 15, 3) := by decide +kernel
theorem dX3_book_58 : decode cX3_book 58 = .ok (.iload_n 2, 1) := by decide +kernel
theorem dX3_book_59 : decode cX3_book 59 = .ok (.iaload, 1) := by decide +kernel
theorem dX3_book_60 : decode cX3_book 60 = .ok (.iastore, 1) := by decide +kernel
theorem dX3_book_61 : decode cX3_book 61 = .ok (.iinc 2 1, 3) := by decide +kernel
theorem dX3_book_64 : decode cX3_book 64 = .ok (.goto (-29), 3) := by decide +kernel
theorem dX3_book_67 : decode cX3_book 67 = .ok (.aload_n 0, 1) := by decide +kernel
theorem dX3_book_68 : decode cX3_book 68 = .ok (.invokevirtual 176, 3) := by decide +kernel
theorem dX3_book_71 : decode cX3_book 71 = .ok (.aload_n 0, 1) := by decide +kernel
theorem dX3_book_72 : decode cX3_book 72 = .ok (.dup, 1) := by decide +kernel
theorem dX3_book_73 : decode cX3_book 73 = .ok (.getfield 46, 3) := by decide +kernel
theorem dX3_book_76 : decode cX3_book 76 = .ok (.iconst 1, 1) := by decide +kernel
theorem dX3_book_77 : decode cX3_book 77 = .ok (.iadd, 1) := by decide +kernel
theorem dX3_book_78 : decode cX3_book 78 = .ok (.putfield 46, 3) := by decide +kernel
theorem dX3_book_81 : decode cX3_book 81 = .ok (.iload_n 1, 1) := by decide +kernel
theorem dX3_book_82 : decode cX3_book 82 = .ok (.ireturn, 1) := by decide +kernel
theorem dX3_went_0 : decode cX3_went 0 = .ok (.iload_n 1, 1) := by decide +kernel
theorem dX3_went_1 : decode cX3_went 1 = .ok (.ifCond .lt 19, 3) := by decide +kernel
theorem dX3_went_4 : decode cX3_went 4 = .ok (.iload_n 1, 1) := by decide +kernel
theorem dX3_went_5 : decode cX3_went 5 = .ok (.aload_n 0, 1) := by decide +kernel
theorem dX3_went_6 : decode cX3_went 6 = .ok (.getfield 46, 3) := by decide +kernel
theorem dX3_went_9 : decode cX3_went 9 = .ok (.if_icmp .ge 11, 3) := by decide +kernel
theorem dX3_went_12 : decode cX3_went 12 = .ok (.aload_n 0, 1) := by decide +kernel
theorem dX3_went_13 : decode cX3_went 13 = .ok (.iload_n 2, 1) := by decide +kernel
theorem dX3_went_14 : decode cX3_went 14 = .ok (.invokevirtual 74, 3) := by decide +kernel
theorem dX3_went_17 : decode cX3_went 17 = .ok (.ifCond .ne 5, 3) := by decide +kernel
theorem dX3_went_20 : decode cX3_went 20 = .ok (.iconst (-1), 1) := by decide +kernel
theorem dX3_went_21 : decode cX3_went 21 = .ok (.ireturn, 1) := by decide +kernel
theorem dX3_went_22 : decode cX3_went 22 = .ok (.aload_n 0, 1) := by decide +kernel
theorem dX3_went_23 : decode cX3_went 23 = .ok (.getfield 19, 3) := by decide +kernel
theorem dX3_went_26 : decode cX3_went 26 = .ok (.iload_n 1, 1) := by decide +kernel
theorem dX3_went_27 : decode cX3_went 27 = .ok (.bipush 10, 2) := by decide +kernel
theorem dX3_went_29 : decode cX3_went 29 = .ok (.imul, 1) := by decide +kernel
theorem dX3_went_30 : decode cX3_went 30 = .ok (.iload_n 2, 1) := by decide +kernel
theorem dX3_went_31 : decode cX3_went 31 = .ok (.iadd, 1) := by decide +kernel
theorem dX3_went_32 : decode cX3_went 32 = .ok (.iaload, 1) := by decide +kernel
theorem dX3_went_33 : decode cX3_went 33 = .ok (.ireturn, 1) := by decide +kernel
theorem dX3_undo_0 : decode cX3_undo 0 = .ok (.aload_n 0, 1) := by decide +kernel
theorem dX3_undo_1 : decode cX3_undo 1 = .ok (.iconst 0, 1) := by decide +kernel
theorem dX3_undo_2 : decode cX3_undo 2 = .ok (.putfield 61, 3) := by decide +kernel
theorem dX3_undo_5 : decode cX3_undo 5 = .ok (.aload_n 0, 1) := by decide +kernel
theorem dX3_undo_6 : decode cX3_undo 6 = .ok (.getfield 46, 3) := by decide +kernel
theorem dX3_undo_9 : decode cX3_undo 9 = .ok (.ifCond .ne 5, 3) := by decide +kernel
theorem dX3_undo_12 : decode cX3_undo 12 = .ok (.iconst (-1), 1) := by decide +kernel
theorem dX3_undo_13 : decode cX3_undo 13 = .ok (.ireturn, 1) := by decide +kernel
theorem dX3_undo_14 : decode cX3_undo 14 = .ok (.aload_n 0, 1) := by decide +kernel
theorem dX3_undo_15 : decode cX3_undo 15 = .ok (.dup, 1) := by decide +kernel
theorem dX3_undo_16 : decode cX3_undo 16 = .ok (.getfield 46, 3) := by decide +kernel
theorem dX3_undo_19 : decode cX3_undo 19 = .ok (.iconst 1, 1) := by decide +kernel
theorem dX3_undo_20 : decode cX3_undo 20 = .ok (.isub, 1) := by decide +kernel
theorem dX3_undo_21 : decode cX3_undo 21 = .ok (.putfield 46, 3) := by decide +kernel
theorem dX3_undo_24 : decode cX3_undo 24 = .ok (.iconst 0, 1) := by decide +kernel
theorem dX3_undo_25 : decode cX3_undo 25 = .ok (.istore_n 1, 1) := by decide +kernel
theorem dX3_undo_26 : decode cX3_undo 26 = .ok (.iload_n 1, 1) := by decide +kernel
theorem dX3_undo_27 : decode cX3_undo 27 = .ok (.bipush 10, 2) := by decide +kernel
theorem dX3_undo_29 : decode cX3_undo 29 = .ok (.if_icmp .ge 29, 3) := by decide +kernel
theorem dX3_undo_32 : decode cX3_undo 32 = .ok (.aload_n 0, 1) := by decide +kernel
theorem dX3_undo_33 : decode cX3_undo 33 = .ok (.getfield 15, 3) := by decide +kernel
theorem dX3_undo_36 : decode cX3_undo 36 = .ok (.iload_n 1, 1) := by decide +kernel
theorem dX3_undo_37 : decode cX3_undo 37 = .ok (.aload_n 0, 1) := by decide +kernel
theorem dX3_undo_38 : decode cX3_undo 38 = .ok (.getfield 19, 3) := by decide +kernel
theorem dX3_undo_41 : decode cX3_undo 41 = .ok (.aload_n 0, 1) := by decide +kernel
theorem dX3_undo_42 : decode cX3_undo 42 = .ok (.getfield 46, 3) := by decide +kernel
theorem dX3_undo_45 : decode cX3_undo 45 = .ok (.bipush 10, 2) := by decide +kernel
theorem dX3_undo_47 : decode cX3_undo 47 = .ok (.imul, 1) := by decide +kernel
theorem dX3_undo_48 : decode cX3_undo 48 = .ok (.iload_n 1, 1) := by decide +kernel
theorem dX3_undo_49 : decode cX3_undo 49 = .ok (.iadd, 1) := by decide +kernel
theorem dX3_undo_50 : decode cX3_undo 50 = .ok (.iaload, 1) := by decide +kernel
theorem dX3_undo_51 : decode cX3_undo 51 = .ok (.iastore, 1) := by decide +kernel
theorem dX3_undo_52 : decode cX3_undo 52 = .ok (.iinc 1 1, 3) := by decide +kernel
theorem dX3_undo_55 : decode cX3_undo 55 = .ok (.goto (-29), 3) := by decide +kernel
theorem dX3_undo_58 : decode cX3_undo 58 = .ok (.aload_n 0, 1) := by decide +kernel
theorem dX3_undo_59 : decode cX3_undo 59 = .ok (.iconst (-1), 1) := by decide +kernel
theorem dX3_undo_60 : decode cX3_undo 60 = .ok (.invokevirtual 219, 3) := by decide +kernel
theorem dX3_undo_63 : decode cX3_undo 63 = .ok (.aload_n 0, 1) := by decide +kernel
theorem dX3_undo_64 : decode cX3_undo 64 = .ok (.getfield 46, 3) := by decide +kernel
theorem dX3_undo_67 : decode cX3_undo 67 = .ok (.ireturn, 1) := by decide +kernel
theorem dX3_row_0 : decode cX3_row 0 = .ok (.iload_n 1, 1) := by decide +kernel
theorem dX3_row_1 : decode cX3_row 1 = .ok (.ifCond .lt 11, 3) := by decide +kernel
theorem dX3_row_4 : decode cX3_row 4 = .ok (.iload_n 1, 1) := by decide +kernel
theorem dX3_row_5 : decode cX3_row 5 = .ok (.aload_n 0, 1) := by decide +kernel
theorem dX3_row_6 : decode cX3_row 6 = .ok (.getfield 49, 3) := by decide +kernel
theorem dX3_row_9 : decode cX3_row 9 = .ok (.if_icmp .lt 13, 3) := by decide +kernel
theorem dX3_row_12 : decode cX3_row 12 = .ok (.new 130, 3) := by decide +kernel
theorem dX3_row_15 : decode cX3_row 15 = .ok (.dup, 1) := by decide +kernel
theorem dX3_row_16 : decode cX3_row 16 = .ok (.ldc 222, 2) := by decide +kernel
theorem dX3_row_18 : decode cX3_row 18 = .ok (.invokespecial 134, 3) := by decide +kernel
theorem dX3_row_21 : decode cX3_row 21 = .ok (.athrow, 1) := by decide +kernel
theorem dX3_row_22 : decode cX3_row 22 = .ok (.aload_n 0, 1) := by decide +kernel
theorem dX3_row_23 : decode cX3_row 23 = .ok (.getfield 22, 3) := by decide +kernel
theorem dX3_row_26 : decode cX3_row 26 = .ok (.iload_n 1, 1) := by decide +kernel
theorem dX3_row_27 : decode cX3_row 27 = .ok (.iaload, 1) := by decide +kernel
theorem dX3_row_28 : decode cX3_row 28 = .ok (.ireturn, 1) := by decide +kernel
theorem dX3_keepRow_0 : decode cX3_keepRow 0 = .ok (.iload_n 1, 1) := by decide +kernel
theorem dX3_keepRow_1 : decode cX3_keepRow 1 = .ok (.ifCond .le 8, 3) := by decide +kernel
theorem dX3_keepRow_4 : decode cX3_keepRow 4 = .ok (.aload_n 0, 1) := by decide +kernel
theorem dX3_keepRow_5 : decode cX3_keepRow 5 = .ok (.iload_n 1, 1) := by decide +kernel
theorem dX3_keepRow_6 : decode cX3_keepRow 6 = .ok (.putfield 49, 3) := by decide +kernel
theorem dX3_keepRow_9 : decode cX3_keepRow 9 = .ok (.return_, 1) := by decide +kernel
theorem dX3_isOneToNine_0 : decode cX3_isOneToNine 0 = .ok (.iload_n 0, 1) := by decide +kernel
theorem dX3_isOneToNine_1 : decode cX3_isOneToNine 1 = .ok (.iconst 1, 1) := by decide +kernel
theorem dX3_isOneToNine_2 : decode cX3_isOneToNine 2 = .ok (.if_icmp .lt 13, 3) := by decide +kernel
theorem dX3_isOneToNine_5 : decode cX3_isOneToNine 5 = .ok (.iload_n 0, 1) := by decide +kernel
theorem dX3_isOneToNine_6 : decode cX3_isOneToNine 6 = .ok (.bipush 9, 2) := by decide +kernel
theorem dX3_isOneToNine_8 : decode cX3_isOneToNine 8 = .ok (.if_icmp .gt 7, 3) := by decide +kernel
theorem dX3_isOneToNine_11 : decode cX3_isOneToNine 11 = .ok (.iconst 1, 1) := by decide +kernel
theorem dX3_isOneToNine_12 : decode cX3_isOneToNine 12 = .ok (.goto 4, 3) := by decide +kernel
theorem dX3_isOneToNine_15 : decode cX3_isOneToNine 15 = .ok (.iconst 0, 1) := by decide +kernel
theorem dX3_isOneToNine_16 : decode cX3_isOneToNine 16 = .ok (.ireturn, 1) := by decide +kernel
theorem dX3_isFamily_0 : decode cX3_isFamily 0 = .ok (.iload_n 1, 1) := by decide +kernel
theorem dX3_isFamily_1 : decode cX3_isFamily 1 = .ok (.ifCond .lt 15, 3) := by decide +kernel
theorem dX3_isFamily_4 : decode cX3_isFamily 4 = .ok (.iload_n 1, 1) := by decide +kernel
theorem dX3_isFamily_5 : decode cX3_isFamily 5 = .ok (.aload_n 0, 1) := by decide +kernel
theorem dX3_isFamily_6 : decode cX3_isFamily 6 = .ok (.getfield 42, 3) := by decide +kernel
theorem dX3_isFamily_9 : decode cX3_isFamily 9 = .ok (.if_icmp .ge 7, 3) := by decide +kernel
theorem dX3_isFamily_12 : decode cX3_isFamily 12 = .ok (.iconst 1, 1) := by decide +kernel
theorem dX3_isFamily_13 : decode cX3_isFamily 13 = .ok (.goto 4, 3) := by decide +kernel
theorem dX3_isFamily_16 : decode cX3_isFamily 16 = .ok (.iconst 0, 1) := by decide +kernel
theorem dX3_isFamily_17 : decode cX3_isFamily 17 = .ok (.ireturn, 1) := by decide +kernel
theorem dX3_areTwo_0 : decode cX3_areTwo 0 = .ok (.aload_n 0, 1) := by decide +kernel
theorem dX3_areTwo_1 : decode cX3_areTwo 1 = .ok (.iload_n 1, 1) := by decide +kernel
theorem dX3_areTwo_2 : decode cX3_areTwo 2 = .ok (.invokevirtual 74, 3) := by decide +kernel
theorem dX3_areTwo_5 : decode cX3_areTwo 5 = .ok (.ifCond .eq 20, 3) := by decide +kernel
theorem dX3_areTwo_8 : decode cX3_areTwo 8 = .ok (.aload_n 0, 1) := by decide +kernel
theorem dX3_areTwo_9 : decode cX3_areTwo 9 = .ok (.iload_n 2, 1) := by decide +kernel
theorem dX3_areTwo_10 : decode cX3_areTwo 10 = .ok (.invokevirtual 74, 3) := by decide +kernel
theorem dX3_areTwo_13 : decode cX3_areTwo 13 = .ok (.ifCond .eq 12, 3) := by decide +kernel
theorem dX3_areTwo_16 : decode cX3_areTwo 16 = .ok (.iload_n 1, 1) := by decide +kernel
theorem dX3_areTwo_17 : decode cX3_areTwo 17 = .ok (.iload_n 2, 1) := by decide +kernel
theorem dX3_areTwo_18 : decode cX3_areTwo 18 = .ok (.if_icmp .eq 7, 3) := by decide +kernel
theorem dX3_areTwo_21 : decode cX3_areTwo 21 = .ok (.iconst 1, 1) := by decide +kernel
theorem dX3_areTwo_22 : decode cX3_areTwo 22 = .ok (.goto 4, 3) := by decide +kernel
theorem dX3_areTwo_25 : decode cX3_areTwo 25 = .ok (.iconst 0, 1) := by decide +kernel
theorem dX3_areTwo_26 : decode cX3_areTwo 26 = .ok (.ireturn, 1) := by decide +kernel
theorem dX3_canBecomeWish_0 : decode cX3_canBecomeWish 0 = .ok (.aload_n 0, 1) := by decide +kernel
theorem dX3_canBecomeWish_1 : decode cX3_canBecomeWish 1 = .ok (.iload_n 1, 1) := by decide +kernel
theorem dX3_canBecomeWish_2 : decode cX3_canBecomeWish 2 = .ok (.iload_n 2, 1) := by decide +kernel
theorem dX3_canBecomeWish_3 : decode cX3_canBecomeWish 3 = .ok (.invokevirtual 107, 3) := by decide +kernel
theorem dX3_canBecomeWish_6 : decode cX3_canBecomeWish 6 = .ok (.ifCond .eq 21, 3) := by decide +kernel
theorem dX3_canBecomeWish_9 : decode cX3_canBecomeWish 9 = .ok (.aload_n 0, 1) := by decide +kernel
theorem dX3_canBecomeWish_10 : decode cX3_canBecomeWish 10 = .ok (.getfield 11, 3) := by decide +kernel
theorem dX3_canBecomeWish_13 : decode cX3_canBecomeWish 13 = .ok (.iload_n 1, 1) := by decide +kernel
theorem dX3_canBecomeWish_14 : decode cX3_canBecomeWish 14 = .ok (.aaload, 1) := by decide +kernel
theorem dX3_canBecomeWish_15 : decode cX3_canBecomeWish 15 = .ok (.getfield 155, 3) := by decide +kernel
theorem dX3_canBecomeWish_18 : decode cX3_canBecomeWish 18 = .ok (.iload_n 2, 1) := by decide +kernel
theorem dX3_canBecomeWish_19 : decode cX3_canBecomeWish 19 = .ok (.iaload, 1) := by decide +kernel
theorem dX3_canBecomeWish_20 : decode cX3_canBecomeWish 20 = .ok (.ifCond .ne 7, 3) := by decide +kernel
theorem dX3_canBecomeWish_23 : decode cX3_canBecomeWish 23 = .ok (.iconst 1, 1) := by decide +kernel
theorem dX3_canBecomeWish_24 : decode cX3_canBecomeWish 24 = .ok (.goto 4, 3) := by decide +kernel
theorem dX3_canBecomeWish_27 : decode cX3_canBecomeWish 27 = .ok (.iconst 0, 1) := by decide +kernel
theorem dX3_canBecomeWish_28 : decode cX3_canBecomeWish 28 = .ok (.ireturn, 1) := by decide +kernel
theorem dX3_copySheet_0 : decode cX3_copySheet 0 = .ok (.iconst 0, 1) := by decide +kernel
theorem dX3_copySheet_1 : decode cX3_copySheet 1 = .ok (.istore 6, 2) := by decide +kernel
theorem dX3_copySheet_3 : decode cX3_copySheet 3 = .ok (.iload 6, 2) := by decide +kernel
theorem dX3_copySheet_5 : decode cX3_copySheet 5 = .ok (.iload_n 3, 1) := by decide +kernel
theorem dX3_copySheet_6 : decode cX3_copySheet 6 = .ok (.if_icmp .ge 55, 3) := by decide +kernel
theorem dX3_copySheet_9 : decode cX3_copySheet 9 = .ok (.iload 4, 2) := by decide +kernel
theorem dX3_copySheet_11 : decode cX3_copySheet 11 = .ok (.iload 6, 2) := by decide +kernel
theorem dX3_copySheet_13 : decode cX3_copySheet 13 = .ok (.iload 5, 2) := by decide +kernel
theorem dX3_copySheet_15 : decode cX3_copySheet 15 = .ok (.imul, 1) := by decide +kernel
theorem dX3_copySheet_16 : decode cX3_copySheet 16 = .ok (.iadd, 1) := by decide +kernel
theorem dX3_copySheet_17 : decode cX3_copySheet 17 = .ok (.istore 7, 2) := by decide +kernel
theorem dX3_copySheet_19 : decode cX3_copySheet 19 = .ok (.iload_n 2, 1) := by decide +kernel
theorem dX3_copySheet_20 : decode cX3_copySheet 20 = .ok (.ifCond .eq 9, 3) := by decide +kernel
theorem dX3_copySheet_23 : decode cX3_copySheet 23 = .ok (.iload 7, 2) := by decide +kernel
theorem dX3_copySheet_25 : decode cX3_copySheet 25 = .ok (.i2b, 1) := by decide +kernel
theorem dX3_copySheet_26 : decode cX3_copySheet 26 = .ok (.goto 5, 3) := by decide +kernel
theorem dX3_copySheet_29 : decode cX3_copySheet 29 = .ok (.iload 7, 2) := by decide +kernel
theorem dX3_copySheet_31 : decode cX3_copySheet 31 = .ok (.istore 8, 2) := by decide +kernel
theorem dX3_copySheet_33 : decode cX3_copySheet 33 = .ok (.aload_n 0, 1) := by decide +kernel
theorem dX3_copySheet_34 : decode cX3_copySheet 34 = .ok (.iload_n 1, 1) := by decide +kernel
theorem dX3_copySheet_35 : decode cX3_copySheet 35 = .ok (.iload 8, 2) := by decide +kernel
theorem dX3_copySheet_37 : decode cX3_copySheet 37 = .ok (.invokevirtual 89, 3) := by decide +kernel
theorem dX3_copySheet_40 : decode cX3_copySheet 40 = .ok (.ifCond .ne 4, 3) := by decide +kernel
theorem dX3_copySheet_43 : decode cX3_copySheet 43 = .ok (.return_, 1) := by decide +kernel
theorem dX3_copySheet_44 : decode cX3_copySheet 44 = .ok (.aload_n 0, 1) := by decide +kernel
theorem dX3_copySheet_45 : decode cX3_copySheet 45 = .ok (.getfield 11, 3) := by decide +kernel
theorem dX3_copySheet_48 : decode cX3_copySheet 48 = .ok (.iload_n 1, 1) := by decide +kernel
theorem dX3_copySheet_49 : decode cX3_copySheet 49 = .ok (.aaload, 1) := by decide +kernel
theorem dX3_copySheet_50 : decode cX3_copySheet 50 = .ok (.iload 8, 2) := by decide +kernel
theorem dX3_copySheet_52 : decode cX3_copySheet 52 = .ok (.invokevirtual 93, 3) := by decide +kernel
theorem dX3_copySheet_55 : decode cX3_copySheet 55 = .ok (.iinc 6 1, 3) := by decide +kernel
theorem dX3_copySheet_58 : decode cX3_copySheet 58 = .ok (.goto (-55), 3) := by decide +kernel
theorem dX3_copySheet_61 : decode cX3_copySheet 61 = .ok (.return_, 1) := by decide +kernel
theorem dX3_hindrance_0 : decode cX3_hindrance 0 = .ok (.aload_n 0, 1) := by decide +kernel
theorem dX3_hindrance_1 : decode cX3_hindrance 1 = .ok (.getfield 11, 3) := by decide +kernel
theorem dX3_hindrance_4 : decode cX3_hindrance 4 = .ok (.iload_n 1, 1) := by decide +kernel
theorem dX3_hindrance_5 : decode cX3_hindrance 5 = .ok (.aaload, 1) := by decide +kernel
theorem dX3_hindrance_6 : decode cX3_hindrance 6 = .ok (.astore_n 3, 1) := by decide +kernel
theorem dX3_hindrance_7 : decode cX3_hindrance 7 = .ok (.aload_n 0, 1) := by decide +kernel
theorem dX3_hindrance_8 : decode cX3_hindrance 8 = .ok (.getfield 11, 3) := by decide +kernel
theorem dX3_hindrance_11 : decode cX3_hindrance 11 = .ok (.iload_n 2, 1) := by decide +kernel
theorem dX3_hindrance_12 : decode cX3_hindrance 12 = .ok (.aaload, 1) := by decide +kernel
theorem dX3_hindrance_13 : decode cX3_hindrance 13 = .ok (.astore 4, 2) := by decide +kernel
theorem dX3_hindrance_15 : decode cX3_hindrance 15 = .ok (.aload_n 3, 1) := by decide +kernel
theorem dX3_hindrance_16 : decode cX3_hindrance 16 = .ok (.getfield 114, 3) := by decide +kernel
theorem dX3_hindrance_19 : decode cX3_hindrance 19 = .ok (.ifCond .eq 11, 3) := by decide +kernel
theorem dX3_hindrance_22 : decode cX3_hindrance 22 = .ok (.aload 4, 2) := by decide +kernel
theorem dX3_hindrance_24 : decode cX3_hindrance 24 = .ok (.getfield 114, 3) := by decide +kernel
theorem dX3_hindrance_27 : decode cX3_hindrance 27 = .ok (.ifCond .ne 5, 3) := by decide +kernel
theorem dX3_hindrance_30 : decode cX3_hindrance 30 = .ok (.iconst 1, 1) := by decide +kernel
theorem dX3_hindrance_31 : decode cX3_hindrance 31 = .ok (.ireturn, 1) := by decide +kernel
theorem dX3_hindrance_32 : decode cX3_hindrance 32 = .ok (.aload_n 3, 1) := by decide +kernel
theorem dX3_hindrance_33 : decode cX3_hindrance 33 = .ok (.iload_n 2, 1) := by decide +kernel
theorem dX3_hindrance_34 : decode cX3_hindrance 34 = .ok (.invokevirtual 224, 3) := by decide +kernel
theorem dX3_hindrance_37 : decode cX3_hindrance 37 = .ok (.ifCond .eq 5, 3) := by decide +kernel
theorem dX3_hindrance_40 : decode cX3_hindrance 40 = .ok (.iconst 2, 1) := by decide +kernel
theorem dX3_hindrance_41 : decode cX3_hindrance 41 = .ok (.ireturn, 1) := by decide +kernel
theorem dX3_hindrance_42 : decode cX3_hindrance 42 = .ok (.aload_n 3, 1) := by decide +kernel
theorem dX3_hindrance_43 : decode cX3_hindrance 43 = .ok (.getfield 227, 3) := by decide +kernel
theorem dX3_hindrance_46 : decode cX3_hindrance 46 = .ok (.aload 4, 2) := by decide +kernel
theorem dX3_hindrance_48 : decode cX3_hindrance 48 = .ok (.invokevirtual 137, 3) := by decide +kernel
theorem dX3_hindrance_51 : decode cX3_hindrance 51 = .ok (.if_icmp .le 5, 3) := by decide +kernel
theorem dX3_hindrance_54 : decode cX3_hindrance 54 = .ok (.iconst 3, 1) := by decide +kernel
theorem dX3_hindrance_55 : decode cX3_hindrance 55 = .ok (.ireturn, 1) := by decide +kernel
theorem dX3_hindrance_56 : decode cX3_hindrance 56 = .ok (.aload_n 3, 1) := by decide +kernel
theorem dX3_hindrance_57 : decode cX3_hindrance 57 = .ok (.getfield 230, 3) := by decide +kernel
theorem dX3_hindrance_60 : decode cX3_hindrance 60 = .ok (.ifCond .eq 13, 3) := by decide +kernel
theorem dX3_hindrance_63 : decode cX3_hindrance 63 = .ok (.aload 4, 2) := by decide +kernel
theorem dX3_hindrance_65 : decode cX3_hindrance 65 = .ok (.invokevirtual 233, 3) := by decide +kernel
theorem dX3_hindrance_68 : decode cX3_hindrance 68 = .ok (.ifCond .ne 5, 3) := by decide +kernel
theorem dX3_hindrance_71 : decode cX3_hindrance 71 = .ok (.iconst 4, 1) := by decide +kernel
theorem dX3_hindrance_72 : decode cX3_hindrance 72 = .ok (.ireturn, 1) := by decide +kernel
theorem dX3_hindrance_73 : decode cX3_hindrance 73 = .ok (.aload_n 3, 1) := by decide +kernel
theorem dX3_hindrance_74 : decode cX3_hindrance 74 = .ok (.aload 4, 2) := by decide +kernel
theorem dX3_hindrance_76 : decode cX3_hindrance 76 = .ok (.invokevirtual 237, 3) := by decide +kernel
theorem dX3_hindrance_79 : decode cX3_hindrance 79 = .ok (.aload_n 0, 1) := by decide +kernel
theorem dX3_hindrance_80 : decode cX3_hindrance 80 = .ok (.getfield 52, 3) := by decide +kernel
theorem dX3_hindrance_83 : decode cX3_hindrance 83 = .ok (.if_icmp .ge 7, 3) := by decide +kernel
theorem dX3_hindrance_86 : decode cX3_hindrance 86 = .ok (.iconst 5, 1) := by decide +kernel
theorem dX3_hindrance_87 : decode cX3_hindrance 87 = .ok (.goto 4, 3) := by decide +kernel
theorem dX3_hindrance_90 : decode cX3_hindrance 90 = .ok (.iconst 0, 1) := by decide +kernel
theorem dX3_hindrance_91 : decode cX3_hindrance 91 = .ok (.ireturn, 1) := by decide +kernel
theorem dX3_takes_0 : decode cX3_takes 0 = .ok (.aload_n 0, 1) := by decide +kernel
theorem dX3_takes_1 : decode cX3_takes 1 = .ok (.getfield 11, 3) := by decide +kernel
theorem dX3_takes_4 : decode cX3_takes 4 = .ok (.iload_n 1, 1) := by decide +kernel
theorem dX3_takes_5 : decode cX3_takes 5 = .ok (.aaload, 1) := by decide +kernel
theorem dX3_takes_6 : decode cX3_takes 6 = .ok (.getfield 155, 3) := by decide +kernel
theorem dX3_takes_9 : decode cX3_takes 9 = .ok (.iload_n 2, 1) := by decide +kernel
theorem dX3_takes_10 : decode cX3_takes 10 = .ok (.iaload, 1) := by decide +kernel
theorem dX3_takes_11 : decode cX3_takes 11 = .ok (.ifCond .le 16, 3) := by decide +kernel
theorem dX3_takes_14 : decode cX3_takes 14 = .ok (.aload_n 0, 1) := by decide +kernel
theorem dX3_takes_15 : decode cX3_takes 15 = .ok (.iload_n 1, 1) := by decide +kernel
theorem dX3_takes_16 : decode cX3_takes 16 = .ok (.iload_n 2, 1) := by decide +kernel
theorem dX3_takes_17 : decode cX3_takes 17 = .ok (.invokevirtual 158, 3) := by decide +kernel
theorem dX3_takes_20 : decode cX3_takes 20 = .ok (.ifCond .ne 7, 3) := by decide +kernel
theorem dX3_takes_23 : decode cX3_takes 23 = .ok (.iconst 1, 1) := by decide +kernel
theorem dX3_takes_24 : decode cX3_takes 24 = .ok (.goto 4, 3) := by decide +kernel
theorem dX3_takes_27 : decode cX3_takes 27 = .ok (.iconst 0, 1) := by decide +kernel
theorem dX3_takes_28 : decode cX3_takes 28 = .ok (.ireturn, 1) := by decide +kernel
theorem dX3_countTaken_0 : decode cX3_countTaken 0 = .ok (.iconst 0, 1) := by decide +kernel
theorem dX3_countTaken_1 : decode cX3_countTaken 1 = .ok (.istore_n 2, 1) := by decide +kernel
theorem dX3_countTaken_2 : decode cX3_countTaken 2 = .ok (.iconst 0, 1) := by decide +kernel
theorem dX3_countTaken_3 : decode cX3_countTaken 3 = .ok (.istore_n 3, 1) := by decide +kernel
theorem dX3_countTaken_4 : decode cX3_countTaken 4 = .ok (.iload_n 3, 1) := by decide +kernel
theorem dX3_countTaken_5 : decode cX3_countTaken 5 = .ok (.aload_n 0, 1) := by decide +kernel
theorem dX3_countTaken_6 : decode cX3_countTaken 6 = .ok (.getfield 42, 3) := by decide +kernel
theorem dX3_countTaken_9 : decode cX3_countTaken 9 = .ok (.if_icmp .ge 21, 3) := by decide +kernel
theorem dX3_countTaken_12 : decode cX3_countTaken 12 = .ok (.aload_n 0, 1) := by decide +kernel
theorem dX3_countTaken_13 : decode cX3_countTaken 13 = .ok (.iload_n 1, 1) := by decide +kernel
theorem dX3_countTaken_14 : decode cX3_countTaken 14 = .ok (.iload_n 3, 1) := by decide +kernel
theorem dX3_countTaken_15 : decode cX3_countTaken 15 = .ok (.invokevirtual 188, 3) := by decide +kernel
theorem dX3_countTaken_18 : decode cX3_countTaken 18 = .ok (.ifCond .eq 6, 3) := by decide +kernel
theorem dX3_countTaken_21 : decode cX3_countTaken 21 = .ok (.iinc 2 1, 3) := by decide +kernel
theorem dX3_countTaken_24 : decode cX3_countTaken 24 = .ok (.iinc 3 1, 3) := by decide +kernel
theorem dX3_countTaken_27 : decode cX3_countTaken 27 = .ok (.goto (-23), 3) := by decide +kernel
theorem dX3_countTaken_30 : decode cX3_countTaken 30 = .ok (.iload_n 2, 1) := by decide +kernel
theorem dX3_countTaken_31 : decode cX3_countTaken 31 = .ok (.ireturn, 1) := by decide +kernel
theorem dX3_countPresent_0 : decode cX3_countPresent 0 = .ok (.iconst 0, 1) := by decide +kernel
theorem dX3_countPresent_1 : decode cX3_countPresent 1 = .ok (.istore_n 1, 1) := by decide +kernel
theorem dX3_countPresent_2 : decode cX3_countPresent 2 = .ok (.iconst 0, 1) := by decide +kernel
theorem dX3_countPresent_3 : decode cX3_countPresent 3 = .ok (.istore_n 2, 1) := by decide +kernel
theorem dX3_countPresent_4 : decode cX3_countPresent 4 = .ok (.iload_n 2, 1) := by decide +kernel
theorem dX3_countPresent_5 : decode cX3_countPresent 5 = .ok (.aload_n 0, 1) := by decide +kernel
theorem dX3_countPresent_6 : decode cX3_countPresent 6 = .ok (.getfield 42, 3) := by decide +kernel
theorem dX3_countPresent_9 : decode cX3_countPresent 9 = .ok (.if_icmp .ge 24, 3) := by decide +kernel
theorem dX3_countPresent_12 : decode cX3_countPresent 12 = .ok (.aload_n 0, 1) := by decide +kernel
theorem dX3_countPresent_13 : decode cX3_countPresent 13 = .ok (.getfield 11, 3) := by decide +kernel
theorem dX3_countPresent_16 : decode cX3_countPresent 16 = .ok (.iload_n 2, 1) := by decide +kernel
theorem dX3_countPresent_17 : decode cX3_countPresent 17 = .ok (.aaload, 1) := by decide +kernel
theorem dX3_countPresent_18 : decode cX3_countPresent 18 = .ok (.getfield 114, 3) := by decide +kernel
theorem dX3_countPresent_21 : decode cX3_countPresent 21 = .ok (.ifCond .eq 6, 3) := by decide +kernel
theorem dX3_countPresent_24 : decode cX3_countPresent 24 = .ok (.iinc 1 1, 3) := by decide +kernel
theorem dX3_countPresent_27 : decode cX3_countPresent 27 = .ok (.iinc 2 1, 3) := by decide +kernel
theorem dX3_countPresent_30 : decode cX3_countPresent 30 = .ok (.goto (-26), 3) := by decide +kernel
theorem dX3_countPresent_33 : decode cX3_countPresent 33 = .ok (.iload_n 1, 1) := by decide +kernel
theorem dX3_countPresent_34 : decode cX3_countPresent 34 = .ok (.ireturn, 1) := by decide +kernel
theorem dX3_countGoing_0 : decode cX3_countGoing 0 = .ok (.iconst 0, 1) := by decide +kernel
theorem dX3_countGoing_1 : decode cX3_countGoing 1 = .ok (.istore_n 1, 1) := by decide +kernel
theorem dX3_countGoing_2 : decode cX3_countGoing 2 = .ok (.iconst 0, 1) := by decide +kernel
theorem dX3_countGoing_3 : decode cX3_countGoing 3 = .ok (.istore_n 2, 1) := by decide +kernel
theorem dX3_countGoing_4 : decode cX3_countGoing 4 = .ok (.iload_n 2, 1) := by decide +kernel
theorem dX3_countGoing_5 : decode cX3_countGoing 5 = .ok (.aload_n 0, 1) := by decide +kernel
theorem dX3_countGoing_6 : decode cX3_countGoing 6 = .ok (.getfield 42, 3) := by decide +kernel
theorem dX3_countGoing_9 : decode cX3_countGoing 9 = .ok (.if_icmp .ge 22, 3) := by decide +kernel
theorem dX3_countGoing_12 : decode cX3_countGoing 12 = .ok (.aload_n 0, 1) := by decide +kernel
theorem dX3_countGoing_13 : decode cX3_countGoing 13 = .ok (.getfield 15, 3) := by decide +kernel
theorem dX3_countGoing_16 : decode cX3_countGoing 16 = .ok (.iload_n 2, 1) := by decide +kernel
theorem dX3_countGoing_17 : decode cX3_countGoing 17 = .ok (.iaload, 1) := by decide +kernel
theorem dX3_countGoing_18 : decode cX3_countGoing 18 = .ok (.iconst (-1), 1) := by decide +kernel
theorem dX3_countGoing_19 : decode cX3_countGoing 19 = .ok (.if_icmp .eq 6, 3) := by decide +kernel
theorem dX3_countGoing_22 : decode cX3_countGoing 22 = .ok (.iinc 1 1, 3) := by decide +kernel
theorem dX3_countGoing_25 : decode cX3_countGoing 25 = .ok (.iinc 2 1, 3) := by decide +kernel
theorem dX3_countGoing_28 : decode cX3_countGoing 28 = .ok (.goto (-24), 3) := by decide +kernel
theorem dX3_countGoing_31 : decode cX3_countGoing 31 = .ok (.iload_n 1, 1) := by decide +kernel
theorem dX3_countGoing_32 : decode cX3_countGoing 32 = .ok (.ireturn, 1) := by decide +kernel
theorem dX3_planRank_0 : decode cX3_planRank 0 = .ok (.aload_n 0, 1) := by decide +kernel
theorem dX3_planRank_1 : decode cX3_planRank 1 = .ok (.getfield 15, 3) := by decide +kernel
theorem dX3_planRank_4 : decode cX3_planRank 4 = .ok (.iload_n 1, 1) := by decide +kernel
theorem dX3_planRank_5 : decode cX3_planRank 5 = .ok (.iaload, 1) := by decide +kernel
theorem dX3_planRank_6 : decode cX3_planRank 6 = .ok (.iconst (-1), 1) := by decide +kernel
theorem dX3_planRank_7 : decode cX3_planRank 7 = .ok (.if_icmp .ne 7, 3) := by decide +kernel
theorem dX3_planRank_10 : decode cX3_planRank 10 = .ok (.iconst 0, 1) := by decide +kernel
theorem dX3_planRank_11 : decode cX3_planRank 11 = .ok (.goto 19, 3) := by decide +kernel
theorem dX3_planRank_14 : decode cX3_planRank 14 = .ok (.aload_n 0, 1) := by decide +kernel
theorem dX3_planRank_15 : decode cX3_planRank 15 = .ok (.getfield 11, 3) := by decide +kernel
theorem dX3_planRank_18 : decode cX3_planRank 18 = .ok (.iload_n 1, 1) := by decide +kernel
theorem dX3_planRank_19 : decode cX3_planRank 19 = .ok (.aaload, 1) := by decide +kernel
theorem dX3_planRank_20 : decode cX3_planRank 20 = .ok (.getfield 155, 3) := by decide +kernel
theorem dX3_planRank_23 : decode cX3_planRank 23 = .ok (.aload_n 0, 1) := by decide +kernel
theorem dX3_planRank_24 : decode cX3_planRank 24 = .ok (.getfield 15, 3) := by decide +kernel
theorem dX3_planRank_27 : decode cX3_planRank 27 = .ok (.iload_n 1, 1) := by decide +kernel
theorem dX3_planRank_28 : decode cX3_planRank 28 = .ok (.iaload, 1) := by decide +kernel
theorem dX3_planRank_29 : decode cX3_planRank 29 = .ok (.iaload, 1) := by decide +kernel
theorem dX3_planRank_30 : decode cX3_planRank 30 = .ok (.ireturn, 1) := by decide +kernel
theorem dX3_sumOfRanks_0 : decode cX3_sumOfRanks 0 = .ok (.iconst 0, 1) := by decide +kernel
theorem dX3_sumOfRanks_1 : decode cX3_sumOfRanks 1 = .ok (.istore_n 1, 1) := by decide +kernel
theorem dX3_sumOfRanks_2 : decode cX3_sumOfRanks 2 = .ok (.iconst 0, 1) := by decide +kernel
theorem dX3_sumOfRanks_3 : decode cX3_sumOfRanks 3 = .ok (.istore_n 2, 1) := by decide +kernel
theorem dX3_sumOfRanks_4 : decode cX3_sumOfRanks 4 = .ok (.iload_n 2, 1) := by decide +kernel
theorem dX3_sumOfRanks_5 : decode cX3_sumOfRanks 5 = .ok (.aload_n 0, 1) := by decide +kernel
theorem dX3_sumOfRanks_6 : decode cX3_sumOfRanks 6 = .ok (.getfield 42, 3) := by decide +kernel
theorem dX3_sumOfRanks_9 : decode cX3_sumOfRanks 9 = .ok (.if_icmp .ge 17, 3) := by decide +kernel
theorem dX3_sumOfRanks_12 : decode cX3_sumOfRanks 12 = .ok (.iload_n 1, 1) := by decide +kernel
theorem dX3_sumOfRanks_13 : decode cX3_sumOfRanks 13 = .ok (.aload_n 0, 1) := by decide +kernel
theorem dX3_sumOfRanks_14 : decode cX3_sumOfRanks 14 = .ok (.iload_n 2, 1) := by decide +kernel
theorem dX3_sumOfRanks_15 : decode cX3_sumOfRanks 15 = .ok (.invokevirtual 241, 3) := by decide +kernel
theorem dX3_sumOfRanks_18 : decode cX3_sumOfRanks 18 = .ok (.iadd, 1) := by decide +kernel
theorem dX3_sumOfRanks_19 : decode cX3_sumOfRanks 19 = .ok (.istore_n 1, 1) := by decide +kernel
theorem dX3_sumOfRanks_20 : decode cX3_sumOfRanks 20 = .ok (.iinc 2 1, 3) := by decide +kernel
theorem dX3_sumOfRanks_23 : decode cX3_sumOfRanks 23 = .ok (.goto (-19), 3) := by decide +kernel
theorem dX3_sumOfRanks_26 : decode cX3_sumOfRanks 26 = .ok (.iload_n 1, 1) := by decide +kernel
theorem dX3_sumOfRanks_27 : decode cX3_sumOfRanks 27 = .ok (.ireturn, 1) := by decide +kernel
theorem dX3_firstGuest_0 : decode cX3_firstGuest 0 = .ok (.iconst 0, 1) := by decide +kernel
theorem dX3_firstGuest_1 : decode cX3_firstGuest 1 = .ok (.istore_n 2, 1) := by decide +kernel
theorem dX3_firstGuest_2 : decode cX3_firstGuest 2 = .ok (.iload_n 2, 1) := by decide +kernel
theorem dX3_firstGuest_3 : decode cX3_firstGuest 3 = .ok (.aload_n 0, 1) := by decide +kernel
theorem dX3_firstGuest_4 : decode cX3_firstGuest 4 = .ok (.getfield 42, 3) := by decide +kernel
theorem dX3_firstGuest_7 : decode cX3_firstGuest 7 = .ok (.if_icmp .ge 21, 3) := by decide +kernel
theorem dX3_firstGuest_10 : decode cX3_firstGuest 10 = .ok (.aload_n 0, 1) := by decide +kernel
theorem dX3_firstGuest_11 : decode cX3_firstGuest 11 = .ok (.getfield 15, 3) := by decide +kernel
theorem dX3_firstGuest_14 : decode cX3_firstGuest 14 = .ok (.iload_n 2, 1) := by decide +kernel
theorem dX3_firstGuest_15 : decode cX3_firstGuest 15 = .ok (.iaload, 1) := by decide +kernel
theorem dX3_firstGuest_16 : decode cX3_firstGuest 16 = .ok (.iload_n 1, 1) := by decide +kernel
theorem dX3_firstGuest_17 : decode cX3_firstGuest 17 = .ok (.if_icmp .ne 5, 3) := by decide +kernel
theorem dX3_firstGuest_20 : decode cX3_firstGuest 20 = .ok (.iload_n 2, 1) := by decide +kernel
theorem dX3_firstGuest_21 : decode cX3_firstGuest 21 = .ok (.ireturn, 1) := by decide +kernel
theorem dX3_firstGuest_22 : decode cX3_firstGuest 22 = .ok (.iinc 2 1, 3) := by decide +kernel
theorem dX3_firstGuest_25 : decode cX3_firstGuest 25 = .ok (.goto (-23), 3) := by decide +kernel
theorem dX3_firstGuest_28 : decode cX3_firstGuest 28 = .ok (.iconst (-1), 1) := by decide +kernel
theorem dX3_firstGuest_29 : decode cX3_firstGuest 29 = .ok (.ireturn, 1) := by decide +kernel
theorem dX3_isLiked_0 : decode cX3_isLiked 0 = .ok (.aload_n 0, 1) := by decide +kernel
theorem dX3_isLiked_1 : decode cX3_isLiked 1 = .ok (.iload_n 1, 1) := by decide +kernel
theorem dX3_isLiked_2 : decode cX3_isLiked 2 = .ok (.invokevirtual 241, 3) := by decide +kernel
theorem dX3_isLiked_5 : decode cX3_isLiked 5 = .ok (.istore_n 3, 1) := by decide +kernel
theorem dX3_isLiked_6 : decode cX3_isLiked 6 = .ok (.iload_n 3, 1) := by decide +kernel
theorem dX3_isLiked_7 : decode cX3_isLiked 7 = .ok (.ifCond .eq 18, 3) := by decide +kernel
theorem dX3_isLiked_10 : decode cX3_isLiked 10 = .ok (.aload_n 0, 1) := by decide +kernel
theorem dX3_isLiked_11 : decode cX3_isLiked 11 = .ok (.getfield 11, 3) := by decide +kernel
theorem dX3_isLiked_14 : decode cX3_isLiked 14 = .ok (.iload_n 1, 1) := by decide +kernel
theorem dX3_isLiked_15 : decode cX3_isLiked 15 = .ok (.aaload, 1) := by decide +kernel
theorem dX3_isLiked_16 : decode cX3_isLiked 16 = .ok (.getfield 155, 3) := by decide +kernel
theorem dX3_isLiked_19 : decode cX3_isLiked 19 = .ok (.iload_n 2, 1) := by decide +kernel
theorem dX3_isLiked_20 : decode cX3_isLiked 20 = .ok (.iaload, 1) := by decide +kernel
theorem dX3_isLiked_21 : decode cX3_isLiked 21 = .ok (.iload_n 3, 1) := by decide +kernel
theorem dX3_isLiked_22 : decode cX3_isLiked 22 = .ok (.if_icmp .ge 7, 3) := by decide +kernel
theorem dX3_isLiked_25 : decode cX3_isLiked 25 = .ok (.iconst 1, 1) := by decide +kernel
theorem dX3_isLiked_26 : decode cX3_isLiked 26 = .ok (.goto 4, 3) := by decide +kernel
theorem dX3_isLiked_29 : decode cX3_isLiked 29 = .ok (.iconst 0, 1) := by decide +kernel
theorem dX3_isLiked_30 : decode cX3_isLiked 30 = .ok (.ireturn, 1) := by decide +kernel
theorem dX3_faultOfClosing_0 : decode cX3_faultOfClosing 0 = .ok (.iconst 0, 1) := by decide +kernel
theorem dX3_faultOfClosing_1 : decode cX3_faultOfClosing 1 = .ok (.istore_n 1, 1) := by decide +kernel
theorem dX3_faultOfClosing_2 : decode cX3_faultOfClosing 2 = .ok (.iload_n 1, 1) := by decide +kernel
theorem dX3_faultOfClosing_3 : decode cX3_faultOfClosing 3 = .ok (.aload_n 0, 1) := by decide +kernel
theorem dX3_faultOfClosing_4 : decode cX3_faultOfClosing 4 = .ok (.getfield 42, 3) := by decide +kernel
theorem dX3_faultOfClosing_7 : decode cX3_faultOfClosing 7 = .ok (.if_icmp .ge 38, 3) := by decide +kernel
theorem dX3_faultOfClosing_10 : decode cX3_faultOfClosing 10 = .ok (.aload_n 0, 1) := by decide +kernel
theorem dX3_faultOfClosing_11 : decode cX3_faultOfClosing 11 = .ok (.getfield 15, 3) := by decide +kernel
theorem dX3_faultOfClosing_14 : decode cX3_faultOfClosing 14 = .ok (.iload_n 1, 1) := by decide +kernel
theorem dX3_faultOfClosing_15 : decode cX3_faultOfClosing 15 = .ok (.iaload, 1) := by decide +kernel
theorem dX3_faultOfClosing_16 : decode cX3_faultOfClosing 16 = .ok (.iconst (-1), 1) := by decide +kernel
theorem dX3_faultOfClosing_17 : decode cX3_faultOfClosing 17 = .ok (.if_icmp .eq 22, 3) := by decide +kernel
theorem dX3_faultOfClosing_20 : decode cX3_faultOfClosing 20 = .ok (.aload_n 0, 1) := by decide +kernel
theorem dX3_faultOfClosing_21 : decode cX3_faultOfClosing 21 = .ok (.iload_n 1, 1) := by decide +kernel
theorem dX3_faultOfClosing_22 : decode cX3_faultOfClosing 22 = .ok (.aload_n 0, 1) := by decide +kernel
theorem dX3_faultOfClosing_23 : decode cX3_faultOfClosing 23 = .ok (.getfield 15, 3) := by decide +kernel
theorem dX3_faultOfClosing_26 : decode cX3_faultOfClosing 26 = .ok (.iload_n 1, 1) := by decide +kernel
theorem dX3_faultOfClosing_27 : decode cX3_faultOfClosing 27 = .ok (.iaload, 1) := by decide +kernel
theorem dX3_faultOfClosing_28 : decode cX3_faultOfClosing 28 = .ok (.invokevirtual 188, 3) := by decide +kernel
theorem dX3_faultOfClosing_31 : decode cX3_faultOfClosing 31 = .ok (.ifCond .ne 8, 3) := by decide +kernel
theorem dX3_faultOfClosing_34 : decode cX3_faultOfClosing 34 = .ok (.bipush 10, 2) := by decide +kernel
theorem dX3_faultOfClosing_36 : decode cX3_faultOfClosing 36 = .ok (.iload_n 1, 1) := by decide +kernel
theorem dX3_faultOfClosing_37 : decode cX3_faultOfClosing 37 = .ok (.iadd, 1) := by decide +kernel
theorem dX3_faultOfClosing_38 : decode cX3_faultOfClosing 38 = .ok (.ireturn, 1) := by decide +kernel
theorem dX3_faultOfClosing_39 : decode cX3_faultOfClosing 39 = .ok (.iinc 1 1, 3) := by decide +kernel
theorem dX3_faultOfClosing_42 : decode cX3_faultOfClosing 42 = .ok (.goto (-40), 3) := by decide +kernel
theorem dX3_faultOfClosing_45 : decode cX3_faultOfClosing 45 = .ok (.iconst 0, 1) := by decide +kernel
theorem dX3_faultOfClosing_46 : decode cX3_faultOfClosing 46 = .ok (.istore_n 1, 1) := by decide +kernel
theorem dX3_faultOfClosing_47 : decode cX3_faultOfClosing 47 = .ok (.iload_n 1, 1) := by decide +kernel
theorem dX3_faultOfClosing_48 : decode cX3_faultOfClosing 48 = .ok (.aload_n 0, 1) := by decide +kernel
theorem dX3_faultOfClosing_49 : decode cX3_faultOfClosing 49 = .ok (.getfield 42, 3) := by decide +kernel
theorem dX3_faultOfClosing_52 : decode cX3_faultOfClosing 52 = .ok (.if_icmp .ge 32, 3) := by decide +kernel
theorem dX3_faultOfClosing_55 : decode cX3_faultOfClosing 55 = .ok (.aload_n 0, 1) := by decide +kernel
theorem dX3_faultOfClosing_56 : decode cX3_faultOfClosing 56 = .ok (.getfield 15, 3) := by decide +kernel
theorem dX3_faultOfClosing_59 : decode cX3_faultOfClosing 59 = .ok (.iload_n 1, 1) := by decide +kernel
theorem dX3_faultOfClosing_60 : decode cX3_faultOfClosing 60 = .ok (.iaload, 1) := by decide +kernel
theorem dX3_faultOfClosing_61 : decode cX3_faultOfClosing 61 = .ok (.iconst (-1), 1) := by decide +kernel
theorem dX3_faultOfClosing_62 : decode cX3_faultOfClosing 62 = .ok (.if_icmp .eq 16, 3) := by decide +kernel
theorem dX3_faultOfClosing_65 : decode cX3_faultOfClosing 65 = .ok (.aload_n 0, 1) := by decide +kernel
theorem dX3_faultOfClosing_66 : decode cX3_faultOfClosing 66 = .ok (.iload_n 1, 1) := by decide +kernel
theorem dX3_faultOfClosing_67 : decode cX3_faultOfClosing 67 = .ok (.invokevirtual 244, 3) := by decide +kernel
theorem dX3_faultOfClosing_70 : decode cX3_faultOfClosing 70 = .ok (.ifCond .eq 8, 3) := by decide +kernel
theorem dX3_faultOfClosing_73 : decode cX3_faultOfClosing 73 = .ok (.bipush 20, 2) := by decide +kernel
theorem dX3_faultOfClosing_75 : decode cX3_faultOfClosing 75 = .ok (.iload_n 1, 1) := by decide +kernel
theorem dX3_faultOfClosing_76 : decode cX3_faultOfClosing 76 = .ok (.iadd, 1) := by decide +kernel
theorem dX3_faultOfClosing_77 : decode cX3_faultOfClosing 77 = .ok (.ireturn, 1) := by decide +kernel
theorem dX3_faultOfClosing_78 : decode cX3_faultOfClosing 78 = .ok (.iinc 1 1, 3) := by decide +kernel
theorem dX3_faultOfClosing_81 : decode cX3_faultOfClosing 81 = .ok (.goto (-34), 3) := by decide +kernel
theorem dX3_faultOfClosing_84 : decode cX3_faultOfClosing 84 = .ok (.iconst 0, 1) := by decide +kernel
theorem dX3_faultOfClosing_85 : decode cX3_faultOfClosing 85 = .ok (.istore_n 1, 1) := by decide +kernel
theorem dX3_faultOfClosing_86 : decode cX3_faultOfClosing 86 = .ok (.iload_n 1, 1) := by decide +kernel
theorem dX3_faultOfClosing_87 : decode cX3_faultOfClosing 87 = .ok (.aload_n 0, 1) := by decide +kernel
theorem dX3_faultOfClosing_88 : decode cX3_faultOfClosing 88 = .ok (.getfield 42, 3) := by decide +kernel
theorem dX3_faultOfClosing_91 : decode cX3_faultOfClosing 91 = .ok (.if_icmp .ge 33, 3) := by decide +kernel
theorem dX3_faultOfClosing_94 : decode cX3_faultOfClosing 94 = .ok (.aload_n 0, 1) := by decide +kernel
theorem dX3_faultOfClosing_95 : decode cX3_faultOfClosing 95 = .ok (.getfield 15, 3) := by decide +kernel
theorem dX3_faultOfClosing_98 : decode cX3_faultOfClosing 98 = .ok (.iload_n 1, 1) := by decide +kernel
theorem dX3_faultOfClosing_99 : decode cX3_faultOfClosing 99 = .ok (.iaload, 1) := by decide +kernel
theorem dX3_faultOfClosing_100 : decode cX3_faultOfClosing 100 = .ok (.iconst (-1), 1) := by decide +kernel
theorem dX3_faultOfClosing_101 : decode cX3_faultOfClosing 101 = .ok (.if_icmp .ne 17, 3) := by decide +kernel
theorem dX3_faultOfClosing_104 : decode cX3_faultOfClosing 104 = .ok (.aload_n 0, 1) := by decide +kernel
theorem dX3_faultOfClosing_105 : decode cX3_faultOfClosing 105 = .ok (.iload_n 1, 1) := by decide +kernel
theorem dX3_faultOfClosing_106 : decode cX3_faultOfClosing 106 = .ok (.invokevirtual 146, 3) := by decide +kernel
theorem dX3_faultOfClosing_109 : decode cX3_faultOfClosing 109 = .ok (.iconst (-1), 1) := by decide +kernel
theorem dX3_faultOfClosing_110 : decode cX3_faultOfClosing 110 = .ok (.if_icmp .eq 8, 3) := by decide +kernel
theorem dX3_faultOfClosing_113 : decode cX3_faultOfClosing 113 = .ok (.bipush 30, 2) := by decide +kernel
theorem dX3_faultOfClosing_115 : decode cX3_faultOfClosing 115 = .ok (.iload_n 1, 1) := by decide +kernel
theorem dX3_faultOfClosing_116 : decode cX3_faultOfClosing 116 = .ok (.iadd, 1) := by decide +kernel
theorem dX3_faultOfClosing_117 : decode cX3_faultOfClosing 117 = .ok (.ireturn, 1) := by decide +kernel
theorem dX3_faultOfClosing_118 : decode cX3_faultOfClosing 118 = .ok (.iinc 1 1, 3) := by decide +kernel
theorem dX3_faultOfClosing_121 : decode cX3_faultOfClosing 121 = .ok (.goto (-35), 3) := by decide +kernel
theorem dX3_faultOfClosing_124 : decode cX3_faultOfClosing 124 = .ok (.iconst 0, 1) := by decide +kernel
theorem dX3_faultOfClosing_125 : decode cX3_faultOfClosing 125 = .ok (.ireturn, 1) := by decide +kernel
theorem dX3_hasRival_0 : decode cX3_hasRival 0 = .ok (.iconst 0, 1) := by decide +kernel
theorem dX3_hasRival_1 : decode cX3_hasRival 1 = .ok (.istore_n 2, 1) := by decide +kernel
theorem dX3_hasRival_2 : decode cX3_hasRival 2 = .ok (.iload_n 2, 1) := by decide +kernel
theorem dX3_hasRival_3 : decode cX3_hasRival 3 = .ok (.aload_n 0, 1) := by decide +kernel
theorem dX3_hasRival_4 : decode cX3_hasRival 4 = .ok (.getfield 42, 3) := by decide +kernel
theorem dX3_hasRival_7 : decode cX3_hasRival 7 = .ok (.if_icmp .ge 31, 3) := by decide +kernel
theorem dX3_hasRival_10 : decode cX3_hasRival 10 = .ok (.iload_n 2, 1) := by decide +kernel
theorem dX3_hasRival_11 : decode cX3_hasRival 11 = .ok (.iload_n 1, 1) := by decide +kernel
theorem dX3_hasRival_12 : decode cX3_hasRival 12 = .ok (.if_icmp .eq 20, 3) := by decide +kernel
theorem dX3_hasRival_15 : decode cX3_hasRival 15 = .ok (.aload_n 0, 1) := by decide +kernel
theorem dX3_hasRival_16 : decode cX3_hasRival 16 = .ok (.getfield 15, 3) := by decide +kernel
theorem dX3_hasRival_19 : decode cX3_hasRival 19 = .ok (.iload_n 2, 1) := by decide +kernel
theorem dX3_hasRival_20 : decode cX3_hasRival 20 = .ok (.iaload, 1) := by decide +kernel
theorem dX3_hasRival_21 : decode cX3_hasRival 21 = .ok (.aload_n 0, 1) := by decide +kernel
theorem dX3_hasRival_22 : decode cX3_hasRival 22 = .ok (.getfield 15, 3) := by decide +kernel
theorem dX3_hasRival_25 : decode cX3_hasRival 25 = .ok (.iload_n 1, 1) := by decide +kernel
theorem dX3_hasRival_26 : decode cX3_hasRival 26 = .ok (.iaload, 1) := by decide +kernel
theorem dX3_hasRival_27 : decode cX3_hasRival 27 = .ok (.if_icmp .ne 5, 3) := by decide +kernel
theorem dX3_hasRival_30 : decode cX3_hasRival 30 = .ok (.iconst 1, 1) := by decide +kernel
theorem dX3_hasRival_31 : decode cX3_hasRival 31 = .ok (.ireturn, 1) := by decide +kernel
theorem dX3_hasRival_32 : decode cX3_hasRival 32 = .ok (.iinc 2 1, 3) := by decide +kernel
theorem dX3_hasRival_35 : decode cX3_hasRival 35 = .ok (.goto (-33), 3) := by decide +kernel
theorem dX3_hasRival_38 : decode cX3_hasRival 38 = .ok (.iconst 0, 1) := by decide +kernel
theorem dX3_hasRival_39 : decode cX3_hasRival 39 = .ok (.ireturn, 1) := by decide +kernel
theorem dX3_faultOfLength_0 : decode cX3_faultOfLength 0 = .ok (.iconst 0, 1) := by decide +kernel
theorem dX3_faultOfLength_1 : decode cX3_faultOfLength 1 = .ok (.istore_n 1, 1) := by decide +kernel
theorem dX3_faultOfLength_2 : decode cX3_faultOfLength 2 = .ok (.iload_n 1, 1) := by decide +kernel
theorem dX3_faultOfLength_3 : decode cX3_faultOfLength 3 = .ok (.aload_n 0, 1) := by decide +kernel
theorem dX3_faultOfLength_4 : decode cX3_faultOfLength 4 = .ok (.getfield 42, 3) := by decide +kernel
theorem dX3_faultOfLength_7 : decode cX3_faultOfLength 7 = .ok (.if_icmp .ge 36, 3) := by decide +kernel
theorem dX3_faultOfLength_10 : decode cX3_faultOfLength 10 = .ok (.aload_n 0, 1) := by decide +kernel
theorem dX3_faultOfLength_11 : decode cX3_faultOfLength 11 = .ok (.getfield 15, 3) := by decide +kernel
theorem dX3_faultOfLength_14 : decode cX3_faultOfLength 14 = .ok (.iload_n 1, 1) := by decide +kernel
theorem dX3_faultOfLength_15 : decode cX3_faultOfLength 15 = .ok (.iaload, 1) := by decide +kernel
theorem dX3_faultOfLength_16 : decode cX3_faultOfLength 16 = .ok (.iconst (-1), 1) := by decide +kernel
theorem dX3_faultOfLength_17 : decode cX3_faultOfLength 17 = .ok (.if_icmp .eq 20, 3) := by decide +kernel
theorem dX3_faultOfLength_20 : decode cX3_faultOfLength 20 = .ok (.aload_n 0, 1) := by decide +kernel
theorem dX3_faultOfLength_21 : decode cX3_faultOfLength 21 = .ok (.iload_n 1, 1) := by decide +kernel
theorem dX3_faultOfLength_22 : decode cX3_faultOfLength 22 = .ok (.invokevirtual 205, 3) := by decide +kernel
theorem dX3_faultOfLength_25 : decode cX3_faultOfLength 25 = .ok (.aload_n 0, 1) := by decide +kernel
theorem dX3_faultOfLength_26 : decode cX3_faultOfLength 26 = .ok (.getfield 55, 3) := by decide +kernel
theorem dX3_faultOfLength_29 : decode cX3_faultOfLength 29 = .ok (.if_icmp .le 8, 3) := by decide +kernel
theorem dX3_faultOfLength_32 : decode cX3_faultOfLength 32 = .ok (.bipush 40, 2) := by decide +kernel
theorem dX3_faultOfLength_34 : decode cX3_faultOfLength 34 = .ok (.iload_n 1, 1) := by decide +kernel
theorem dX3_faultOfLength_35 : decode cX3_faultOfLength 35 = .ok (.iadd, 1) := by decide +kernel
theorem dX3_faultOfLength_36 : decode cX3_faultOfLength 36 = .ok (.ireturn, 1) := by decide +kernel
theorem dX3_faultOfLength_37 : decode cX3_faultOfLength 37 = .ok (.iinc 1 1, 3) := by decide +kernel
theorem dX3_faultOfLength_40 : decode cX3_faultOfLength 40 = .ok (.goto (-38), 3) := by decide +kernel
theorem dX3_faultOfLength_43 : decode cX3_faultOfLength 43 = .ok (.iconst 0, 1) := by decide +kernel
theorem dX3_faultOfLength_44 : decode cX3_faultOfLength 44 = .ok (.ireturn, 1) := by decide +kernel
theorem dX3_ringLength_0 : decode cX3_ringLength 0 = .ok (.aload_n 0, 1) := by decide +kernel
theorem dX3_ringLength_1 : decode cX3_ringLength 1 = .ok (.getfield 15, 3) := by decide +kernel
theorem dX3_ringLength_4 : decode cX3_ringLength 4 = .ok (.iload_n 1, 1) := by decide +kernel
theorem dX3_ringLength_5 : decode cX3_ringLength 5 = .ok (.iaload, 1) := by decide +kernel
theorem dX3_ringLength_6 : decode cX3_ringLength 6 = .ok (.istore_n 2, 1) := by decide +kernel
theorem dX3_ringLength_7 : decode cX3_ringLength 7 = .ok (.iconst 1, 1) := by decide +kernel
theorem dX3_ringLength_8 : decode cX3_ringLength 8 = .ok (.istore_n 3, 1) := by decide +kernel
theorem dX3_ringLength_9 : decode cX3_ringLength 9 = .ok (.iload_n 2, 1) := by decide +kernel
theorem dX3_ringLength_10 : decode cX3_ringLength 10 = .ok (.iload_n 1, 1) := by decide +kernel
theorem dX3_ringLength_11 : decode cX3_ringLength 11 = .ok (.if_icmp .eq 27, 3) := by decide +kernel
theorem dX3_ringLength_14 : decode cX3_ringLength 14 = .ok (.iload_n 2, 1) := by decide +kernel
theorem dX3_ringLength_15 : decode cX3_ringLength 15 = .ok (.iconst (-1), 1) := by decide +kernel
theorem dX3_ringLength_16 : decode cX3_ringLength 16 = .ok (.if_icmp .eq 22, 3) := by decide +kernel
theorem dX3_ringLength_19 : decode cX3_ringLength 19 = .ok (.iload_n 3, 1) := by decide +kernel
theorem dX3_ringLength_20 : decode cX3_ringLength 20 = .ok (.bipush 10, 2) := by decide +kernel
theorem dX3_ringLength_22 : decode cX3_ringLength 22 = .ok (.if_icmp .ge 16, 3) := by decide +kernel
theorem dX3_ringLength_25 : decode cX3_ringLength 25 = .ok (.aload_n 0, 1) := by decide +kernel
theorem dX3_ringLength_26 : decode cX3_ringLength 26 = .ok (.getfield 15, 3) := by decide +kernel
theorem dX3_ringLength_29 : decode cX3_ringLength 29 = .ok (.iload_n 2, 1) := by decide +kernel
theorem dX3_ringLength_30 : decode cX3_ringLength 30 = .ok (.iaload, 1) := by decide +kernel
theorem dX3_ringLength_31 : decode cX3_ringLength 31 = .ok (.istore_n 2, 1) := by decide +kernel
theorem dX3_ringLength_32 : decode cX3_ringLength 32 = .ok (.iinc 3 1, 3) := by decide +kernel
theorem dX3_ringLength_35 : decode cX3_ringLength 35 = .ok (.goto (-26), 3) := by decide +kernel
theorem dX3_ringLength_38 : decode cX3_ringLength 38 = .ok (.iload_n 3, 1) := by decide +kernel
theorem dX3_ringLength_39 : decode cX3_ringLength 39 = .ok (.ireturn, 1) := by decide +kernel
theorem dX3_countRings_0 : decode cX3_countRings 0 = .ok (.aload_n 0, 1) := by decide +kernel
theorem dX3_countRings_1 : decode cX3_countRings 1 = .ok (.invokevirtual 167, 3) := by decide +kernel
theorem dX3_countRings_4 : decode cX3_countRings 4 = .ok (.ifCond .eq 5, 3) := by decide +kernel
theorem dX3_countRings_7 : decode cX3_countRings 7 = .ok (.iconst 0, 1) := by decide +kernel
theorem dX3_countRings_8 : decode cX3_countRings 8 = .ok (.ireturn, 1) := by decide +kernel
theorem dX3_countRings_9 : decode cX3_countRings 9 = .ok (.iconst 0, 1) := by decide +kernel
theorem dX3_countRings_10 : decode cX3_countRings 10 = .ok (.istore_n 1, 1) := by decide +kernel
theorem dX3_countRings_11 : decode cX3_countRings 11 = .ok (.iconst 0, 1) := by decide +kernel
theorem dX3_countRings_12 : decode cX3_countRings 12 = .ok (.istore_n 2, 1) := by decide +kernel
theorem dX3_countRings_13 : decode cX3_countRings 13 = .ok (.iload_n 2, 1) := by decide +kernel
theorem dX3_countRings_14 : decode cX3_countRings 14 = .ok (.aload_n 0, 1) := by decide +kernel
theorem dX3_countRings_15 : decode cX3_countRings 15 = .ok (.getfield 42, 3) := by decide +kernel
theorem dX3_countRings_18 : decode cX3_countRings 18 = .ok (.if_icmp .ge 30, 3) := by decide +kernel
theorem dX3_countRings_21 : decode cX3_countRings 21 = .ok (.aload_n 0, 1) := by decide +kernel
theorem dX3_countRings_22 : decode cX3_countRings 22 = .ok (.getfield 15, 3) := by decide +kernel
theorem dX3_countRings_25 : decode cX3_countRings 25 = .ok (.iload_n 2, 1) := by decide +kernel
theorem dX3_countRings_26 : decode cX3_countRings 26 = .ok (.iaload, 1) := by decide +kernel
theorem dX3_countRings_27 : decode cX3_countRings 27 = .ok (.iconst (-1), 1) := by decide +kernel
theorem dX3_countRings_28 : decode cX3_countRings 28 = .ok (.if_icmp .eq 14, 3) := by decide +kernel
theorem dX3_countRings_31 : decode cX3_countRings 31 = .ok (.aload_n 0, 1) := by decide +kernel
theorem dX3_countRings_32 : decode cX3_countRings 32 = .ok (.iload_n 2, 1) := by decide +kernel
theorem dX3_countRings_33 : decode cX3_countRings 33 = .ok (.invokevirtual 247, 3) := by decide +kernel
theorem dX3_countRings_36 : decode cX3_countRings 36 = .ok (.ifCond .eq 6, 3) := by decide +kernel
theorem dX3_countRings_39 : decode cX3_countRings 39 = .ok (.iinc 1 1, 3) := by decide +kernel
theorem dX3_countRings_42 : decode cX3_countRings 42 = .ok (.iinc 2 1, 3) := by decide +kernel
theorem dX3_countRings_45 : decode cX3_countRings 45 = .ok (.goto (-32), 3) := by decide +kernel
theorem dX3_countRings_48 : decode cX3_countRings 48 = .ok (.iload_n 1, 1) := by decide +kernel
theorem dX3_countRings_49 : decode cX3_countRings 49 = .ok (.ireturn, 1) := by decide +kernel
theorem dX3_isLeastOfRing_0 : decode cX3_isLeastOfRing 0 = .ok (.aload_n 0, 1) := by decide +kernel
theorem dX3_isLeastOfRing_1 : decode cX3_isLeastOfRing 1 = .ok (.iload_n 1, 1) := by decide +kernel
theorem dX3_isLeastOfRing_2 : decode cX3_isLeastOfRing 2 = .ok (.invokevirtual 205, 3) := by decide +kernel
theorem dX3_isLeastOfRing_5 : decode cX3_isLeastOfRing 5 = .ok (.istore_n 2, 1) := by decide +kernel
theorem dX3_isLeastOfRing_6 : decode cX3_isLeastOfRing 6 = .ok (.iload_n 1, 1) := by decide +kernel
theorem dX3_isLeastOfRing_7 : decode cX3_isLeastOfRing 7 = .ok (.istore_n 3, 1) := by decide +kernel
theorem dX3_isLeastOfRing_8 : decode cX3_isLeastOfRing 8 = .ok (.iconst 1, 1) := by decide +kernel
theorem dX3_isLeastOfRing_9 : decode cX3_isLeastOfRing 9 = .ok (.istore 4, 2) := by decide +kernel
theorem dX3_isLeastOfRing_11 : decode cX3_isLeastOfRing 11 = .ok (.iload 4, 2) := by decide +kernel
theorem dX3_isLeastOfRing_13 : decode cX3_isLeastOfRing 13 = .ok (.iload_n 2, 1) := by decide +kernel
theorem dX3_isLeastOfRing_14 : decode cX3_isLeastOfRing 14 = .ok (.if_icmp .ge 23, 3) := by decide +kernel
theorem dX3_isLeastOfRing_17 : decode cX3_isLeastOfRing 17 = .ok (.aload_n 0, 1) := by decide +kernel
theorem dX3_isLeastOfRing_18 : decode cX3_isLeastOfRing 18 = .ok (.getfield 15, 3) := by decide +kernel
theorem dX3_isLeastOfRing_21 : decode cX3_isLeastOfRing 21 = .ok (.iload_n 3, 1) := by decide +kernel
theorem dX3_isLeastOfRing_22 : decode cX3_isLeastOfRing 22 = .ok (.iaload, 1) := by decide +kernel
theorem dX3_isLeastOfRing_23 : decode cX3_isLeastOfRing 23 = .ok (.istore_n 3, 1) := by decide +kernel
theorem dX3_isLeastOfRing_24 : decode cX3_isLeastOfRing 24 = .ok (.iload_n 3, 1) := by decide +kernel
theorem dX3_isLeastOfRing_25 : decode cX3_isLeastOfRing 25 = .ok (.iload_n 1, 1) := by decide +kernel
theorem dX3_isLeastOfRing_26 : decode cX3_isLeastOfRing 26 = .ok (.if_icmp .ge 5, 3) := by decide +kernel
theorem dX3_isLeastOfRing_29 : decode cX3_isLeastOfRing 29 = .ok (.iconst 0, 1) := by decide +kernel
theorem dX3_isLeastOfRing_30 : decode cX3_isLeastOfRing 30 = .ok (.ireturn, 1) := by decide +kernel
theorem dX3_isLeastOfRing_31 : decode cX3_isLeastOfRing 31 = .ok (.iinc 4 1, 3) := by decide +kernel
theorem dX3_isLeastOfRing_34 : decode cX3_isLeastOfRing 34 = .ok (.goto (-23), 3) := by decide +kernel
theorem dX3_isLeastOfRing_37 : decode cX3_isLeastOfRing 37 = .ok (.iconst 1, 1) := by decide +kernel
theorem dX3_isLeastOfRing_38 : decode cX3_isLeastOfRing 38 = .ok (.ireturn, 1) := by decide +kernel
theorem dX3_clearPlan_0 : decode cX3_clearPlan 0 = .ok (.iconst 0, 1) := by decide +kernel
theorem dX3_clearPlan_1 : decode cX3_clearPlan 1 = .ok (.istore_n 1, 1) := by decide +kernel
theorem dX3_clearPlan_2 : decode cX3_clearPlan 2 = .ok (.iload_n 1, 1) := by decide +kernel
theorem dX3_clearPlan_3 : decode cX3_clearPlan 3 = .ok (.bipush 10, 2) := by decide +kernel
theorem dX3_clearPlan_5 : decode cX3_clearPlan 5 = .ok (.if_icmp .ge 16, 3) := by decide +kernel
theorem dX3_clearPlan_8 : decode cX3_clearPlan 8 = .ok (.aload_n 0, 1) := by decide +kernel
theorem dX3_clearPlan_9 : decode cX3_clearPlan 9 = .ok (.getfield 15, 3) := by decide +kernel
theorem dX3_clearPlan_12 : decode cX3_clearPlan 12 = .ok (.iload_n 1, 1) := by decide +kernel
theorem dX3_clearPlan_13 : decode cX3_clearPlan 13 = .ok (.iconst (-1), 1) := by decide +kernel
theorem dX3_clearPlan_14 : decode cX3_clearPlan 14 = .ok (.iastore, 1) := by decide +kernel
theorem dX3_clearPlan_15 : decode cX3_clearPlan 15 = .ok (.iinc 1 1, 3) := by decide +kernel
theorem dX3_clearPlan_18 : decode cX3_clearPlan 18 = .ok (.goto (-16), 3) := by decide +kernel
theorem dX3_clearPlan_21 : decode cX3_clearPlan 21 = .ok (.return_, 1) := by decide +kernel
theorem dX3_planRings_0 : decode cX3_planRings 0 = .ok (.aload_n 0, 1) := by decide +kernel
theorem dX3_planRings_1 : decode cX3_planRings 1 = .ok (.getfield 31, 3) := by decide +kernel
theorem dX3_planRings_4 : decode cX3_planRings 4 = .ok (.aload_n 0, 1) := by decide +kernel
theorem dX3_planRings_5 : decode cX3_planRings 5 = .ok (.getfield 42, 3) := by decide +kernel
theorem dX3_planRings_8 : decode cX3_planRings 8 = .ok (.invokevirtual 250, 3) := by decide +kernel
theorem dX3_planRings_11 : decode cX3_planRings 11 = .ok (.iconst 0, 1) := by decide +kernel
theorem dX3_planRings_12 : decode cX3_planRings 12 = .ok (.istore_n 2, 1) := by decide +kernel
theorem dX3_planRings_13 : decode cX3_planRings 13 = .ok (.iload_n 2, 1) := by decide +kernel
theorem dX3_planRings_14 : decode cX3_planRings 14 = .ok (.aload_n 0, 1) := by decide +kernel
theorem dX3_planRings_15 : decode cX3_planRings 15 = .ok (.getfield 42, 3) := by decide +kernel
theorem dX3_planRings_18 : decode cX3_planRings 18 = .ok (.if_icmp .ge 77, 3) := by decide +kernel
theorem dX3_planRings_21 : decode cX3_planRings 21 = .ok (.iconst 0, 1) := by decide +kernel
theorem dX3_planRings_22 : decode cX3_planRings 22 = .ok (.istore_n 3, 1) := by decide +kernel
theorem dX3_planRings_23 : decode cX3_planRings 23 = .ok (.iload_n 3, 1) := by decide +kernel
theorem dX3_planRings_24 : decode cX3_planRings 24 = .ok (.aload_n 0, 1) := by decide +kernel
theorem dX3_planRings_25 : decode cX3_planRings 25 = .ok (.getfield 42, 3) := by decide +kernel
theorem dX3_planRings_28 : decode cX3_planRings 28 = .ok (.if_icmp .ge 61, 3) := by decide +kernel
theorem dX3_planRings_31 : decode cX3_planRings 31 = .ok (.aload_n 0, 1) := by decide +kernel
theorem dX3_planRings_32 : decode cX3_planRings 32 = .ok (.iload_n 2, 1) := by decide +kernel
theorem dX3_planRings_33 : decode cX3_planRings 33 = .ok (.iload_n 3, 1) := by decide +kernel
theorem dX3_planRings_34 : decode cX3_planRings 34 = .ok (.invokevirtual 188, 3) := by decide +kernel
theorem dX3_planRings_37 : decode cX3_planRings 37 = .ok (.ifCond .eq 46, 3) := by decide +kernel
theorem dX3_planRings_40 : decode cX3_planRings 40 = .ok (.aload_n 0, 1) := by decide +kernel
theorem dX3_planRings_41 : decode cX3_planRings 41 = .ok (.getfield 15, 3) := by decide +kernel
theorem dX3_planRings_44 : decode cX3_planRings 44 = .ok (.iload_n 2, 1) := by decide +kernel
theorem dX3_planRings_45 : decode cX3_planRings 45 = .ok (.iaload, 1) := by decide +kernel
theorem dX3_planRings_46 : decode cX3_planRings 46 = .ok (.iload_n 3, 1) := by decide +kernel
theorem dX3_planRings_47 : decode cX3_planRings 47 = .ok (.if_icmp .ne 7, 3) := by decide +kernel
theorem dX3_planRings_50 : decode cX3_planRings 50 = .ok (.iload_n 1, 1) := by decide +kernel
theorem dX3_planRings_51 : decode cX3_planRings 51 = .ok (.goto 4, 3) := by decide +kernel
theorem dX3_planRings_54 : decode cX3_planRings 54 = .ok (.iconst 0, 1) := by decide +kernel
theorem dX3_planRings_55 : decode cX3_planRings 55 = .ok (.istore 4, 2) := by decide +kernel
theorem dX3_planRings_57 : decode cX3_planRings 57 = .ok (.aload_n 0, 1) := by decide +kernel
theorem dX3_planRings_58 : decode cX3_planRings 58 = .ok (.getfield 31, 3) := by decide +kernel
theorem dX3_planRings_61 : decode cX3_planRings 61 = .ok (.iload_n 2, 1) := by decide +kernel
theorem dX3_planRings_62 : decode cX3_planRings 62 = .ok (.iload_n 3, 1) := by decide +kernel
theorem dX3_planRings_63 : decode cX3_planRings 63 = .ok (.iload 4, 2) := by decide +kernel
theorem dX3_planRings_65 : decode cX3_planRings 65 = .ok (.bipush 100, 2) := by decide +kernel
theorem dX3_planRings_67 : decode cX3_planRings 67 = .ok (.iadd, 1) := by decide +kernel
theorem dX3_planRings_68 : decode cX3_planRings 68 = .ok (.aload_n 0, 1) := by decide +kernel
theorem dX3_planRings_69 : decode cX3_planRings 69 = .ok (.getfield 11, 3) := by decide +kernel
theorem dX3_planRings_72 : decode cX3_planRings 72 = .ok (.iload_n 2, 1) := by decide +kernel
theorem dX3_planRings_73 : decode cX3_planRings 73 = .ok (.aaload, 1) := by decide +kernel
theorem dX3_planRings_74 : decode cX3_planRings 74 = .ok (.getfield 155, 3) := by decide +kernel
theorem dX3_planRings_77 : decode cX3_planRings 77 = .ok (.iload_n 3, 1) := by decide +kernel
theorem dX3_planRings_78 : decode cX3_planRings 78 = .ok (.iaload, 1) := by decide +kernel
theorem dX3_planRings_79 : decode cX3_planRings 79 = .ok (.isub, 1) := by decide +kernel
theorem dX3_planRings_80 : decode cX3_planRings 80 = .ok (.invokevirtual 251, 3) := by decide +kernel
theorem dX3_planRings_83 : decode cX3_planRings 83 = .ok (.iinc 3 1, 3) := by decide +kernel
theorem dX3_planRings_86 : decode cX3_planRings 86 = .ok (.goto (-63), 3) := by decide +kernel
theorem dX3_planRings_89 : decode cX3_planRings 89 = .ok (.iinc 2 1, 3) := by decide +kernel
theorem dX3_planRings_92 : decode cX3_planRings 92 = .ok (.goto (-79), 3) := by decide +kernel
theorem dX3_planRings_95 : decode cX3_planRings 95 = .ok (.aload_n 0, 1) := by decide +kernel
theorem dX3_planRings_96 : decode cX3_planRings 96 = .ok (.getfield 31, 3) := by decide +kernel
theorem dX3_planRings_99 : decode cX3_planRings 99 = .ok (.aload_n 0, 1) := by decide +kernel
theorem dX3_planRings_100 : decode cX3_planRings 100 = .ok (.getfield 15, 3) := by decide +kernel
theorem dX3_planRings_103 : decode cX3_planRings 103 = .ok (.aload_n 0, 1) := by decide +kernel
theorem dX3_planRings_104 : decode cX3_planRings 104 = .ok (.getfield 55, 3) := by decide +kernel
theorem dX3_planRings_107 : decode cX3_planRings 107 = .ok (.invokevirtual 254, 3) := by decide +kernel
theorem dX3_planRings_110 : decode cX3_planRings 110 = .ok (.ireturn, 1) := by decide +kernel
theorem dX3_showHomes_0 : decode cX3_showHomes 0 = .ok (.iload_n 1, 1) := by decide +kernel
theorem dX3_showHomes_1 : decode cX3_showHomes 1 = .ok (.istore_n 2, 1) := by decide +kernel
theorem dX3_showHomes_2 : decode cX3_showHomes 2 = .ok (.iconst 0, 1) := by decide +kernel
theorem dX3_showHomes_3 : decode cX3_showHomes 3 = .ok (.istore_n 3, 1) := by decide +kernel
theorem dX3_showHomes_4 : decode cX3_showHomes 4 = .ok (.iload_n 3, 1) := by decide +kernel
theorem dX3_showHomes_5 : decode cX3_showHomes 5 = .ok (.bipush 10, 2) := by decide +kernel
theorem dX3_showHomes_7 : decode cX3_showHomes 7 = .ok (.if_icmp .ge 33, 3) := by decide +kernel
theorem dX3_showHomes_10 : decode cX3_showHomes 10 = .ok (.aload_n 0, 1) := by decide +kernel
theorem dX3_showHomes_11 : decode cX3_showHomes 11 = .ok (.iload_n 2, 1) := by decide +kernel
theorem dX3_showHomes_12 : decode cX3_showHomes 12 = .ok (.invokevirtual 258, 3) := by decide +kernel
theorem dX3_showHomes_15 : decode cX3_showHomes 15 = .ok (.istore 4, 2) := by decide +kernel
theorem dX3_showHomes_17 : decode cX3_showHomes 17 = .ok (.iload 4, 2) := by decide +kernel
theorem dX3_showHomes_19 : decode cX3_showHomes 19 = .ok (.iconst (-1), 1) := by decide +kernel
theorem dX3_showHomes_20 : decode cX3_showHomes 20 = .ok (.if_icmp .ne 5, 3) := by decide +kernel
theorem dX3_showHomes_23 : decode cX3_showHomes 23 = .ok (.iload_n 2, 1) := by decide +kernel
theorem dX3_showHomes_24 : decode cX3_showHomes 24 = .ok (.ireturn, 1) := by decide +kernel
theorem dX3_showHomes_25 : decode cX3_showHomes 25 = .ok (.iload_n 2, 1) := by decide +kernel
theorem dX3_showHomes_26 : decode cX3_showHomes 26 = .ok (.iconst 1, 1) := by decide +kernel
theorem dX3_showHomes_27 : decode cX3_showHomes 27 = .ok (.iload 4, 2) := by decide +kernel
theorem dX3_showHomes_29 : decode cX3_showHomes 29 = .ok (.ishl, 1) := by decide +kernel
theorem dX3_showHomes_30 : decode cX3_showHomes 30 = .ok (.iconst (-1), 1) := by decide +kernel
theorem dX3_showHomes_31 : decode cX3_showHomes 31 = .ok (.ixor, 1) := by decide +kernel
theorem dX3_showHomes_32 : decode cX3_showHomes 32 = .ok (.iand, 1) := by decide +kernel
theorem dX3_showHomes_33 : decode cX3_showHomes 33 = .ok (.istore_n 2, 1) := by decide +kernel
theorem dX3_showHomes_34 : decode cX3_showHomes 34 = .ok (.iinc 3 1, 3) := by decide +kernel
theorem dX3_showHomes_37 : decode cX3_showHomes 37 = .ok (.goto (-33), 3) := by decide +kernel
theorem dX3_showHomes_40 : decode cX3_showHomes 40 = .ok (.iload_n 2, 1) := by decide +kernel
theorem dX3_showHomes_41 : decode cX3_showHomes 41 = .ok (.ireturn, 1) := by decide +kernel
theorem dX3_firstWithoutHome_0 : decode cX3_firstWithoutHome 0 = .ok (.iconst 0, 1) := by decide +kernel
theorem dX3_firstWithoutHome_1 : decode cX3_firstWithoutHome 1 = .ok (.istore_n 2, 1) := by decide +kernel
theorem dX3_firstWithoutHome_2 : decode cX3_firstWithoutHome 2 = .ok (.iload_n 2, 1) := by decide +kernel
theorem dX3_firstWithoutHome_3 : decode cX3_firstWithoutHome 3 = .ok (.aload_n 0, 1) := by decide +kernel
theorem dX3_firstWithoutHome_4 : decode cX3_firstWithoutHome 4 = .ok (.getfield 42, 3) := by decide +kernel
theorem dX3_firstWithoutHome_7 : decode cX3_firstWithoutHome 7 = .ok (.if_icmp .ge 42, 3) := by decide +kernel
theorem dX3_firstWithoutHome_10 : decode cX3_firstWithoutHome 10 = .ok (.iload_n 1, 1) := by decide +kernel
theorem dX3_firstWithoutHome_11 : decode cX3_firstWithoutHome 11 = .ok (.iload_n 2, 1) := by decide +kernel
theorem dX3_firstWithoutHome_12 : decode cX3_firstWithoutHome 12 = .ok (.ishr, 1) := by decide +kernel
theorem dX3_firstWithoutHome_13 : decode cX3_firstWithoutHome 13 = .ok (.iconst 1, 1) := by decide +kernel
theorem dX3_firstWithoutHome_14 : decode cX3_firstWithoutHome 14 = .ok (.iand, 1) := by decide +kernel
theorem dX3_firstWithoutHome_15 : decode cX3_firstWithoutHome 15 = .ok (.iconst 1, 1) := by decide +kernel
theorem dX3_firstWithoutHome_16 : decode cX3_firstWithoutHome 16 = .ok (.if_icmp .ne 27, 3) := by decide +kernel
theorem dX3_firstWithoutHome_19 : decode cX3_firstWithoutHome 19 = .ok (.aload_n 0, 1) := by decide +kernel
theorem dX3_firstWithoutHome_20 : decode cX3_firstWithoutHome 20 = .ok (.getfield 25, 3) := by decide +kernel
theorem dX3_firstWithoutHome_23 : decode cX3_firstWithoutHome 23 = .ok (.iload_n 2, 1) := by decide +kernel
theorem dX3_firstWithoutHome_24 : decode cX3_firstWithoutHome 24 = .ok (.aload_n 0, 1) := by decide +kernel
theorem dX3_firstWithoutHome_25 : decode cX3_firstWithoutHome 25 = .ok (.iload_n 2, 1) := by decide +kernel
theorem dX3_firstWithoutHome_26 : decode cX3_firstWithoutHome 26 = .ok (.iload_n 1, 1) := by decide +kernel
theorem dX3_firstWithoutHome_27 : decode cX3_firstWithoutHome 27 = .ok (.invokevirtual 261, 3) := by decide +kernel
theorem dX3_firstWithoutHome_30 : decode cX3_firstWithoutHome 30 = .ok (.iastore, 1) := by decide +kernel
theorem dX3_firstWithoutHome_31 : decode cX3_firstWithoutHome 31 = .ok (.aload_n 0, 1) := by decide +kernel
theorem dX3_firstWithoutHome_32 : decode cX3_firstWithoutHome 32 = .ok (.getfield 25, 3) := by decide +kernel
theorem dX3_firstWithoutHome_35 : decode cX3_firstWithoutHome 35 = .ok (.iload_n 2, 1) := by decide +kernel
theorem dX3_firstWithoutHome_36 : decode cX3_firstWithoutHome 36 = .ok (.iaload, 1) := by decide +kernel
theorem dX3_firstWithoutHome_37 : decode cX3_firstWithoutHome 37 = .ok (.iconst (-1), 1) := by decide +kernel
theorem dX3_firstWithoutHome_38 : decode cX3_firstWithoutHome 38 = .ok (.if_icmp .ne 5, 3) := by decide +kernel
theorem dX3_firstWithoutHome_41 : decode cX3_firstWithoutHome 41 = .ok (.iload_n 2, 1) := by decide +kernel
theorem dX3_firstWithoutHome_42 : decode cX3_firstWithoutHome 42 = .ok (.ireturn, 1) := by decide +kernel
theorem dX3_firstWithoutHome_43 : decode cX3_firstWithoutHome 43 = .ok (.iinc 2 1, 3) := by decide +kernel
theorem dX3_firstWithoutHome_46 : decode cX3_firstWithoutHome 46 = .ok (.goto (-44), 3) := by decide +kernel
theorem dX3_firstWithoutHome_49 : decode cX3_firstWithoutHome 49 = .ok (.iconst (-1), 1) := by decide +kernel
theorem dX3_firstWithoutHome_50 : decode cX3_firstWithoutHome 50 = .ok (.ireturn, 1) := by decide +kernel
theorem dX3_likedMost_0 : decode cX3_likedMost 0 = .ok (.iconst (-1), 1) := by decide +kernel
theorem dX3_likedMost_1 : decode cX3_likedMost 1 = .ok (.istore_n 3, 1) := by decide +kernel
theorem dX3_likedMost_2 : decode cX3_likedMost 2 = .ok (.iconst 0, 1) := by decide +kernel
theorem dX3_likedMost_3 : decode cX3_likedMost 3 = .ok (.istore 4, 2) := by decide +kernel
theorem dX3_likedMost_5 : decode cX3_likedMost 5 = .ok (.iload 4, 2) := by decide +kernel
theorem dX3_likedMost_7 : decode cX3_likedMost 7 = .ok (.aload_n 0, 1) := by decide +kernel
theorem dX3_likedMost_8 : decode cX3_likedMost 8 = .ok (.getfield 42, 3) := by decide +kernel
theorem dX3_likedMost_11 : decode cX3_likedMost 11 = .ok (.if_icmp .ge 75, 3) := by decide +kernel
theorem dX3_likedMost_14 : decode cX3_likedMost 14 = .ok (.iload_n 2, 1) := by decide +kernel
theorem dX3_likedMost_15 : decode cX3_likedMost 15 = .ok (.iload 4, 2) := by decide +kernel
theorem dX3_likedMost_17 : decode cX3_likedMost 17 = .ok (.ishr, 1) := by decide +kernel
theorem dX3_likedMost_18 : decode cX3_likedMost 18 = .ok (.iconst 1, 1) := by decide +kernel
theorem dX3_likedMost_19 : decode cX3_likedMost 19 = .ok (.iand, 1) := by decide +kernel
theorem dX3_likedMost_20 : decode cX3_likedMost 20 = .ok (.iconst 1, 1) := by decide +kernel
theorem dX3_likedMost_21 : decode cX3_likedMost 21 = .ok (.if_icmp .ne 17, 3) := by decide +kernel
theorem dX3_likedMost_24 : decode cX3_likedMost 24 = .ok (.aload_n 0, 1) := by decide +kernel
theorem dX3_likedMost_25 : decode cX3_likedMost 25 = .ok (.iload_n 1, 1) := by decide +kernel
theorem dX3_likedMost_26 : decode cX3_likedMost 26 = .ok (.iload 4, 2) := by decide +kernel
theorem dX3_likedMost_28 : decode cX3_likedMost 28 = .ok (.invokevirtual 188, 3) := by decide +kernel
theorem dX3_likedMost_31 : decode cX3_likedMost 31 = .ok (.ifCond .eq 7, 3) := by decide +kernel
theorem dX3_likedMost_34 : decode cX3_likedMost 34 = .ok (.iconst 1, 1) := by decide +kernel
theorem dX3_likedMost_35 : decode cX3_likedMost 35 = .ok (.goto 4, 3) := by decide +kernel
theorem dX3_likedMost_38 : decode cX3_likedMost 38 = .ok (.iconst 0, 1) := by decide +kernel
theorem dX3_likedMost_39 : decode cX3_likedMost 39 = .ok (.istore 5, 2) := by decide +kernel
theorem dX3_likedMost_41 : decode cX3_likedMost 41 = .ok (.iload 5, 2) := by decide +kernel
theorem dX3_likedMost_43 : decode cX3_likedMost 43 = .ok (.ifCond .eq 37, 3) := by decide +kernel
theorem dX3_likedMost_46 : decode cX3_likedMost 46 = .ok (.iload_n 3, 1) := by decide +kernel
theorem dX3_likedMost_47 : decode cX3_likedMost 47 = .ok (.iconst (-1), 1) := by decide +kernel
theorem dX3_likedMost_48 : decode cX3_likedMost 48 = .ok (.if_icmp .eq 29, 3) := by decide +kernel
theorem dX3_likedMost_51 : decode cX3_likedMost 51 = .ok (.aload_n 0, 1) := by decide +kernel
theorem dX3_likedMost_52 : decode cX3_likedMost 52 = .ok (.getfield 11, 3) := by decide +kernel
theorem dX3_likedMost_55 : decode cX3_likedMost 55 = .ok (.iload_n 1, 1) := by decide +kernel
theorem dX3_likedMost_56 : decode cX3_likedMost 56 = .ok (.aaload, 1) := by decide +kernel
theorem dX3_likedMost_57 : decode cX3_likedMost 57 = .ok (.getfield 155, 3) := by decide +kernel
theorem dX3_likedMost_60 : decode cX3_likedMost 60 = .ok (.iload 4, 2) := by decide +kernel
theorem dX3_likedMost_62 : decode cX3_likedMost 62 = .ok (.iaload, 1) := by decide +kernel
theorem dX3_likedMost_63 : decode cX3_likedMost 63 = .ok (.aload_n 0, 1) := by decide +kernel
theorem dX3_likedMost_64 : decode cX3_likedMost 64 = .ok (.getfield 11, 3) := by decide +kernel
theorem dX3_likedMost_67 : decode cX3_likedMost 67 = .ok (.iload_n 1, 1) := by decide +kernel
theorem dX3_likedMost_68 : decode cX3_likedMost 68 = .ok (.aaload, 1) := by decide +kernel
theorem dX3_likedMost_69 : decode cX3_likedMost 69 = .ok (.getfield 155, 3) := by decide +kernel
theorem dX3_likedMost_72 : decode cX3_likedMost 72 = .ok (.iload_n 3, 1) := by decide +kernel
theorem dX3_likedMost_73 : decode cX3_likedMost 73 = .ok (.iaload, 1) := by decide +kernel
theorem dX3_likedMost_74 : decode cX3_likedMost 74 = .ok (.if_icmp .ge 6, 3) := by decide +kernel
theorem dX3_likedMost_77 : decode cX3_likedMost 77 = .ok (.iload 4, 2) := by decide +kernel
theorem dX3_likedMost_79 : decode cX3_likedMost 79 = .ok (.istore_n 3, 1) := by decide +kernel
theorem dX3_likedMost_80 : decode cX3_likedMost 80 = .ok (.iinc 4 1, 3) := by decide +kernel
theorem dX3_likedMost_83 : decode cX3_likedMost 83 = .ok (.goto (-78), 3) := by decide +kernel
theorem dX3_likedMost_86 : decode cX3_likedMost 86 = .ok (.iload_n 3, 1) := by decide +kernel
theorem dX3_likedMost_87 : decode cX3_likedMost 87 = .ok (.ireturn, 1) := by decide +kernel
theorem dX3_sendShownRing_0 : decode cX3_sendShownRing 0 = .ok (.iconst 0, 1) := by decide +kernel
theorem dX3_sendShownRing_1 : decode cX3_sendShownRing 1 = .ok (.istore_n 2, 1) := by decide +kernel
theorem dX3_sendShownRing_2 : decode cX3_sendShownRing 2 = .ok (.iload_n 2, 1) := by decide +kernel
theorem dX3_sendShownRing_3 : decode cX3_sendShownRing 3 = .ok (.aload_n 0, 1) := by decide +kernel
theorem dX3_sendShownRing_4 : decode cX3_sendShownRing 4 = .ok (.getfield 42, 3) := by decide +kernel
theorem dX3_sendShownRing_7 : decode cX3_sendShownRing 7 = .ok (.if_icmp .ge 32, 3) := by decide +kernel
theorem dX3_sendShownRing_10 : decode cX3_sendShownRing 10 = .ok (.iload_n 1, 1) := by decide +kernel
theorem dX3_sendShownRing_11 : decode cX3_sendShownRing 11 = .ok (.iload_n 2, 1) := by decide +kernel
theorem dX3_sendShownRing_12 : decode cX3_sendShownRing 12 = .ok (.ishr, 1) := by decide +kernel
theorem dX3_sendShownRing_13 : decode cX3_sendShownRing 13 = .ok (.iconst 1, 1) := by decide +kernel
theorem dX3_sendShownRing_14 : decode cX3_sendShownRing 14 = .ok (.iand, 1) := by decide +kernel
theorem dX3_sendShownRing_15 : decode cX3_sendShownRing 15 = .ok (.iconst 1, 1) := by decide +kernel
theorem dX3_sendShownRing_16 : decode cX3_sendShownRing 16 = .ok (.if_icmp .ne 17, 3) := by decide +kernel
theorem dX3_sendShownRing_19 : decode cX3_sendShownRing 19 = .ok (.aload_n 0, 1) := by decide +kernel
theorem dX3_sendShownRing_20 : decode cX3_sendShownRing 20 = .ok (.iload_n 2, 1) := by decide +kernel
theorem dX3_sendShownRing_21 : decode cX3_sendShownRing 21 = .ok (.invokevirtual 264, 3) := by decide +kernel
theorem dX3_sendShownRing_24 : decode cX3_sendShownRing 24 = .ok (.ifCond .eq 9, 3) := by decide +kernel
theorem dX3_sendShownRing_27 : decode cX3_sendShownRing 27 = .ok (.aload_n 0, 1) := by decide +kernel
theorem dX3_sendShownRing_28 : decode cX3_sendShownRing 28 = .ok (.iload_n 2, 1) := by decide +kernel
theorem dX3_sendShownRing_29 : decode cX3_sendShownRing 29 = .ok (.invokevirtual 267, 3) := by decide +kernel
theorem dX3_sendShownRing_32 : decode cX3_sendShownRing 32 = .ok (.ireturn, 1) := by decide +kernel
theorem dX3_sendShownRing_33 : decode cX3_sendShownRing 33 = .ok (.iinc 2 1, 3) := by decide +kernel
theorem dX3_sendShownRing_36 : decode cX3_sendShownRing 36 = .ok (.goto (-34), 3) := by decide +kernel
theorem dX3_sendShownRing_39 : decode cX3_sendShownRing 39 = .ok (.iconst 0, 1) := by decide +kernel
theorem dX3_sendShownRing_40 : decode cX3_sendShownRing 40 = .ok (.ireturn, 1) := by decide +kernel
theorem dX3_comesRound_0 : decode cX3_comesRound 0 = .ok (.aload_n 0, 1) := by decide +kernel
theorem dX3_comesRound_1 : decode cX3_comesRound 1 = .ok (.getfield 25, 3) := by decide +kernel
theorem dX3_comesRound_4 : decode cX3_comesRound 4 = .ok (.iload_n 1, 1) := by decide +kernel
theorem dX3_comesRound_5 : decode cX3_comesRound 5 = .ok (.iaload, 1) := by decide +kernel
theorem dX3_comesRound_6 : decode cX3_comesRound 6 = .ok (.istore_n 2, 1) := by decide +kernel
theorem dX3_comesRound_7 : decode cX3_comesRound 7 = .ok (.iconst 0, 1) := by decide +kernel
theorem dX3_comesRound_8 : decode cX3_comesRound 8 = .ok (.istore_n 3, 1) := by decide +kernel
theorem dX3_comesRound_9 : decode cX3_comesRound 9 = .ok (.iload_n 3, 1) := by decide +kernel
theorem dX3_comesRound_10 : decode cX3_comesRound 10 = .ok (.aload_n 0, 1) := by decide +kernel
theorem dX3_comesRound_11 : decode cX3_comesRound 11 = .ok (.getfield 42, 3) := by decide +kernel
theorem dX3_comesRound_14 : decode cX3_comesRound 14 = .ok (.if_icmp .ge 21, 3) := by decide +kernel
theorem dX3_comesRound_17 : decode cX3_comesRound 17 = .ok (.iload_n 2, 1) := by decide +kernel
theorem dX3_comesRound_18 : decode cX3_comesRound 18 = .ok (.iload_n 1, 1) := by decide +kernel
theorem dX3_comesRound_19 : decode cX3_comesRound 19 = .ok (.if_icmp .eq 16, 3) := by decide +kernel
theorem dX3_comesRound_22 : decode cX3_comesRound 22 = .ok (.aload_n 0, 1) := by decide +kernel
theorem dX3_comesRound_23 : decode cX3_comesRound 23 = .ok (.getfield 25, 3) := by decide +kernel
theorem dX3_comesRound_26 : decode cX3_comesRound 26 = .ok (.iload_n 2, 1) := by decide +kernel
theorem dX3_comesRound_27 : decode cX3_comesRound 27 = .ok (.iaload, 1) := by decide +kernel
theorem dX3_comesRound_28 : decode cX3_comesRound 28 = .ok (.istore_n 2, 1) := by decide +kernel
theorem dX3_comesRound_29 : decode cX3_comesRound 29 = .ok (.iinc 3 1, 3) := by decide +kernel
theorem dX3_comesRound_32 : decode cX3_comesRound 32 = .ok (.goto (-23), 3) := by decide +kernel
theorem dX3_comesRound_35 : decode cX3_comesRound 35 = .ok (.iload_n 2, 1) := by decide +kernel
theorem dX3_comesRound_36 : decode cX3_comesRound 36 = .ok (.iload_n 1, 1) := by decide +kernel
theorem dX3_comesRound_37 : decode cX3_comesRound 37 = .ok (.if_icmp .ne 7, 3) := by decide +kernel
theorem dX3_comesRound_40 : decode cX3_comesRound 40 = .ok (.iconst 1, 1) := by decide +kernel
theorem dX3_comesRound_41 : decode cX3_comesRound 41 = .ok (.goto 4, 3) := by decide +kernel
theorem dX3_comesRound_44 : decode cX3_comesRound 44 = .ok (.iconst 0, 1) := by decide +kernel
theorem dX3_comesRound_45 : decode cX3_comesRound 45 = .ok (.ireturn, 1) := by decide +kernel
theorem dX3_sendAsShown_0 : decode cX3_sendAsShown 0 = .ok (.iconst 0, 1) := by decide +kernel
theorem dX3_sendAsShown_1 : decode cX3_sendAsShown 1 = .ok (.istore_n 2, 1) := by decide +kernel
theorem dX3_sendAsShown_2 : decode cX3_sendAsShown 2 = .ok (.iload_n 1, 1) := by decide +kernel
theorem dX3_sendAsShown_3 : decode cX3_sendAsShown 3 = .ok (.istore_n 3, 1) := by decide +kernel
theorem dX3_sendAsShown_4 : decode cX3_sendAsShown 4 = .ok (.iconst 0, 1) := by decide +kernel
theorem dX3_sendAsShown_5 : decode cX3_sendAsShown 5 = .ok (.istore 4, 2) := by decide +kernel
theorem dX3_sendAsShown_7 : decode cX3_sendAsShown 7 = .ok (.iload 4, 2) := by decide +kernel
theorem dX3_sendAsShown_9 : decode cX3_sendAsShown 9 = .ok (.aload_n 0, 1) := by decide +kernel
theorem dX3_sendAsShown_10 : decode cX3_sendAsShown 10 = .ok (.getfield 42, 3) := by decide +kernel
theorem dX3_sendAsShown_13 : decode cX3_sendAsShown 13 = .ok (.if_icmp .ge 42, 3) := by decide +kernel
theorem dX3_sendAsShown_16 : decode cX3_sendAsShown 16 = .ok (.iload_n 2, 1) := by decide +kernel
theorem dX3_sendAsShown_17 : decode cX3_sendAsShown 17 = .ok (.iload_n 3, 1) := by decide +kernel
theorem dX3_sendAsShown_18 : decode cX3_sendAsShown 18 = .ok (.ishr, 1) := by decide +kernel
theorem dX3_sendAsShown_19 : decode cX3_sendAsShown 19 = .ok (.iconst 1, 1) := by decide +kernel
theorem dX3_sendAsShown_20 : decode cX3_sendAsShown 20 = .ok (.iand, 1) := by decide +kernel
theorem dX3_sendAsShown_21 : decode cX3_sendAsShown 21 = .ok (.ifCond .ne 34, 3) := by decide +kernel
theorem dX3_sendAsShown_24 : decode cX3_sendAsShown 24 = .ok (.iload_n 2, 1) := by decide +kernel
theorem dX3_sendAsShown_25 : decode cX3_sendAsShown 25 = .ok (.iconst 1, 1) := by decide +kernel
theorem dX3_sendAsShown_26 : decode cX3_sendAsShown 26 = .ok (.iload_n 3, 1) := by decide +kernel
theorem dX3_sendAsShown_27 : decode cX3_sendAsShown 27 = .ok (.ishl, 1) := by decide +kernel
theorem dX3_sendAsShown_28 : decode cX3_sendAsShown 28 = .ok (.ior, 1) := by decide +kernel
theorem dX3_sendAsShown_29 : decode cX3_sendAsShown 29 = .ok (.istore_n 2, 1) := by decide +kernel
theorem dX3_sendAsShown_30 : decode cX3_sendAsShown 30 = .ok (.aload_n 0, 1) := by decide +kernel
theorem dX3_sendAsShown_31 : decode cX3_sendAsShown 31 = .ok (.getfield 15, 3) := by decide +kernel
theorem dX3_sendAsShown_34 : decode cX3_sendAsShown 34 = .ok (.iload_n 3, 1) := by decide +kernel
theorem dX3_sendAsShown_35 : decode cX3_sendAsShown 35 = .ok (.aload_n 0, 1) := by decide +kernel
theorem dX3_sendAsShown_36 : decode cX3_sendAsShown 36 = .ok (.getfield 25, 3) := by decide +kernel
theorem dX3_sendAsShown_39 : decode cX3_sendAsShown 39 = .ok (.iload_n 3, 1) := by decide +kernel
theorem dX3_sendAsShown_40 : decode cX3_sendAsShown 40 = .ok (.iaload, 1) := by decide +kernel
theorem dX3_sendAsShown_41 : decode cX3_sendAsShown 41 = .ok (.iastore, 1) := by decide +kernel
theorem dX3_sendAsShown_42 : decode cX3_sendAsShown 42 = .ok (.aload_n 0, 1) := by decide +kernel
theorem dX3_sendAsShown_43 : decode cX3_sendAsShown 43 = .ok (.getfield 25, 3) := by decide +kernel
theorem dX3_sendAsShown_46 : decode cX3_sendAsShown 46 = .ok (.iload_n 3, 1) := by decide +kernel
theorem dX3_sendAsShown_47 : decode cX3_sendAsShown 47 = .ok (.iaload, 1) := by decide +kernel
theorem dX3_sendAsShown_48 : decode cX3_sendAsShown 48 = .ok (.istore_n 3, 1) := by decide +kernel
theorem dX3_sendAsShown_49 : decode cX3_sendAsShown 49 = .ok (.iinc 4 1, 3) := by decide +kernel
theorem dX3_sendAsShown_52 : decode cX3_sendAsShown 52 = .ok (.goto (-45), 3) := by decide +kernel
theorem dX3_sendAsShown_55 : decode cX3_sendAsShown 55 = .ok (.iload_n 2, 1) := by decide +kernel
theorem dX3_sendAsShown_56 : decode cX3_sendAsShown 56 = .ok (.ireturn, 1) := by decide +kernel
theorem dX3_addChainWaysTo_0 : decode cX3_addChainWaysTo 0 = .ok (.aload_n 0, 1) := by decide +kernel
theorem dX3_addChainWaysTo_1 : decode cX3_addChainWaysTo 1 = .ok (.getfield 11, 3) := by decide +kernel
theorem dX3_addChainWaysTo_4 : decode cX3_addChainWaysTo 4 = .ok (.iload_n 1, 1) := by decide +kernel
theorem dX3_addChainWaysTo_5 : decode cX3_addChainWaysTo 5 = .ok (.aaload, 1) := by decide +kernel
theorem dX3_addChainWaysTo_6 : decode cX3_addChainWaysTo 6 = .ok (.invokevirtual 140, 3) := by decide +kernel
theorem dX3_addChainWaysTo_9 : decode cX3_addChainWaysTo 9 = .ok (.istore_n 3, 1) := by decide +kernel
theorem dX3_addChainWaysTo_10 : decode cX3_addChainWaysTo 10 = .ok (.iconst 0, 1) := by decide +kernel
theorem dX3_addChainWaysTo_11 : decode cX3_addChainWaysTo 11 = .ok (.istore 4, 2) := by decide +kernel
theorem dX3_addChainWaysTo_13 : decode cX3_addChainWaysTo 13 = .ok (.iload 4, 2) := by decide +kernel
theorem dX3_addChainWaysTo_15 : decode cX3_addChainWaysTo 15 = .ok (.aload_n 0, 1) := by decide +kernel
theorem dX3_addChainWaysTo_16 : decode cX3_addChainWaysTo 16 = .ok (.getfield 42, 3) := by decide +kernel
theorem dX3_addChainWaysTo_19 : decode cX3_addChainWaysTo 19 = .ok (.if_icmp .ge 74, 3) := by decide +kernel
theorem dX3_addChainWaysTo_22 : decode cX3_addChainWaysTo 22 = .ok (.iload 4, 2) := by decide +kernel
theorem dX3_addChainWaysTo_24 : decode cX3_addChainWaysTo 24 = .ok (.iload_n 2, 1) := by decide +kernel
theorem dX3_addChainWaysTo_25 : decode cX3_addChainWaysTo 25 = .ok (.if_icmp .ne 7, 3) := by decide +kernel
theorem dX3_addChainWaysTo_28 : decode cX3_addChainWaysTo 28 = .ok (.iconst 0, 1) := by decide +kernel
theorem dX3_addChainWaysTo_29 : decode cX3_addChainWaysTo 29 = .ok (.goto 13, 3) := by decide +kernel
theorem dX3_addChainWaysTo_32 : decode cX3_addChainWaysTo 32 = .ok (.aload_n 0, 1) := by decide +kernel
theorem dX3_addChainWaysTo_33 : decode cX3_addChainWaysTo 33 = .ok (.getfield 11, 3) := by decide +kernel
theorem dX3_addChainWaysTo_36 : decode cX3_addChainWaysTo 36 = .ok (.iload 4, 2) := by decide +kernel
theorem dX3_addChainWaysTo_38 : decode cX3_addChainWaysTo 38 = .ok (.aaload, 1) := by decide +kernel
theorem dX3_addChainWaysTo_39 : decode cX3_addChainWaysTo 39 = .ok (.invokevirtual 140, 3) := by decide +kernel
theorem dX3_addChainWaysTo_42 : decode cX3_addChainWaysTo 42 = .ok (.istore 5, 2) := by decide +kernel
theorem dX3_addChainWaysTo_44 : decode cX3_addChainWaysTo 44 = .ok (.aload_n 0, 1) := by decide +kernel
theorem dX3_addChainWaysTo_45 : decode cX3_addChainWaysTo 45 = .ok (.iload 4, 2) := by decide +kernel
theorem dX3_addChainWaysTo_47 : decode cX3_addChainWaysTo 47 = .ok (.iload_n 1, 1) := by decide +kernel
theorem dX3_addChainWaysTo_48 : decode cX3_addChainWaysTo 48 = .ok (.invokevirtual 188, 3) := by decide +kernel
theorem dX3_addChainWaysTo_51 : decode cX3_addChainWaysTo 51 = .ok (.ifCond .eq 36, 3) := by decide +kernel
theorem dX3_addChainWaysTo_54 : decode cX3_addChainWaysTo 54 = .ok (.aload_n 0, 1) := by decide +kernel
theorem dX3_addChainWaysTo_55 : decode cX3_addChainWaysTo 55 = .ok (.getfield 11, 3) := by decide +kernel
theorem dX3_addChainWaysTo_58 : decode cX3_addChainWaysTo 58 = .ok (.iload 4, 2) := by decide +kernel
theorem dX3_addChainWaysTo_60 : decode cX3_addChainWaysTo 60 = .ok (.aaload, 1) := by decide +kernel
theorem dX3_addChainWaysTo_61 : decode cX3_addChainWaysTo 61 = .ok (.getfield 143, 3) := by decide +kernel
theorem dX3_addChainWaysTo_64 : decode cX3_addChainWaysTo 64 = .ok (.iload 5, 2) := by decide +kernel
theorem dX3_addChainWaysTo_66 : decode cX3_addChainWaysTo 66 = .ok (.iadd, 1) := by decide +kernel
theorem dX3_addChainWaysTo_67 : decode cX3_addChainWaysTo 67 = .ok (.iload_n 3, 1) := by decide +kernel
theorem dX3_addChainWaysTo_68 : decode cX3_addChainWaysTo 68 = .ok (.isub, 1) := by decide +kernel
theorem dX3_addChainWaysTo_69 : decode cX3_addChainWaysTo 69 = .ok (.aload_n 0, 1) := by decide +kernel
theorem dX3_addChainWaysTo_70 : decode cX3_addChainWaysTo 70 = .ok (.getfield 58, 3) := by decide +kernel
theorem dX3_addChainWaysTo_73 : decode cX3_addChainWaysTo 73 = .ok (.ineg, 1) := by decide +kernel
theorem dX3_addChainWaysTo_74 : decode cX3_addChainWaysTo 74 = .ok (.if_icmp .lt 13, 3) := by decide +kernel
theorem dX3_addChainWaysTo_77 : decode cX3_addChainWaysTo 77 = .ok (.aload_n 0, 1) := by decide +kernel
theorem dX3_addChainWaysTo_78 : decode cX3_addChainWaysTo 78 = .ok (.getfield 38, 3) := by decide +kernel
theorem dX3_addChainWaysTo_81 : decode cX3_addChainWaysTo 81 = .ok (.iload 4, 2) := by decide +kernel
theorem dX3_addChainWaysTo_83 : decode cX3_addChainWaysTo 83 = .ok (.iload_n 1, 1) := by decide +kernel
theorem dX3_addChainWaysTo_84 : decode cX3_addChainWaysTo 84 = .ok (.invokevirtual 194, 3) := by decide +kernel
theorem dX3_addChainWaysTo_87 : decode cX3_addChainWaysTo 87 = .ok (.iinc 4 1, 3) := by decide +kernel
theorem dX3_addChainWaysTo_90 : decode cX3_addChainWaysTo 90 = .ok (.goto (-77), 3) := by decide +kernel
theorem dX3_addChainWaysTo_93 : decode cX3_addChainWaysTo 93 = .ok (.return_, 1) := by decide +kernel
theorem dX3_pay_0 : decode cX3_pay 0 = .ok (.aload_n 0, 1) := by decide +kernel
theorem dX3_pay_1 : decode cX3_pay 1 = .ok (.getfield 11, 3) := by decide +kernel
theorem dX3_pay_4 : decode cX3_pay 4 = .ok (.iload_n 2, 1) := by decide +kernel
theorem dX3_pay_5 : decode cX3_pay 5 = .ok (.aaload, 1) := by decide +kernel
theorem dX3_pay_6 : decode cX3_pay 6 = .ok (.invokevirtual 140, 3) := by decide +kernel
theorem dX3_pay_9 : decode cX3_pay 9 = .ok (.istore 4, 2) := by decide +kernel
theorem dX3_pay_11 : decode cX3_pay 11 = .ok (.aload_n 0, 1) := by decide +kernel
theorem dX3_pay_12 : decode cX3_pay 12 = .ok (.getfield 11, 3) := by decide +kernel
theorem dX3_pay_15 : decode cX3_pay 15 = .ok (.iload_n 1, 1) := by decide +kernel
theorem dX3_pay_16 : decode cX3_pay 16 = .ok (.aaload, 1) := by decide +kernel
theorem dX3_pay_17 : decode cX3_pay 17 = .ok (.dup, 1) := by decide +kernel
theorem dX3_pay_18 : decode cX3_pay 18 = .ok (.getfield 143, 3) := by decide +kernel
theorem dX3_pay_21 : decode cX3_pay 21 = .ok (.iload_n 3, 1) := by decide +kernel
theorem dX3_pay_22 : decode cX3_pay 22 = .ok (.iload 4, 2) := by decide +kernel
theorem dX3_pay_24 : decode cX3_pay 24 = .ok (.imul, 1) := by decide +kernel
theorem dX3_pay_25 : decode cX3_pay 25 = .ok (.isub, 1) := by decide +kernel
theorem dX3_pay_26 : decode cX3_pay 26 = .ok (.putfield 143, 3) := by decide +kernel
theorem dX3_pay_29 : decode cX3_pay 29 = .ok (.aload_n 0, 1) := by decide +kernel
theorem dX3_pay_30 : decode cX3_pay 30 = .ok (.getfield 11, 3) := by decide +kernel
theorem dX3_pay_33 : decode cX3_pay 33 = .ok (.iload_n 2, 1) := by decide +kernel
theorem dX3_pay_34 : decode cX3_pay 34 = .ok (.aaload, 1) := by decide +kernel
theorem dX3_pay_35 : decode cX3_pay 35 = .ok (.dup, 1) := by decide +kernel
theorem dX3_pay_36 : decode cX3_pay 36 = .ok (.getfield 143, 3) := by decide +kernel
theorem dX3_pay_39 : decode cX3_pay 39 = .ok (.iload_n 3, 1) := by decide +kernel
theorem dX3_pay_40 : decode cX3_pay 40 = .ok (.iload 4, 2) := by decide +kernel
theorem dX3_pay_42 : decode cX3_pay 42 = .ok (.imul, 1) := by decide +kernel
theorem dX3_pay_43 : decode cX3_pay 43 = .ok (.iadd, 1) := by decide +kernel
theorem dX3_pay_44 : decode cX3_pay 44 = .ok (.putfield 143, 3) := by decide +kernel
theorem dX3_pay_47 : decode cX3_pay 47 = .ok (.return_, 1) := by decide +kernel
theorem dX3_payPlan_0 : decode cX3_payPlan 0 = .ok (.iconst 0, 1) := by decide +kernel
theorem dX3_payPlan_1 : decode cX3_payPlan 1 = .ok (.istore_n 2, 1) := by decide +kernel
theorem dX3_payPlan_2 : decode cX3_payPlan 2 = .ok (.iload_n 2, 1) := by decide +kernel
theorem dX3_payPlan_3 : decode cX3_payPlan 3 = .ok (.aload_n 0, 1) := by decide +kernel
theorem dX3_payPlan_4 : decode cX3_payPlan 4 = .ok (.getfield 42, 3) := by decide +kernel
theorem dX3_payPlan_7 : decode cX3_payPlan 7 = .ok (.if_icmp .ge 31, 3) := by decide +kernel
theorem dX3_payPlan_10 : decode cX3_payPlan 10 = .ok (.aload_n 0, 1) := by decide +kernel
theorem dX3_payPlan_11 : decode cX3_payPlan 11 = .ok (.getfield 15, 3) := by decide +kernel
theorem dX3_payPlan_14 : decode cX3_payPlan 14 = .ok (.iload_n 2, 1) := by decide +kernel
theorem dX3_payPlan_15 : decode cX3_payPlan 15 = .ok (.iaload, 1) := by decide +kernel
theorem dX3_payPlan_16 : decode cX3_payPlan 16 = .ok (.iconst (-1), 1) := by decide +kernel
theorem dX3_payPlan_17 : decode cX3_payPlan 17 = .ok (.if_icmp .eq 15, 3) := by decide +kernel
theorem dX3_payPlan_20 : decode cX3_payPlan 20 = .ok (.aload_n 0, 1) := by decide +kernel
theorem dX3_payPlan_21 : decode cX3_payPlan 21 = .ok (.iload_n 2, 1) := by decide +kernel
theorem dX3_payPlan_22 : decode cX3_payPlan 22 = .ok (.aload_n 0, 1) := by decide +kernel
theorem dX3_payPlan_23 : decode cX3_payPlan 23 = .ok (.getfield 15, 3) := by decide +kernel
theorem dX3_payPlan_26 : decode cX3_payPlan 26 = .ok (.iload_n 2, 1) := by decide +kernel
theorem dX3_payPlan_27 : decode cX3_payPlan 27 = .ok (.iaload, 1) := by decide +kernel
theorem dX3_payPlan_28 : decode cX3_payPlan 28 = .ok (.iload_n 1, 1) := by decide +kernel
theorem dX3_payPlan_29 : decode cX3_payPlan 29 = .ok (.invokevirtual 215, 3) := by decide +kernel
theorem dX3_payPlan_32 : decode cX3_payPlan 32 = .ok (.iinc 2 1, 3) := by decide +kernel
theorem dX3_payPlan_35 : decode cX3_payPlan 35 = .ok (.goto (-33), 3) := by decide +kernel
theorem dX3_payPlan_38 : decode cX3_payPlan 38 = .ok (.return_, 1) := by decide +kernel
theorem dX4_init_0 : decode cX4_init 0 = .ok (.aload_n 0, 1) := by decide +kernel
theorem dX4_init_1 : decode cX4_init 1 = .ok (.invokespecial 1, 3) := by decide +kernel
theorem dX4_init_4 : decode cX4_init 4 = .ok (.aload_n 0, 1) := by decide +kernel
theorem dX4_init_5 : decode cX4_init 5 = .ok (.bipush 10, 2) := by decide +kernel
theorem dX4_init_7 : decode cX4_init 7 = .ok (.newarray .int, 2) := by decide +kernel
theorem dX4_init_9 : decode cX4_init 9 = .ok (.putfield 9, 3) := by decide +kernel
theorem dX4_init_12 : decode cX4_init 12 = .ok (.aload_n 0, 1) := by decide +kernel
theorem dX4_init_13 : decode cX4_init 13 = .ok (.bipush 10, 2) := by decide +kernel
theorem dX4_init_15 : decode cX4_init 15 = .ok (.newarray .int, 2) := by decide +kernel
theorem dX4_init_17 : decode cX4_init 17 = .ok (.putfield 13, 3) := by decide +kernel
theorem dX4_init_20 : decode cX4_init 20 = .ok (.aload_n 0, 1) := by decide +kernel
theorem dX4_init_21 : decode cX4_init 21 = .ok (.bipush 10, 2) := by decide +kernel
theorem dX4_init_23 : decode cX4_init 23 = .ok (.newarray .int, 2) := by decide +kernel
theorem dX4_init_25 : decode cX4_init 25 = .ok (.putfield 16, 3) := by decide +kernel
theorem dX4_init_28 : decode cX4_init 28 = .ok (.aload_n 0, 1) := by decide +kernel
theorem dX4_init_29 : decode cX4_init 29 = .ok (.bipush 10, 2) := by decide +kernel
theorem dX4_init_31 : decode cX4_init 31 = .ok (.newarray .boolean, 2) := by decide +kernel
theorem dX4_init_33 : decode cX4_init 33 = .ok (.putfield 19, 3) := by decide +kernel
theorem dX4_init_36 : decode cX4_init 36 = .ok (.aload_n 0, 1) := by decide +kernel
theorem dX4_init_37 : decode cX4_init 37 = .ok (.bipush 10, 2) := by decide +kernel
theorem dX4_init_39 : decode cX4_init 39 = .ok (.newarray .int, 2) := by decide +kernel
theorem dX4_init_41 : decode cX4_init 41 = .ok (.putfield 23, 3) := by decide +kernel
theorem dX4_init_44 : decode cX4_init 44 = .ok (.aload_n 0, 1) := by decide +kernel
theorem dX4_init_45 : decode cX4_init 45 = .ok (.bipush 10, 2) := by decide +kernel
theorem dX4_init_47 : decode cX4_init 47 = .ok (.newarray .int, 2) := by decide +kernel
theorem dX4_init_49 : decode cX4_init 49 = .ok (.putfield 26, 3) := by decide +kernel
theorem dX4_init_52 : decode cX4_init 52 = .ok (.aload_n 0, 1) := by decide +kernel
theorem dX4_init_53 : decode cX4_init 53 = .ok (.bipush 10, 2) := by decide +kernel
theorem dX4_init_55 : decode cX4_init 55 = .ok (.newarray .int, 2) := by decide +kernel
theorem dX4_init_57 : decode cX4_init 57 = .ok (.putfield 29, 3) := by decide +kernel
theorem dX4_init_60 : decode cX4_init 60 = .ok (.aload_n 0, 1) := by decide +kernel
theorem dX4_init_61 : decode cX4_init 61 = .ok (.bipush 10, 2) := by decide +kernel
theorem dX4_init_63 : decode cX4_init 63 = .ok (.newarray .int, 2) := by decide +kernel
theorem dX4_init_65 : decode cX4_init 65 = .ok (.putfield 32, 3) := by decide +kernel
theorem dX4_init_68 : decode cX4_init 68 = .ok (.aload_n 0, 1) := by decide +kernel
theorem dX4_init_69 : decode cX4_init 69 = .ok (.bipush 10, 2) := by decide +kernel
theorem dX4_init_71 : decode cX4_init 71 = .ok (.newarray .int, 2) := by decide +kernel
theorem dX4_init_73 : decode cX4_init 73 = .ok (.putfield 35, 3) := by decide +kernel
theorem dX4_init_76 : decode cX4_init 76 = .ok (.aload_n 0, 1) := by decide +kernel
theorem dX4_init_77 : decode cX4_init 77 = .ok (.bipush 10, 2) := by decide +kernel
theorem dX4_init_79 : decode cX4_init 79 = .ok (.newarray .boolean, 2) := by decide +kernel
theorem dX4_init_81 : decode cX4_init 81 = .ok (.putfield 38, 3) := by decide +kernel
theorem dX4_init_84 : decode cX4_init 84 = .ok (.aload_n 0, 1) := by decide +kernel
theorem dX4_init_85 : decode cX4_init 85 = .ok (.bipush 10, 2) := by decide +kernel
theorem dX4_init_87 : decode cX4_init 87 = .ok (.newarray .int, 2) := by decide +kernel
theorem dX4_init_89 : decode cX4_init 89 = .ok (.putfield 41, 3) := by decide +kernel
theorem dX4_init_92 : decode cX4_init 92 = .ok (.aload_n 0, 1) := by decide +kernel
theorem dX4_init_93 : decode cX4_init 93 = .ok (.bipush 100, 2) := by decide +kernel
theorem dX4_init_95 : decode cX4_init 95 = .ok (.newarray .int, 2) := by decide +kernel
theorem dX4_init_97 : decode cX4_init 97 = .ok (.putfield 44, 3) := by decide +kernel
theorem dX4_init_100 : decode cX4_init 100 = .ok (.aload_n 0, 1) := by decide +kernel
theorem dX4_init_101 : decode cX4_init 101 = .ok (.bipush 100, 2) := by decide +kernel
theorem dX4_init_103 : decode cX4_init 103 = .ok (.newarray .boolean, 2) := by decide +kernel
theorem dX4_init_105 : decode cX4_init 105 = .ok (.putfield 47, 3) := by decide +kernel
theorem dX4_init_108 : decode cX4_init 108 = .ok (.aload_n 0, 1) := by decide +kernel
theorem dX4_init_109 : decode cX4_init 109 = .ok (.bipush 10, 2) := by decide +kernel
theorem dX4_init_111 : decode cX4_init 111 = .ok (.newarray .int, 2) := by decide +kernel
theorem dX4_init_113 : decode cX4_init 113 = .ok (.putfield 50, 3) := by decide +kernel
theorem dX4_init_116 : decode cX4_init 116 = .ok (.aload_n 0, 1) := by decide +kernel
theorem dX4_init_117 : decode cX4_init 117 = .ok (.iconst 2, 1) := by decide +kernel
theorem dX4_init_118 : decode cX4_init 118 = .ok (.putfield 53, 3) := by decide +kernel
theorem dX4_init_121 : decode cX4_init 121 = .ok (.aload_n 0, 1) := by decide +kernel
theorem dX4_init_122 : decode cX4_init 122 = .ok (.bipush 10, 2) := by decide +kernel
theorem dX4_init_124 : decode cX4_init 124 = .ok (.putfield 57, 3) := by decide +kernel
theorem dX4_init_127 : decode cX4_init 127 = .ok (.aload_n 0, 1) := by decide +kernel
theorem dX4_init_128 : decode cX4_init 128 = .ok (.bipush 10, 2) := by decide +kernel
theorem dX4_init_130 : decode cX4_init 130 = .ok (.newarray .int, 2) := by decide +kernel
theorem dX4_init_132 : decode cX4_init 132 = .ok (.putfield 60, 3) := by decide +kernel
theorem dX4_init_135 : decode cX4_init 135 = .ok (.aload_n 0, 1) := by decide +kernel
theorem dX4_init_136 : decode cX4_init 136 = .ok (.bipush 10, 2) := by decide +kernel
theorem dX4_init_138 : decode cX4_init 138 = .ok (.newarray .int, 2) := by decide +kernel
theorem dX4_init_140 : decode cX4_init 140 = .ok (.putfield 63, 3) := by decide +kernel
theorem dX4_init_143 : decode cX4_init 143 = .ok (.aload_n 0, 1) := by decide +kernel
theorem dX4_init_144 : decode cX4_init 144 = .ok (.bipush 10, 2) := by decide +kernel
theorem dX4_init_146 : decode cX4_init 146 = .ok (.newarray .boolean, 2) := by decide +kernel
theorem dX4_init_148 : decode cX4_init 148 = .ok (.putfield 66, 3) := by decide +kernel
theorem dX4_init_151 : decode cX4_init 151 = .ok (.aload_n 0, 1) := by decide +kernel
theorem dX4_init_152 : decode cX4_init 152 = .ok (.bipush 10, 2) := by decide +kernel
theorem dX4_init_154 : decode cX4_init 154 = .ok (.newarray .int, 2) := by decide +kernel
theorem dX4_init_156 : decode cX4_init 156 = .ok (.putfield 69, 3) := by decide +kernel
theorem dX4_init_159 : decode cX4_init 159 = .ok (.aload_n 0, 1) := by decide +kernel
theorem dX4_init_160 : decode cX4_init 160 = .ok (.bipush 10, 2) := by decide +kernel
theorem dX4_init_162 : decode cX4_init 162 = .ok (.newarray .int, 2) := by decide +kernel
theorem dX4_init_164 : decode cX4_init 164 = .ok (.putfield 72, 3) := by decide +kernel
theorem dX4_init_167 : decode cX4_init 167 = .ok (.aload_n 0, 1) := by decide +kernel
theorem dX4_init_168 : decode cX4_init 168 = .ok (.bipush 10, 2) := by decide +kernel
theorem dX4_init_170 : decode cX4_init 170 = .ok (.newarray .int, 2) := by decide +kernel
theorem dX4_init_172 : decode cX4_init 172 = .ok (.putfield 75, 3) := by decide +kernel
theorem dX4_init_175 : decode cX4_init 175 = .ok (.aload_n 0, 1) := by decide +kernel
theorem dX4_init_176 : decode cX4_init 176 = .ok (.bipush 10, 2) := by decide +kernel
theorem dX4_init_178 : decode cX4_init 178 = .ok (.newarray .int, 2) := by decide +kernel
theorem dX4_init_180 : decode cX4_init 180 = .ok (.putfield 78, 3) := by decide +kernel
theorem dX4_init_183 : decode cX4_init 183 = .ok (.aload_n 0, 1) := by decide +kernel
theorem dX4_init_184 : decode cX4_init 184 = .ok (.sipush 600, 3) := by decide +kernel
theorem dX4_init_187 : decode cX4_init 187 = .ok (.newarray .int, 2) := by decide +kernel
theorem dX4_init_189 : decode cX4_init 189 = .ok (.putfield 81, 3) := by decide +kernel
theorem dX4_init_192 : decode cX4_init 192 = .ok (.return_, 1) := by decide +kernel
theorem dX4_thrown_0 : decode cX4_thrown 0 = .ok (.aload_n 0, 1) := by decide +kernel
theorem dX4_thrown_1 : decode cX4_thrown 1 = .ok (.getfield 84, 3) := by decide +kernel
theorem dX4_thrown_4 : decode cX4_thrown 4 = .ok (.ireturn, 1) := by decide +kernel
theorem dX4_lies_0 : decode cX4_lies 0 = .ok (.lload_n 0, 1) := by decide +kernel
theorem dX4_lies_1 : decode cX4_lies 1 = .ok (.lload_n 2, 1) := by decide +kernel
theorem dX4_lies_2 : decode cX4_lies 2 = .ok (.lcmp, 1) := by decide +kernel
theorem dX4_lies_3 : decode cX4_lies 3 = .ok (.ifCond .lt 14, 3) := by decide +kernel
theorem dX4_lies_6 : decode cX4_lies 6 = .ok (.lload_n 0, 1) := by decide +kernel
theorem dX4_lies_7 : decode cX4_lies 7 = .ok (.lload 4, 2) := by decide +kernel
theorem dX4_lies_9 : decode cX4_lies 9 = .ok (.lcmp, 1) := by decide +kernel
theorem dX4_lies_10 : decode cX4_lies 10 = .ok (.ifCond .gt 7, 3) := by decide +kernel
theorem dX4_lies_13 : decode cX4_lies 13 = .ok (.iconst 1, 1) := by decide +kernel
theorem dX4_lies_14 : decode cX4_lies 14 = .ok (.goto 4, 3) := by decide +kernel
theorem dX4_lies_17 : decode cX4_lies 17 = .ok (.iconst 0, 1) := by decide +kernel
theorem dX4_lies_18 : decode cX4_lies 18 = .ok (.ireturn, 1) := by decide +kernel
theorem dX4_refuse_0 : decode cX4_refuse 0 = .ok (.aload_n 0, 1) := by decide +kernel
theorem dX4_refuse_1 : decode cX4_refuse 1 = .ok (.iconst 1, 1) := by decide +kernel
theorem dX4_refuse_2 : decode cX4_refuse 2 = .ok (.putfield 84, 3) := by decide +kernel
theorem dX4_refuse_5 : decode cX4_refuse 5 = .ok (.iconst 0, 1) := by decide +kernel
theorem dX4_refuse_6 : decode cX4_refuse 6 = .ok (.ireturn, 1) := by decide +kernel
theorem dX4_isFamily_0 : decode cX4_isFamily 0 = .ok (.iload_n 1, 1) := by decide +kernel
theorem dX4_isFamily_1 : decode cX4_isFamily 1 = .ok (.i2l, 1) := by decide +kernel
theorem dX4_isFamily_2 : decode cX4_isFamily 2 = .ok (.lconst 0, 1) := by decide +kernel
theorem dX4_isFamily_3 : decode cX4_isFamily 3 = .ok (.aload_n 0, 1) := by decide +kernel
theorem dX4_isFamily_4 : decode cX4_isFamily 4 = .ok (.getfield 87, 3) := by decide +kernel
theorem dX4_isFamily_7 : decode cX4_isFamily 7 = .ok (.iconst 1, 1) := by decide +kernel
theorem dX4_isFamily_8 : decode cX4_isFamily 8 = .ok (.isub, 1) := by decide +kernel
theorem dX4_isFamily_9 : decode cX4_isFamily 9 = .ok (.i2l, 1) := by decide +kernel
theorem dX4_isFamily_10 : decode cX4_isFamily 10 = .ok (.invokestatic 90, 3) := by decide +kernel
theorem dX4_isFamily_13 : decode cX4_isFamily 13 = .ok (.ireturn, 1) := by decide +kernel
theorem dX4_areTwo_0 : decode cX4_areTwo 0 = .ok (.aload_n 0, 1) := by decide +kernel
theorem dX4_areTwo_1 : decode cX4_areTwo 1 = .ok (.iload_n 1, 1) := by decide +kernel
theorem dX4_areTwo_2 : decode cX4_areTwo 2 = .ok (.invokevirtual 94, 3) := by decide +kernel
theorem dX4_areTwo_5 : decode cX4_areTwo 5 = .ok (.ifCond .eq 20, 3) := by decide +kernel
theorem dX4_areTwo_8 : decode cX4_areTwo 8 = .ok (.aload_n 0, 1) := by decide +kernel
theorem dX4_areTwo_9 : decode cX4_areTwo 9 = .ok (.iload_n 2, 1) := by decide +kernel
theorem dX4_areTwo_10 : decode cX4_areTwo 10 = .ok (.invokevirtual 94, 3) := by decide +kernel
theorem dX4_areTwo_13 : decode cX4_areTwo 13 = .ok (.ifCond .eq 12, 3) := by decide +kernel
theorem dX4_areTwo_16 : decode cX4_areTwo 16 = .ok (.iload_n 1, 1) := by decide +kernel
theorem dX4_areTwo_17 : decode cX4_areTwo 17 = .ok (.iload_n 2, 1) := by decide +kernel
theorem dX4_areTwo_18 : decode cX4_areTwo 18 = .ok (.if_icmp .eq 7, 3) := by decide +kernel
theorem dX4_areTwo_21 : decode cX4_areTwo 21 = .ok (.iconst 1, 1) := by decide +kernel
theorem dX4_areTwo_22 : decode cX4_areTwo 22 = .ok (.goto 4, 3) := by decide +kernel
theorem dX4_areTwo_25 : decode cX4_areTwo 25 = .ok (.iconst 0, 1) := by decide +kernel
theorem dX4_areTwo_26 : decode cX4_areTwo 26 = .ok (.ireturn, 1) := by decide +kernel
theorem dX4_family_0 : decode cX4_family 0 = .ok (.aload_n 0, 1) := by decide +kernel
theorem dX4_family_1 : decode cX4_family 1 = .ok (.iconst 0, 1) := by decide +kernel
theorem dX4_family_2 : decode cX4_family 2 = .ok (.putfield 84, 3) := by decide +kernel
theorem dX4_family_5 : decode cX4_family 5 = .ok (.aload_n 0, 1) := by decide +kernel
theorem dX4_family_6 : decode cX4_family 6 = .ok (.iconst 0, 1) := by decide +kernel
theorem dX4_family_7 : decode cX4_family 7 = .ok (.putfield 98, 3) := by decide +kernel
theorem dX4_family_10 : decode cX4_family 10 = .ok (.iload_n 1, 1) := by decide +kernel
theorem dX4_family_11 : decode cX4_family 11 = .ok (.i2l, 1) := by decide +kernel
theorem dX4_family_12 : decode cX4_family 12 = .ok (.lconst 0, 1) := by decide +kernel
theorem dX4_family_13 : decode cX4_family 13 = .ok (.ldc2_w 101, 3) := by decide +kernel
theorem dX4_family_16 : decode cX4_family 16 = .ok (.invokestatic 90, 3) := by decide +kernel
theorem dX4_family_19 : decode cX4_family 19 = .ok (.ifCond .eq 36, 3) := by decide +kernel
theorem dX4_family_22 : decode cX4_family 22 = .ok (.iload_n 2, 1) := by decide +kernel
theorem dX4_family_23 : decode cX4_family 23 = .ok (.i2l, 1) := by decide +kernel
theorem dX4_family_24 : decode cX4_family 24 = .ok (.lconst 1, 1) := by decide +kernel
theorem dX4_family_25 : decode cX4_family 25 = .ok (.ldc2_w 103, 3) := by decide +kernel
theorem dX4_family_28 : decode cX4_family 28 = .ok (.invokestatic 90, 3) := by decide +kernel
theorem dX4_family_31 : decode cX4_family 31 = .ok (.ifCond .eq 24, 3) := by decide +kernel
theorem dX4_family_34 : decode cX4_family 34 = .ok (.iload_n 3, 1) := by decide +kernel
theorem dX4_family_35 : decode cX4_family 35 = .ok (.i2l, 1) := by decide +kernel
theorem dX4_family_36 : decode cX4_family 36 = .ok (.lconst 1, 1) := by decide +kernel
theorem dX4_family_37 : decode cX4_family 37 = .ok (.ldc2_w 103, 3) := by decide +kernel
theorem dX4_family_40 : decode cX4_family 40 = .ok (.invokestatic 90, 3) := by decide +kernel
theorem dX4_family_43 : decode cX4_family 43 = .ok (.ifCond .eq 12, 3) := by decide +kernel
theorem dX4_family_46 : decode cX4_family 46 = .ok (.aload_n 0, 1) := by decide +kernel
theorem dX4_family_47 : decode cX4_family 47 = .ok (.getfield 87, 3) := by decide +kernel
theorem dX4_family_50 : decode cX4_family 50 = .ok (.bipush 10, 2) := by decide +kernel
theorem dX4_family_52 : decode cX4_family 52 = .ok (.if_icmp .ne 5, 3) := by decide +kernel
theorem dX4_family_55 : decode cX4_family 55 = .ok (.iconst (-1), 1) := by decide +kernel
theorem dX4_family_56 : decode cX4_family 56 = .ok (.ireturn, 1) := by decide +kernel
theorem dX4_family_57 : decode cX4_family 57 = .ok (.aload_n 0, 1) := by decide +kernel
theorem dX4_family_58 : decode cX4_family 58 = .ok (.getfield 87, 3) := by decide +kernel
theorem dX4_family_61 : decode cX4_family 61 = .ok (.istore 5, 2) := by decide +kernel
theorem dX4_family_63 : decode cX4_family 63 = .ok (.aload_n 0, 1) := by decide +kernel
theorem dX4_family_64 : decode cX4_family 64 = .ok (.dup, 1) := by decide +kernel
theorem dX4_family_65 : decode cX4_family 65 = .ok (.getfield 87, 3) := by decide +kernel
theorem dX4_family_68 : decode cX4_family 68 = .ok (.iconst 1, 1) := by decide +kernel
theorem dX4_family_69 : decode cX4_family 69 = .ok (.iadd, 1) := by decide +kernel
theorem dX4_family_70 : decode cX4_family 70 = .ok (.putfield 87, 3) := by decide +kernel
theorem dX4_family_73 : decode cX4_family 73 = .ok (.aload_n 0, 1) := by decide +kernel
theorem dX4_family_74 : decode cX4_family 74 = .ok (.getfield 9, 3) := by decide +kernel
theorem dX4_family_77 : decode cX4_family 77 = .ok (.iload 5, 2) := by decide +kernel
theorem dX4_family_79 : decode cX4_family 79 = .ok (.iload_n 1, 1) := by decide +kernel
theorem dX4_family_80 : decode cX4_family 80 = .ok (.iastore, 1) := by decide +kernel
theorem dX4_family_81 : decode cX4_family 81 = .ok (.aload_n 0, 1) := by decide +kernel
theorem dX4_family_82 : decode cX4_family 82 = .ok (.getfield 13, 3) := by decide +kernel
theorem dX4_family_85 : decode cX4_family 85 = .ok (.iload 5, 2) := by decide +kernel
theorem dX4_family_87 : decode cX4_family 87 = .ok (.iload_n 2, 1) := by decide +kernel
theorem dX4_family_88 : decode cX4_family 88 = .ok (.iastore, 1) := by decide +kernel
theorem dX4_family_89 : decode cX4_family 89 = .ok (.aload_n 0, 1) := by decide +kernel
theorem dX4_family_90 : decode cX4_family 90 = .ok (.getfield 16, 3) := by decide +kernel
theorem dX4_family_93 : decode cX4_family 93 = .ok (.iload 5, 2) := by decide +kernel
theorem dX4_family_95 : decode cX4_family 95 = .ok (.iload_n 3, 1) := by decide +kernel
theorem dX4_family_96 : decode cX4_family 96 = .ok (.iastore, 1) := by decide +kernel
theorem dX4_family_97 : decode cX4_family 97 = .ok (.aload_n 0, 1) := by decide +kernel
theorem dX4_family_98 : decode cX4_family 98 = .ok (.getfield 19, 3) := by decide +kernel
theorem dX4_family_101 : decode cX4_family 101 = .ok (.iload 5, 2) := by decide +kernel
theorem dX4_family_103 : decode cX4_family 103 = .ok (.iload 4, 2) := by decide +kernel
theorem dX4_family_105 : decode cX4_family 105 = .ok (.bastore, 1) := by decide +kernel
theorem dX4_family_106 : decode cX4_family 106 = .ok (.aload_n 0, 1) := by decide +kernel
theorem dX4_family_107 : decode cX4_family 107 = .ok (.getfield 23, 3) := by decide +kernel
theorem dX4_family_110 : decode cX4_family 110 = .ok (.iload 5, 2) := by decide +kernel
theorem dX4_family_112 : decode cX4_family 112 = .ok (.iconst 0, 1) := by decide +kernel
theorem dX4_family_113 : decode cX4_family 113 = .ok (.iastore, 1) := by decide +kernel
theorem dX4_family_114 : decode cX4_family 114 = .ok (.aload_n 0, 1) := by decide +kernel
theorem dX4_family_115 : decode cX4_family 115 = .ok (.getfield 26, 3) := by decide +kernel
theorem dX4_family_118 : decode cX4_family 118 = .ok (.iload 5, 2) := by decide +kernel
theorem dX4_family_120 : decode cX4_family 120 = .ok (.bipush 51, 2) := by decide +kernel
theorem dX4_family_122 : decode cX4_family 122 = .ok (.iastore, 1) := by decide +kernel
theorem dX4_family_123 : decode cX4_family 123 = .ok (.aload_n 0, 1) := by decide +kernel
theorem dX4_family_124 : decode cX4_family 124 = .ok (.getfield 29, 3) := by decide +kernel
theorem dX4_family_127 : decode cX4_family 127 = .ok (.iload 5, 2) := by decide +kernel
theorem dX4_family_129 : decode cX4_family 129 = .ok (.iconst 0, 1) := by decide +kernel
theorem dX4_family_130 : decode cX4_family 130 = .ok (.iastore, 1) := by decide +kernel
theorem dX4_family_131 : decode cX4_family 131 = .ok (.aload_n 0, 1) := by decide +kernel
theorem dX4_family_132 : decode cX4_family 132 = .ok (.getfield 32, 3) := by decide +kernel
theorem dX4_family_135 : decode cX4_family 135 = .ok (.iload 5, 2) := by decide +kernel
theorem dX4_family_137 : decode cX4_family 137 = .ok (.bipush 51, 2) := by decide +kernel
theorem dX4_family_139 : decode cX4_family 139 = .ok (.iastore, 1) := by decide +kernel
theorem dX4_family_140 : decode cX4_family 140 = .ok (.aload_n 0, 1) := by decide +kernel
theorem dX4_family_141 : decode cX4_family 141 = .ok (.getfield 38, 3) := by decide +kernel
theorem dX4_family_144 : decode cX4_family 144 = .ok (.iload 5, 2) := by decide +kernel
theorem dX4_family_146 : decode cX4_family 146 = .ok (.iconst 1, 1) := by decide +kernel
theorem dX4_family_147 : decode cX4_family 147 = .ok (.bastore, 1) := by decide +kernel
theorem dX4_family_148 : decode cX4_family 148 = .ok (.aload_n 0, 1) := by decide +kernel
theorem dX4_family_149 : decode cX4_family 149 = .ok (.getfield 50, 3) := by decide +kernel
theorem dX4_family_152 : decode cX4_family 152 = .ok (.iload 5, 2) := by decide +kernel
theorem dX4_family_154 : decode cX4_family 154 = .ok (.iconst (-1), 1) := by decide +kernel
theorem dX4_family_155 : decode cX4_family 155 = .ok (.iastore, 1) := by decide +kernel
theorem dX4_family_156 : decode cX4_family 156 = .ok (.iload 5, 2) := by decide +kernel
theorem dX4_family_158 : decode cX4_family 158 = .ok (.ireturn, 1) := by decide +kernel
theorem dX4_weeks_0 : decode cX4_weeks 0 = .ok (.aload_n 0, 1) := by decide +kernel
theorem dX4_weeks_1 : decode cX4_weeks 1 = .ok (.iconst 0, 1) := by decide +kernel
theorem dX4_weeks_2 : decode cX4_weeks 2 = .ok (.putfield 84, 3) := by decide +kernel
theorem dX4_weeks_5 : decode cX4_weeks 5 = .ok (.aload_n 0, 1) := by decide +kernel
theorem dX4_weeks_6 : decode cX4_weeks 6 = .ok (.iconst 0, 1) := by decide +kernel
theorem dX4_weeks_7 : decode cX4_weeks 7 = .ok (.putfield 98, 3) := by decide +kernel
theorem dX4_weeks_10 : decode cX4_weeks 10 = .ok (.aload_n 0, 1) := by decide +kernel
theorem dX4_weeks_11 : decode cX4_weeks 11 = .ok (.iload_n 1, 1) := by decide +kernel
theorem dX4_weeks_12 : decode cX4_weeks 12 = .ok (.invokevirtual 94, 3) := by decide +kernel
theorem dX4_weeks_15 : decode cX4_weeks 15 = .ok (.ifCond .eq 39, 3) := by decide +kernel
theorem dX4_weeks_18 : decode cX4_weeks 18 = .ok (.iload_n 2, 1) := by decide +kernel
theorem dX4_weeks_19 : decode cX4_weeks 19 = .ok (.i2l, 1) := by decide +kernel
theorem dX4_weeks_20 : decode cX4_weeks 20 = .ok (.lconst 0, 1) := by decide +kernel
theorem dX4_weeks_21 : decode cX4_weeks 21 = .ok (.lconst 1, 1) := by decide +kernel
theorem dX4_weeks_22 : decode cX4_weeks 22 = .ok (.invokestatic 90, 3) := by decide +kernel
theorem dX4_weeks_25 : decode cX4_weeks 25 = .ok (.ifCond .eq 29, 3) := by decide +kernel
theorem dX4_weeks_28 : decode cX4_weeks 28 = .ok (.iload_n 3, 1) := by decide +kernel
theorem dX4_weeks_29 : decode cX4_weeks 29 = .ok (.i2l, 1) := by decide +kernel
theorem dX4_weeks_30 : decode cX4_weeks 30 = .ok (.lconst 0, 1) := by decide +kernel
theorem dX4_weeks_31 : decode cX4_weeks 31 = .ok (.ldc2_w 105, 3) := by decide +kernel
theorem dX4_weeks_34 : decode cX4_weeks 34 = .ok (.invokestatic 90, 3) := by decide +kernel
theorem dX4_weeks_37 : decode cX4_weeks 37 = .ok (.ifCond .eq 17, 3) := by decide +kernel
theorem dX4_weeks_40 : decode cX4_weeks 40 = .ok (.iload 4, 2) := by decide +kernel
theorem dX4_weeks_42 : decode cX4_weeks 42 = .ok (.i2l, 1) := by decide +kernel
theorem dX4_weeks_43 : decode cX4_weeks 43 = .ok (.iload_n 3, 1) := by decide +kernel
theorem dX4_weeks_44 : decode cX4_weeks 44 = .ok (.i2l, 1) := by decide +kernel
theorem dX4_weeks_45 : decode cX4_weeks 45 = .ok (.ldc2_w 105, 3) := by decide +kernel
theorem dX4_weeks_48 : decode cX4_weeks 48 = .ok (.invokestatic 90, 3) := by decide +kernel
theorem dX4_weeks_51 : decode cX4_weeks 51 = .ok (.ifCond .ne 5, 3) := by decide +kernel
theorem dX4_weeks_54 : decode cX4_weeks 54 = .ok (.iconst 0, 1) := by decide +kernel
theorem dX4_weeks_55 : decode cX4_weeks 55 = .ok (.ireturn, 1) := by decide +kernel
theorem dX4_weeks_56 : decode cX4_weeks 56 = .ok (.iload_n 2, 1) := by decide +kernel
theorem dX4_weeks_57 : decode cX4_weeks 57 = .ok (.ifCond .ne 21, 3) := by decide +kernel
theorem dX4_weeks_60 : decode cX4_weeks 60 = .ok (.aload_n 0, 1) := by decide +kernel
theorem dX4_weeks_61 : decode cX4_weeks 61 = .ok (.getfield 23, 3) := by decide +kernel
theorem dX4_weeks_64 : decode cX4_weeks 64 = .ok (.iload_n 1, 1) := by decide +kernel
theorem dX4_weeks_65 : decode cX4_weeks 65 = .ok (.iload_n 3, 1) := by decide +kernel
theorem dX4_weeks_66 : decode cX4_weeks 66 = .ok (.iastore, 1) := by decide +kernel
theorem dX4_weeks_67 : decode cX4_weeks 67 = .ok (.aload_n 0, 1) := by decide +kernel
theorem dX4_weeks_68 : decode cX4_weeks 68 = .ok (.getfield 26, 3) := by decide +kernel
theorem dX4_weeks_71 : decode cX4_weeks 71 = .ok (.iload_n 1, 1) := by decide +kernel
theorem dX4_weeks_72 : decode cX4_weeks 72 = .ok (.iload 4, 2) := by decide +kernel
theorem dX4_weeks_74 : decode cX4_weeks 74 = .ok (.iastore, 1) := by decide +kernel
theorem dX4_weeks_75 : decode cX4_weeks 75 = .ok (.goto 18, 3) := by decide +kernel
theorem dX4_weeks_78 : decode cX4_weeks 78 = .ok (.aload_n 0, 1) := by decide +kernel
theorem dX4_weeks_79 : decode cX4_weeks 79 = .ok (.getfield 29, 3) := by decide +kernel
theorem dX4_weeks_82 : decode cX4_weeks 82 = .ok (.iload_n 1, 1) := by decide +kernel
theorem dX4_weeks_83 : decode cX4_weeks 83 = .ok (.iload_n 3, 1) := by decide +kernel
theorem dX4_weeks_84 : decode cX4_weeks 84 = .ok (.iastore, 1) := by decide +kernel
theorem dX4_weeks_85 : decode cX4_weeks 85 = .ok (.aload_n 0, 1) := by decide +kernel
theorem dX4_weeks_86 : decode cX4_weeks 86 = .ok (.getfield 32, 3) := by decide +kernel
theorem dX4_weeks_89 : decode cX4_weeks 89 = .ok (.iload_n 1, 1) := by decide +kernel
theorem dX4_weeks_90 : decode cX4_weeks 90 = .ok (.iload 4, 2) := by decide +kernel
theorem dX4_weeks_92 : decode cX4_weeks 92 = .ok (.iastore, 1) := by decide +kernel
theorem dX4_weeks_93 : decode cX4_weeks 93 = .ok (.iconst 1, 1) := by decide +kernel
theorem dX4_weeks_94 : decode cX4_weeks 94 = .ok (.ireturn, 1) := by decide +kernel
theorem dX4_rankOf_0 : decode cX4_rankOf 0 = .ok (.iconst 0, 1) := by decide +kernel
theorem dX4_rankOf_1 : decode cX4_rankOf 1 = .ok (.istore_n 3, 1) := by decide +kernel
theorem dX4_rankOf_2 : decode cX4_rankOf 2 = .ok (.iload_n 3, 1) := by decide +kernel
theorem dX4_rankOf_3 : decode cX4_rankOf 3 = .ok (.aload_n 0, 1) := by decide +kernel
theorem dX4_rankOf_4 : decode cX4_rankOf 4 = .ok (.getfield 41, 3) := by decide +kernel
theorem dX4_rankOf_7 : decode cX4_rankOf 7 = .ok (.iload_n 1, 1) := by decide +kernel
theorem dX4_rankOf_8 : decode cX4_rankOf 8 = .ok (.iaload, 1) := by decide +kernel
theorem dX4_rankOf_9 : decode cX4_rankOf 9 = .ok (.if_icmp .ge 28, 3) := by decide +kernel
theorem dX4_rankOf_12 : decode cX4_rankOf 12 = .ok (.aload_n 0, 1) := by decide +kernel
theorem dX4_rankOf_13 : decode cX4_rankOf 13 = .ok (.getfield 44, 3) := by decide +kernel
theorem dX4_rankOf_16 : decode cX4_rankOf 16 = .ok (.bipush 10, 2) := by decide +kernel
theorem dX4_rankOf_18 : decode cX4_rankOf 18 = .ok (.iload_n 1, 1) := by decide +kernel
theorem dX4_rankOf_19 : decode cX4_rankOf 19 = .ok (.imul, 1) := by decide +kernel
theorem dX4_rankOf_20 : decode cX4_rankOf 20 = .ok (.iload_n 3, 1) := by decide +kernel
theorem dX4_rankOf_21 : decode cX4_rankOf 21 = .ok (.iadd, 1) := by decide +kernel
theorem dX4_rankOf_22 : decode cX4_rankOf 22 = .ok (.iaload, 1) := by decide +kernel
theorem dX4_rankOf_23 : decode cX4_rankOf 23 = .ok (.iload_n 2, 1) := by decide +kernel
theorem dX4_rankOf_24 : decode cX4_rankOf 24 = .ok (.if_icmp .ne 7, 3) := by decide +kernel
theorem dX4_rankOf_27 : decode cX4_rankOf 27 = .ok (.iload_n 3, 1) := by decide +kernel
theorem dX4_rankOf_28 : decode cX4_rankOf 28 = .ok (.iconst 1, 1) := by decide +kernel
theorem dX4_rankOf_29 : decode cX4_rankOf 29 = .ok (.iadd, 1) := by decide +kernel
theorem dX4_rankOf_30 : decode cX4_rankOf 30 = .ok (.ireturn, 1) := by decide +kernel
theorem dX4_rankOf_31 : decode cX4_rankOf 31 = .ok (.iinc 3 1, 3) := by decide +kernel
theorem dX4_rankOf_34 : decode cX4_rankOf 34 = .ok (.goto (-32), 3) := by decide +kernel
theorem dX4_rankOf_37 : decode cX4_rankOf 37 = .ok (.iconst 0, 1) := by decide +kernel
theorem dX4_rankOf_38 : decode cX4_rankOf 38 = .ok (.ireturn, 1) := by decide +kernel
theorem dX4_wants_0 : decode cX4_wants 0 = .ok (.aload_n 0, 1) := by decide +kernel
theorem dX4_wants_1 : decode cX4_wants 1 = .ok (.getfield 44, 3) := by decide +kernel
theorem dX4_wants_4 : decode cX4_wants 4 = .ok (.bipush 10, 2) := by decide +kernel
theorem dX4_wants_6 : decode cX4_wants 6 = .ok (.iload_n 1, 1) := by decide +kernel
theorem dX4_wants_7 : decode cX4_wants 7 = .ok (.imul, 1) := by decide +kernel
theorem dX4_wants_8 : decode cX4_wants 8 = .ok (.aload_n 0, 1) := by decide +kernel
theorem dX4_wants_9 : decode cX4_wants 9 = .ok (.getfield 41, 3) := by decide +kernel
theorem dX4_wants_12 : decode cX4_wants 12 = .ok (.iload_n 1, 1) := by decide +kernel
theorem dX4_wants_13 : decode cX4_wants 13 = .ok (.iaload, 1) := by decide +kernel
theorem dX4_wants_14 : decode cX4_wants 14 = .ok (.iadd, 1) := by decide +kernel
theorem dX4_wants_15 : decode cX4_wants 15 = .ok (.iload_n 2, 1) := by decide +kernel
theorem dX4_wants_16 : decode cX4_wants 16 = .ok (.iastore, 1) := by decide +kernel
theorem dX4_wants_17 : decode cX4_wants 17 = .ok (.aload_n 0, 1) := by decide +kernel
theorem dX4_wants_18 : decode cX4_wants 18 = .ok (.getfield 41, 3) := by decide +kernel
theorem dX4_wants_21 : decode cX4_wants 21 = .ok (.iload_n 1, 1) := by decide +kernel
theorem dX4_wants_22 : decode cX4_wants 22 = .ok (.dup2, 1) := by decide +kernel
theorem dX4_wants_23 : decode cX4_wants 23 = .ok (.iaload, 1) := by decide +kernel
theorem dX4_wants_24 : decode cX4_wants 24 = .ok (.iconst 1, 1) := by decide +kernel
theorem dX4_wants_25 : decode cX4_wants 25 = .ok (.iadd, 1) := by decide +kernel
theorem dX4_wants_26 : decode cX4_wants 26 = .ok (.iastore, 1) := by decide +kernel
theorem dX4_wants_27 : decode cX4_wants 27 = .ok (.return_, 1) := by decide +kernel
theorem dX4_wish_0 : decode cX4_wish 0 = .ok (.aload_n 0, 1) := by decide +kernel
theorem dX4_wish_1 : decode cX4_wish 1 = .ok (.iconst 0, 1) := by decide +kernel
theorem dX4_wish_2 : decode cX4_wish 2 = .ok (.putfield 84, 3) := by decide +kernel
theorem dX4_wish_5 : decode cX4_wish 5 = .ok (.aload_n 0, 1) := by decide +kernel
theorem dX4_wish_6 : decode cX4_wish 6 = .ok (.iconst 0, 1) := by decide +kernel
theorem dX4_wish_7 : decode cX4_wish 7 = .ok (.putfield 98, 3) := by decide +kernel
theorem dX4_wish_10 : decode cX4_wish 10 = .ok (.aload_n 0, 1) := by decide +kernel
theorem dX4_wish_11 : decode cX4_wish 11 = .ok (.iload_n 1, 1) := by decide +kernel
theorem dX4_wish_12 : decode cX4_wish 12 = .ok (.iload_n 2, 1) := by decide +kernel
theorem dX4_wish_13 : decode cX4_wish 13 = .ok (.invokevirtual 107, 3) := by decide +kernel
theorem dX4_wish_16 : decode cX4_wish 16 = .ok (.ifCond .eq 12, 3) := by decide +kernel
theorem dX4_wish_19 : decode cX4_wish 19 = .ok (.aload_n 0, 1) := by decide +kernel
theorem dX4_wish_20 : decode cX4_wish 20 = .ok (.iload_n 1, 1) := by decide +kernel
theorem dX4_wish_21 : decode cX4_wish 21 = .ok (.iload_n 2, 1) := by decide +kernel
theorem dX4_wish_22 : decode cX4_wish 22 = .ok (.invokevirtual 111, 3) := by decide +kernel
theorem dX4_wish_25 : decode cX4_wish 25 = .ok (.ifCond .le 5, 3) := by decide +kernel
theorem dX4_wish_28 : decode cX4_wish 28 = .ok (.iconst (-1), 1) := by decide +kernel
theorem dX4_wish_29 : decode cX4_wish 29 = .ok (.ireturn, 1) := by decide +kernel
end
section
theorem dX4_wish_30 : decode cX4_wish 30 = .ok (.aload_n 0, 1) := by decide +kernel
theorem dX4_wish_31 : decode cX4_wish 31 = .ok (.iload_n 1, 1) := by decide +kernel
theorem dX4_wish_32 : decode cX4_wish 32 = .ok (.iload_n 2, 1) := by decide +kernel
theorem dX4_wish_33 : decode cX4_wish 33 = .ok (.invokevirtual 115, 3) := by decide +kernel
theorem dX4_wish_36 : decode cX4_wish 36 = .ok (.aload_n 0, 1) := by decide +kernel
theorem dX4_wish_37 : decode cX4_wish 37 = .ok (.getfield 41, 3) := by decide +kernel
theorem dX4_wish_40 : decode cX4_wish 40 = .ok (.iload_n 1, 1) := by decide +kernel
theorem dX4_wish_41 : decode cX4_wish 41 = .ok (.iaload, 1) := by decide +kernel
theorem dX4_wish_42 : decode cX4_wish 42 = .ok (.ireturn, 1) := by decide +kernel
theorem dX4_wishes_0 : decode cX4_wishes 0 = .ok (.aload_n 0, 1) := by decide +kernel
theorem dX4_wishes_1 : decode cX4_wishes 1 = .ok (.iconst 0, 1) := by decide +kernel
theorem dX4_wishes_2 : decode cX4_wishes 2 = .ok (.putfield 84, 3) := by decide +kernel
theorem dX4_wishes_5 : decode cX4_wishes 5 = .ok (.aload_n 0, 1) := by decide +kernel
theorem dX4_wishes_6 : decode cX4_wishes 6 = .ok (.iconst 0, 1) := by decide +kernel
theorem dX4_wishes_7 : decode cX4_wishes 7 = .ok (.putfield 98, 3) := by decide +kernel
theorem dX4_wishes_10 : decode cX4_wishes 10 = .ok (.aload_n 0, 1) := by decide +kernel
theorem dX4_wishes_11 : decode cX4_wishes 11 = .ok (.iload_n 1, 1) := by decide +kernel
theorem dX4_wishes_12 : decode cX4_wishes 12 = .ok (.invokevirtual 94, 3) := by decide +kernel
theorem dX4_wishes_15 : decode cX4_wishes 15 = .ok (.ifCond .eq 21, 3) := by decide +kernel
theorem dX4_wishes_18 : decode cX4_wishes 18 = .ok (.iload_n 2, 1) := by decide +kernel
theorem dX4_wishes_19 : decode cX4_wishes 19 = .ok (.i2l, 1) := by decide +kernel
theorem dX4_wishes_20 : decode cX4_wishes 20 = .ok (.lconst 0, 1) := by decide +kernel
theorem dX4_wishes_21 : decode cX4_wishes 21 = .ok (.ldc2_w 119, 3) := by decide +kernel
theorem dX4_wishes_24 : decode cX4_wishes 24 = .ok (.invokestatic 90, 3) := by decide +kernel
theorem dX4_wishes_27 : decode cX4_wishes 27 = .ok (.ifCond .eq 9, 3) := by decide +kernel
theorem dX4_wishes_30 : decode cX4_wishes 30 = .ok (.iload_n 3, 1) := by decide +kernel
theorem dX4_wishes_31 : decode cX4_wishes 31 = .ok (.bipush 20, 2) := by decide +kernel
theorem dX4_wishes_33 : decode cX4_wishes 33 = .ok (.if_icmp .le 5, 3) := by decide +kernel
theorem dX4_wishes_36 : decode cX4_wishes 36 = .ok (.iconst (-1), 1) := by decide +kernel
theorem dX4_wishes_37 : decode cX4_wishes 37 = .ok (.ireturn, 1) := by decide +kernel
theorem dX4_wishes_38 : decode cX4_wishes 38 = .ok (.iload_n 3, 1) := by decide +kernel
theorem dX4_wishes_39 : decode cX4_wishes 39 = .ok (.ifCond .ge 11, 3) := by decide +kernel
theorem dX4_wishes_42 : decode cX4_wishes 42 = .ok (.iload_n 2, 1) := by decide +kernel
theorem dX4_wishes_43 : decode cX4_wishes 43 = .ok (.iconst 2, 1) := by decide +kernel
theorem dX4_wishes_44 : decode cX4_wishes 44 = .ok (.if_icmp .eq 6, 3) := by decide +kernel
theorem dX4_wishes_47 : decode cX4_wishes 47 = .ok (.bipush (-2), 2) := by decide +kernel
theorem dX4_wishes_49 : decode cX4_wishes 49 = .ok (.ireturn, 1) := by decide +kernel
theorem dX4_wishes_50 : decode cX4_wishes 50 = .ok (.aload_n 0, 1) := by decide +kernel
theorem dX4_wishes_51 : decode cX4_wishes 51 = .ok (.getfield 41, 3) := by decide +kernel
theorem dX4_wishes_54 : decode cX4_wishes 54 = .ok (.iload_n 1, 1) := by decide +kernel
theorem dX4_wishes_55 : decode cX4_wishes 55 = .ok (.iconst 0, 1) := by decide +kernel
theorem dX4_wishes_56 : decode cX4_wishes 56 = .ok (.iastore, 1) := by decide +kernel
theorem dX4_wishes_57 : decode cX4_wishes 57 = .ok (.iconst 0, 1) := by decide +kernel
theorem dX4_wishes_58 : decode cX4_wishes 58 = .ok (.istore 6, 2) := by decide +kernel
theorem dX4_wishes_60 : decode cX4_wishes 60 = .ok (.iload 6, 2) := by decide +kernel
theorem dX4_wishes_62 : decode cX4_wishes 62 = .ok (.iload_n 3, 1) := by decide +kernel
theorem dX4_wishes_63 : decode cX4_wishes 63 = .ok (.if_icmp .ge 72, 3) := by decide +kernel
theorem dX4_wishes_66 : decode cX4_wishes 66 = .ok (.iload_n 2, 1) := by decide +kernel
theorem dX4_wishes_67 : decode cX4_wishes 67 = .ok (.iconst 2, 1) := by decide +kernel
theorem dX4_wishes_68 : decode cX4_wishes 68 = .ok (.if_icmp .eq 67, 3) := by decide +kernel
theorem dX4_wishes_71 : decode cX4_wishes 71 = .ok (.iload 4, 2) := by decide +kernel
theorem dX4_wishes_73 : decode cX4_wishes 73 = .ok (.iload 6, 2) := by decide +kernel
theorem dX4_wishes_75 : decode cX4_wishes 75 = .ok (.iload 5, 2) := by decide +kernel
theorem dX4_wishes_77 : decode cX4_wishes 77 = .ok (.imul, 1) := by decide +kernel
theorem dX4_wishes_78 : decode cX4_wishes 78 = .ok (.iadd, 1) := by decide +kernel
theorem dX4_wishes_79 : decode cX4_wishes 79 = .ok (.istore 7, 2) := by decide +kernel
theorem dX4_wishes_81 : decode cX4_wishes 81 = .ok (.iload_n 2, 1) := by decide +kernel
theorem dX4_wishes_82 : decode cX4_wishes 82 = .ok (.ifCond .ne 9, 3) := by decide +kernel
theorem dX4_wishes_85 : decode cX4_wishes 85 = .ok (.iload 7, 2) := by decide +kernel
theorem dX4_wishes_87 : decode cX4_wishes 87 = .ok (.i2b, 1) := by decide +kernel
theorem dX4_wishes_88 : decode cX4_wishes 88 = .ok (.goto 5, 3) := by decide +kernel
theorem dX4_wishes_91 : decode cX4_wishes 91 = .ok (.iload 7, 2) := by decide +kernel
theorem dX4_wishes_93 : decode cX4_wishes 93 = .ok (.istore 7, 2) := by decide +kernel
theorem dX4_wishes_95 : decode cX4_wishes 95 = .ok (.aload_n 0, 1) := by decide +kernel
theorem dX4_wishes_96 : decode cX4_wishes 96 = .ok (.iload_n 1, 1) := by decide +kernel
theorem dX4_wishes_97 : decode cX4_wishes 97 = .ok (.iload 7, 2) := by decide +kernel
theorem dX4_wishes_99 : decode cX4_wishes 99 = .ok (.invokevirtual 107, 3) := by decide +kernel
theorem dX4_wishes_102 : decode cX4_wishes 102 = .ok (.ifCond .eq 13, 3) := by decide +kernel
theorem dX4_wishes_105 : decode cX4_wishes 105 = .ok (.aload_n 0, 1) := by decide +kernel
theorem dX4_wishes_106 : decode cX4_wishes 106 = .ok (.iload_n 1, 1) := by decide +kernel
theorem dX4_wishes_107 : decode cX4_wishes 107 = .ok (.iload 7, 2) := by decide +kernel
theorem dX4_wishes_109 : decode cX4_wishes 109 = .ok (.invokevirtual 111, 3) := by decide +kernel
theorem dX4_wishes_112 : decode cX4_wishes 112 = .ok (.ifCond .le 10, 3) := by decide +kernel
theorem dX4_wishes_115 : decode cX4_wishes 115 = .ok (.aload_n 0, 1) := by decide +kernel
theorem dX4_wishes_116 : decode cX4_wishes 116 = .ok (.getfield 41, 3) := by decide +kernel
theorem dX4_wishes_119 : decode cX4_wishes 119 = .ok (.iload_n 1, 1) := by decide +kernel
theorem dX4_wishes_120 : decode cX4_wishes 120 = .ok (.iaload, 1) := by decide +kernel
theorem dX4_wishes_121 : decode cX4_wishes 121 = .ok (.ireturn, 1) := by decide +kernel
theorem dX4_wishes_122 : decode cX4_wishes 122 = .ok (.aload_n 0, 1) := by decide +kernel
theorem dX4_wishes_123 : decode cX4_wishes 123 = .ok (.iload_n 1, 1) := by decide +kernel
theorem dX4_wishes_124 : decode cX4_wishes 124 = .ok (.iload 7, 2) := by decide +kernel
theorem dX4_wishes_126 : decode cX4_wishes 126 = .ok (.invokevirtual 115, 3) := by decide +kernel
theorem dX4_wishes_129 : decode cX4_wishes 129 = .ok (.iinc 6 1, 3) := by decide +kernel
theorem dX4_wishes_132 : decode cX4_wishes 132 = .ok (.goto (-72), 3) := by decide +kernel
theorem dX4_wishes_135 : decode cX4_wishes 135 = .ok (.aload_n 0, 1) := by decide +kernel
theorem dX4_wishes_136 : decode cX4_wishes 136 = .ok (.getfield 41, 3) := by decide +kernel
theorem dX4_wishes_139 : decode cX4_wishes 139 = .ok (.iload_n 1, 1) := by decide +kernel
theorem dX4_wishes_140 : decode cX4_wishes 140 = .ok (.iaload, 1) := by decide +kernel
theorem dX4_wishes_141 : decode cX4_wishes 141 = .ok (.ireturn, 1) := by decide +kernel
theorem dX4_bar_0 : decode cX4_bar 0 = .ok (.aload_n 0, 1) := by decide +kernel
theorem dX4_bar_1 : decode cX4_bar 1 = .ok (.iconst 0, 1) := by decide +kernel
theorem dX4_bar_2 : decode cX4_bar 2 = .ok (.putfield 84, 3) := by decide +kernel
theorem dX4_bar_5 : decode cX4_bar 5 = .ok (.aload_n 0, 1) := by decide +kernel
theorem dX4_bar_6 : decode cX4_bar 6 = .ok (.iconst 0, 1) := by decide +kernel
theorem dX4_bar_7 : decode cX4_bar 7 = .ok (.putfield 98, 3) := by decide +kernel
theorem dX4_bar_10 : decode cX4_bar 10 = .ok (.aload_n 0, 1) := by decide +kernel
theorem dX4_bar_11 : decode cX4_bar 11 = .ok (.iload_n 1, 1) := by decide +kernel
theorem dX4_bar_12 : decode cX4_bar 12 = .ok (.iload_n 2, 1) := by decide +kernel
theorem dX4_bar_13 : decode cX4_bar 13 = .ok (.invokevirtual 107, 3) := by decide +kernel
theorem dX4_bar_16 : decode cX4_bar 16 = .ok (.ifCond .ne 5, 3) := by decide +kernel
theorem dX4_bar_19 : decode cX4_bar 19 = .ok (.iconst 0, 1) := by decide +kernel
theorem dX4_bar_20 : decode cX4_bar 20 = .ok (.ireturn, 1) := by decide +kernel
theorem dX4_bar_21 : decode cX4_bar 21 = .ok (.aload_n 0, 1) := by decide +kernel
theorem dX4_bar_22 : decode cX4_bar 22 = .ok (.getfield 47, 3) := by decide +kernel
theorem dX4_bar_25 : decode cX4_bar 25 = .ok (.bipush 10, 2) := by decide +kernel
theorem dX4_bar_27 : decode cX4_bar 27 = .ok (.iload_n 1, 1) := by decide +kernel
theorem dX4_bar_28 : decode cX4_bar 28 = .ok (.imul, 1) := by decide +kernel
theorem dX4_bar_29 : decode cX4_bar 29 = .ok (.iload_n 2, 1) := by decide +kernel
theorem dX4_bar_30 : decode cX4_bar 30 = .ok (.iadd, 1) := by decide +kernel
theorem dX4_bar_31 : decode cX4_bar 31 = .ok (.iload_n 3, 1) := by decide +kernel
theorem dX4_bar_32 : decode cX4_bar 32 = .ok (.bastore, 1) := by decide +kernel
theorem dX4_bar_33 : decode cX4_bar 33 = .ok (.aload_n 0, 1) := by decide +kernel
theorem dX4_bar_34 : decode cX4_bar 34 = .ok (.getfield 47, 3) := by decide +kernel
theorem dX4_bar_37 : decode cX4_bar 37 = .ok (.bipush 10, 2) := by decide +kernel
theorem dX4_bar_39 : decode cX4_bar 39 = .ok (.iload_n 2, 1) := by decide +kernel
theorem dX4_bar_40 : decode cX4_bar 40 = .ok (.imul, 1) := by decide +kernel
theorem dX4_bar_41 : decode cX4_bar 41 = .ok (.iload_n 1, 1) := by decide +kernel
theorem dX4_bar_42 : decode cX4_bar 42 = .ok (.iadd, 1) := by decide +kernel
theorem dX4_bar_43 : decode cX4_bar 43 = .ok (.iload_n 3, 1) := by decide +kernel
theorem dX4_bar_44 : decode cX4_bar 44 = .ok (.bastore, 1) := by decide +kernel
theorem dX4_bar_45 : decode cX4_bar 45 = .ok (.iconst 1, 1) := by decide +kernel
theorem dX4_bar_46 : decode cX4_bar 46 = .ok (.ireturn, 1) := by decide +kernel
theorem dX4_in_0 : decode cX4_in 0 = .ok (.aload_n 0, 1) := by decide +kernel
theorem dX4_in_1 : decode cX4_in 1 = .ok (.iconst 0, 1) := by decide +kernel
theorem dX4_in_2 : decode cX4_in 2 = .ok (.putfield 84, 3) := by decide +kernel
theorem dX4_in_5 : decode cX4_in 5 = .ok (.aload_n 0, 1) := by decide +kernel
theorem dX4_in_6 : decode cX4_in 6 = .ok (.iconst 0, 1) := by decide +kernel
theorem dX4_in_7 : decode cX4_in 7 = .ok (.putfield 98, 3) := by decide +kernel
theorem dX4_in_10 : decode cX4_in 10 = .ok (.aload_n 0, 1) := by decide +kernel
theorem dX4_in_11 : decode cX4_in 11 = .ok (.iload_n 1, 1) := by decide +kernel
theorem dX4_in_12 : decode cX4_in 12 = .ok (.invokevirtual 94, 3) := by decide +kernel
theorem dX4_in_15 : decode cX4_in 15 = .ok (.ifCond .ne 5, 3) := by decide +kernel
theorem dX4_in_18 : decode cX4_in 18 = .ok (.iconst 0, 1) := by decide +kernel
theorem dX4_in_19 : decode cX4_in 19 = .ok (.ireturn, 1) := by decide +kernel
theorem dX4_in_20 : decode cX4_in 20 = .ok (.aload_n 0, 1) := by decide +kernel
theorem dX4_in_21 : decode cX4_in 21 = .ok (.getfield 38, 3) := by decide +kernel
theorem dX4_in_24 : decode cX4_in 24 = .ok (.iload_n 1, 1) := by decide +kernel
theorem dX4_in_25 : decode cX4_in 25 = .ok (.iload_n 2, 1) := by decide +kernel
theorem dX4_in_26 : decode cX4_in 26 = .ok (.bastore, 1) := by decide +kernel
theorem dX4_in_27 : decode cX4_in 27 = .ok (.iconst 1, 1) := by decide +kernel
theorem dX4_in_28 : decode cX4_in 28 = .ok (.ireturn, 1) := by decide +kernel
theorem dX4_set_0 : decode cX4_set 0 = .ok (.aload_n 0, 1) := by decide +kernel
theorem dX4_set_1 : decode cX4_set 1 = .ok (.iconst 0, 1) := by decide +kernel
theorem dX4_set_2 : decode cX4_set 2 = .ok (.putfield 84, 3) := by decide +kernel
theorem dX4_set_5 : decode cX4_set 5 = .ok (.aload_n 0, 1) := by decide +kernel
theorem dX4_set_6 : decode cX4_set 6 = .ok (.iconst 0, 1) := by decide +kernel
theorem dX4_set_7 : decode cX4_set 7 = .ok (.putfield 98, 3) := by decide +kernel
theorem dX4_set_10 : decode cX4_set 10 = .ok (.iload_n 1, 1) := by decide +kernel
theorem dX4_set_11 : decode cX4_set 11 = .ok (.ifCond .ne 10, 3) := by decide +kernel
theorem dX4_set_14 : decode cX4_set 14 = .ok (.aload_n 0, 1) := by decide +kernel
theorem dX4_set_15 : decode cX4_set 15 = .ok (.getfield 53, 3) := by decide +kernel
theorem dX4_set_18 : decode cX4_set 18 = .ok (.goto 19, 3) := by decide +kernel
theorem dX4_set_21 : decode cX4_set 21 = .ok (.iload_n 1, 1) := by decide +kernel
theorem dX4_set_22 : decode cX4_set 22 = .ok (.iconst 1, 1) := by decide +kernel
theorem dX4_set_23 : decode cX4_set 23 = .ok (.if_icmp .ne 10, 3) := by decide +kernel
theorem dX4_set_26 : decode cX4_set 26 = .ok (.aload_n 0, 1) := by decide +kernel
theorem dX4_set_27 : decode cX4_set 27 = .ok (.getfield 57, 3) := by decide +kernel
theorem dX4_set_30 : decode cX4_set 30 = .ok (.goto 7, 3) := by decide +kernel
theorem dX4_set_33 : decode cX4_set 33 = .ok (.aload_n 0, 1) := by decide +kernel
theorem dX4_set_34 : decode cX4_set 34 = .ok (.getfield 121, 3) := by decide +kernel
theorem dX4_set_37 : decode cX4_set 37 = .ok (.istore_n 3, 1) := by decide +kernel
theorem dX4_set_38 : decode cX4_set 38 = .ok (.iload_n 1, 1) := by decide +kernel
theorem dX4_set_39 : decode cX4_set 39 = .ok (.ifCond .ne 23, 3) := by decide +kernel
theorem dX4_set_42 : decode cX4_set 42 = .ok (.iload_n 2, 1) := by decide +kernel
theorem dX4_set_43 : decode cX4_set 43 = .ok (.i2l, 1) := by decide +kernel
theorem dX4_set_44 : decode cX4_set 44 = .ok (.lconst 1, 1) := by decide +kernel
theorem dX4_set_45 : decode cX4_set 45 = .ok (.ldc2_w 124, 3) := by decide +kernel
theorem dX4_set_48 : decode cX4_set 48 = .ok (.invokestatic 90, 3) := by decide +kernel
theorem dX4_set_51 : decode cX4_set 51 = .ok (.ifCond .eq 11, 3) := by decide +kernel
theorem dX4_set_54 : decode cX4_set 54 = .ok (.aload_n 0, 1) := by decide +kernel
theorem dX4_set_55 : decode cX4_set 55 = .ok (.iload_n 2, 1) := by decide +kernel
theorem dX4_set_56 : decode cX4_set 56 = .ok (.putfield 53, 3) := by decide +kernel
theorem dX4_set_59 : decode cX4_set 59 = .ok (.goto 57, 3) := by decide +kernel
theorem dX4_set_62 : decode cX4_set 62 = .ok (.iload_n 1, 1) := by decide +kernel
theorem dX4_set_63 : decode cX4_set 63 = .ok (.iconst 1, 1) := by decide +kernel
theorem dX4_set_64 : decode cX4_set 64 = .ok (.if_icmp .ne 25, 3) := by decide +kernel
theorem dX4_set_67 : decode cX4_set 67 = .ok (.iload_n 2, 1) := by decide +kernel
theorem dX4_set_68 : decode cX4_set 68 = .ok (.i2l, 1) := by decide +kernel
theorem dX4_set_69 : decode cX4_set 69 = .ok (.ldc2_w 119, 3) := by decide +kernel
theorem dX4_set_72 : decode cX4_set 72 = .ok (.ldc2_w 126, 3) := by decide +kernel
theorem dX4_set_75 : decode cX4_set 75 = .ok (.invokestatic 90, 3) := by decide +kernel
theorem dX4_set_78 : decode cX4_set 78 = .ok (.ifCond .eq 11, 3) := by decide +kernel
theorem dX4_set_81 : decode cX4_set 81 = .ok (.aload_n 0, 1) := by decide +kernel
theorem dX4_set_82 : decode cX4_set 82 = .ok (.iload_n 2, 1) := by decide +kernel
theorem dX4_set_83 : decode cX4_set 83 = .ok (.putfield 57, 3) := by decide +kernel
theorem dX4_set_86 : decode cX4_set 86 = .ok (.goto 30, 3) := by decide +kernel
theorem dX4_set_89 : decode cX4_set 89 = .ok (.iload_n 1, 1) := by decide +kernel
theorem dX4_set_90 : decode cX4_set 90 = .ok (.iconst 2, 1) := by decide +kernel
theorem dX4_set_91 : decode cX4_set 91 = .ok (.if_icmp .ne 23, 3) := by decide +kernel
theorem dX4_set_94 : decode cX4_set 94 = .ok (.iload_n 2, 1) := by decide +kernel
theorem dX4_set_95 : decode cX4_set 95 = .ok (.i2l, 1) := by decide +kernel
theorem dX4_set_96 : decode cX4_set 96 = .ok (.lconst 0, 1) := by decide +kernel
theorem dX4_set_97 : decode cX4_set 97 = .ok (.ldc2_w 128, 3) := by decide +kernel
theorem dX4_set_100 : decode cX4_set 100 = .ok (.invokestatic 90, 3) := by decide +kernel
theorem dX4_set_103 : decode cX4_set 103 = .ok (.ifCond .eq 11, 3) := by decide +kernel
theorem dX4_set_106 : decode cX4_set 106 = .ok (.aload_n 0, 1) := by decide +kernel
theorem dX4_set_107 : decode cX4_set 107 = .ok (.iload_n 2, 1) := by decide +kernel
theorem dX4_set_108 : decode cX4_set 108 = .ok (.putfield 121, 3) := by decide +kernel
theorem dX4_set_111 : decode cX4_set 111 = .ok (.goto 5, 3) := by decide +kernel
theorem dX4_set_114 : decode cX4_set 114 = .ok (.iconst (-1), 1) := by decide +kernel
theorem dX4_set_115 : decode cX4_set 115 = .ok (.ireturn, 1) := by decide +kernel
theorem dX4_set_116 : decode cX4_set 116 = .ok (.iload_n 3, 1) := by decide +kernel
theorem dX4_set_117 : decode cX4_set 117 = .ok (.ireturn, 1) := by decide +kernel
theorem dX4_sleeps_0 : decode cX4_sleeps 0 = .ok (.aload_n 0, 1) := by decide +kernel
theorem dX4_sleeps_1 : decode cX4_sleeps 1 = .ok (.getfield 13, 3) := by decide +kernel
theorem dX4_sleeps_4 : decode cX4_sleeps 4 = .ok (.iload_n 1, 1) := by decide +kernel
theorem dX4_sleeps_5 : decode cX4_sleeps 5 = .ok (.iaload, 1) := by decide +kernel
theorem dX4_sleeps_6 : decode cX4_sleeps 6 = .ok (.aload_n 0, 1) := by decide +kernel
theorem dX4_sleeps_7 : decode cX4_sleeps 7 = .ok (.getfield 9, 3) := by decide +kernel
theorem dX4_sleeps_10 : decode cX4_sleeps 10 = .ok (.iload_n 1, 1) := by decide +kernel
theorem dX4_sleeps_11 : decode cX4_sleeps 11 = .ok (.iaload, 1) := by decide +kernel
theorem dX4_sleeps_12 : decode cX4_sleeps 12 = .ok (.iconst 2, 1) := by decide +kernel
theorem dX4_sleeps_13 : decode cX4_sleeps 13 = .ok (.irem, 1) := by decide +kernel
theorem dX4_sleeps_14 : decode cX4_sleeps 14 = .ok (.isub, 1) := by decide +kernel
theorem dX4_sleeps_15 : decode cX4_sleeps 15 = .ok (.ireturn, 1) := by decide +kernel
theorem dX4_worth_0 : decode cX4_worth 0 = .ok (.bipush 10, 2) := by decide +kernel
theorem dX4_worth_2 : decode cX4_worth 2 = .ok (.aload_n 0, 1) := by decide +kernel
theorem dX4_worth_3 : decode cX4_worth 3 = .ok (.iload_n 1, 1) := by decide +kernel
theorem dX4_worth_4 : decode cX4_worth 4 = .ok (.invokevirtual 130, 3) := by decide +kernel
theorem dX4_worth_7 : decode cX4_worth 7 = .ok (.imul, 1) := by decide +kernel
theorem dX4_worth_8 : decode cX4_worth 8 = .ok (.aload_n 0, 1) := by decide +kernel
theorem dX4_worth_9 : decode cX4_worth 9 = .ok (.getfield 9, 3) := by decide +kernel
theorem dX4_worth_12 : decode cX4_worth 12 = .ok (.iload_n 1, 1) := by decide +kernel
theorem dX4_worth_13 : decode cX4_worth 13 = .ok (.iaload, 1) := by decide +kernel
theorem dX4_worth_14 : decode cX4_worth 14 = .ok (.iconst 2, 1) := by decide +kernel
theorem dX4_worth_15 : decode cX4_worth 15 = .ok (.if_icmp .ne 7, 3) := by decide +kernel
theorem dX4_worth_18 : decode cX4_worth 18 = .ok (.iconst 5, 1) := by decide +kernel
theorem dX4_worth_19 : decode cX4_worth 19 = .ok (.goto 19, 3) := by decide +kernel
theorem dX4_worth_22 : decode cX4_worth 22 = .ok (.aload_n 0, 1) := by decide +kernel
theorem dX4_worth_23 : decode cX4_worth 23 = .ok (.getfield 9, 3) := by decide +kernel
theorem dX4_worth_26 : decode cX4_worth 26 = .ok (.iload_n 1, 1) := by decide +kernel
theorem dX4_worth_27 : decode cX4_worth 27 = .ok (.iaload, 1) := by decide +kernel
theorem dX4_worth_28 : decode cX4_worth 28 = .ok (.iconst 3, 1) := by decide +kernel
theorem dX4_worth_29 : decode cX4_worth 29 = .ok (.if_icmp .ne 8, 3) := by decide +kernel
theorem dX4_worth_32 : decode cX4_worth 32 = .ok (.bipush 15, 2) := by decide +kernel
theorem dX4_worth_34 : decode cX4_worth 34 = .ok (.goto 4, 3) := by decide +kernel
theorem dX4_worth_37 : decode cX4_worth 37 = .ok (.iconst 0, 1) := by decide +kernel
theorem dX4_worth_38 : decode cX4_worth 38 = .ok (.iadd, 1) := by decide +kernel
theorem dX4_worth_39 : decode cX4_worth 39 = .ok (.ireturn, 1) := by decide +kernel
theorem dX4_barrier_0 : decode cX4_barrier 0 = .ok (.aload_n 0, 1) := by decide +kernel
theorem dX4_barrier_1 : decode cX4_barrier 1 = .ok (.getfield 38, 3) := by decide +kernel
theorem dX4_barrier_4 : decode cX4_barrier 4 = .ok (.iload_n 1, 1) := by decide +kernel
theorem dX4_barrier_5 : decode cX4_barrier 5 = .ok (.baload, 1) := by decide +kernel
theorem dX4_barrier_6 : decode cX4_barrier 6 = .ok (.ifCond .eq 12, 3) := by decide +kernel
theorem dX4_barrier_9 : decode cX4_barrier 9 = .ok (.aload_n 0, 1) := by decide +kernel
theorem dX4_barrier_10 : decode cX4_barrier 10 = .ok (.getfield 38, 3) := by decide +kernel
theorem dX4_barrier_13 : decode cX4_barrier 13 = .ok (.iload_n 2, 1) := by decide +kernel
theorem dX4_barrier_14 : decode cX4_barrier 14 = .ok (.baload, 1) := by decide +kernel
theorem dX4_barrier_15 : decode cX4_barrier 15 = .ok (.ifCond .ne 5, 3) := by decide +kernel
theorem dX4_barrier_18 : decode cX4_barrier 18 = .ok (.iconst 1, 1) := by decide +kernel
theorem dX4_barrier_19 : decode cX4_barrier 19 = .ok (.ireturn, 1) := by decide +kernel
theorem dX4_barrier_20 : decode cX4_barrier 20 = .ok (.aload_n 0, 1) := by decide +kernel
theorem dX4_barrier_21 : decode cX4_barrier 21 = .ok (.getfield 47, 3) := by decide +kernel
theorem dX4_barrier_24 : decode cX4_barrier 24 = .ok (.bipush 10, 2) := by decide +kernel
theorem dX4_barrier_26 : decode cX4_barrier 26 = .ok (.iload_n 1, 1) := by decide +kernel
theorem dX4_barrier_27 : decode cX4_barrier 27 = .ok (.imul, 1) := by decide +kernel
theorem dX4_barrier_28 : decode cX4_barrier 28 = .ok (.iload_n 2, 1) := by decide +kernel
theorem dX4_barrier_29 : decode cX4_barrier 29 = .ok (.iadd, 1) := by decide +kernel
theorem dX4_barrier_30 : decode cX4_barrier 30 = .ok (.baload, 1) := by decide +kernel
theorem dX4_barrier_31 : decode cX4_barrier 31 = .ok (.ifCond .eq 5, 3) := by decide +kernel
theorem dX4_barrier_34 : decode cX4_barrier 34 = .ok (.iconst 2, 1) := by decide +kernel
theorem dX4_barrier_35 : decode cX4_barrier 35 = .ok (.ireturn, 1) := by decide +kernel
theorem dX4_barrier_36 : decode cX4_barrier 36 = .ok (.aload_n 0, 1) := by decide +kernel
theorem dX4_barrier_37 : decode cX4_barrier 37 = .ok (.getfield 16, 3) := by decide +kernel
theorem dX4_barrier_40 : decode cX4_barrier 40 = .ok (.iload_n 1, 1) := by decide +kernel
theorem dX4_barrier_41 : decode cX4_barrier 41 = .ok (.iaload, 1) := by decide +kernel
theorem dX4_barrier_42 : decode cX4_barrier 42 = .ok (.aload_n 0, 1) := by decide +kernel
theorem dX4_barrier_43 : decode cX4_barrier 43 = .ok (.iload_n 2, 1) := by decide +kernel
theorem dX4_barrier_44 : decode cX4_barrier 44 = .ok (.invokevirtual 130, 3) := by decide +kernel
theorem dX4_barrier_47 : decode cX4_barrier 47 = .ok (.if_icmp .le 5, 3) := by decide +kernel
theorem dX4_barrier_50 : decode cX4_barrier 50 = .ok (.iconst 3, 1) := by decide +kernel
theorem dX4_barrier_51 : decode cX4_barrier 51 = .ok (.ireturn, 1) := by decide +kernel
theorem dX4_barrier_52 : decode cX4_barrier 52 = .ok (.aload_n 0, 1) := by decide +kernel
theorem dX4_barrier_53 : decode cX4_barrier 53 = .ok (.getfield 19, 3) := by decide +kernel
theorem dX4_barrier_56 : decode cX4_barrier 56 = .ok (.iload_n 1, 1) := by decide +kernel
theorem dX4_barrier_57 : decode cX4_barrier 57 = .ok (.baload, 1) := by decide +kernel
theorem dX4_barrier_58 : decode cX4_barrier 58 = .ok (.ifCond .eq 15, 3) := by decide +kernel
theorem dX4_barrier_61 : decode cX4_barrier 61 = .ok (.aload_n 0, 1) := by decide +kernel
theorem dX4_barrier_62 : decode cX4_barrier 62 = .ok (.getfield 9, 3) := by decide +kernel
theorem dX4_barrier_65 : decode cX4_barrier 65 = .ok (.iload_n 2, 1) := by decide +kernel
theorem dX4_barrier_66 : decode cX4_barrier 66 = .ok (.iaload, 1) := by decide +kernel
theorem dX4_barrier_67 : decode cX4_barrier 67 = .ok (.iconst 2, 1) := by decide +kernel
theorem dX4_barrier_68 : decode cX4_barrier 68 = .ok (.if_icmp .ge 5, 3) := by decide +kernel
theorem dX4_barrier_71 : decode cX4_barrier 71 = .ok (.iconst 4, 1) := by decide +kernel
theorem dX4_barrier_72 : decode cX4_barrier 72 = .ok (.ireturn, 1) := by decide +kernel
theorem dX4_barrier_73 : decode cX4_barrier 73 = .ok (.aload_n 0, 1) := by decide +kernel
theorem dX4_barrier_74 : decode cX4_barrier 74 = .ok (.getfield 32, 3) := by decide +kernel
theorem dX4_barrier_77 : decode cX4_barrier 77 = .ok (.iload_n 1, 1) := by decide +kernel
theorem dX4_barrier_78 : decode cX4_barrier 78 = .ok (.iaload, 1) := by decide +kernel
theorem dX4_barrier_79 : decode cX4_barrier 79 = .ok (.aload_n 0, 1) := by decide +kernel
theorem dX4_barrier_80 : decode cX4_barrier 80 = .ok (.getfield 26, 3) := by decide +kernel
theorem dX4_barrier_83 : decode cX4_barrier 83 = .ok (.iload_n 2, 1) := by decide +kernel
theorem dX4_barrier_84 : decode cX4_barrier 84 = .ok (.iaload, 1) := by decide +kernel
theorem dX4_barrier_85 : decode cX4_barrier 85 = .ok (.invokestatic 134, 3) := by decide +kernel
theorem dX4_barrier_88 : decode cX4_barrier 88 = .ok (.aload_n 0, 1) := by decide +kernel
theorem dX4_barrier_89 : decode cX4_barrier 89 = .ok (.getfield 29, 3) := by decide +kernel
theorem dX4_barrier_92 : decode cX4_barrier 92 = .ok (.iload_n 1, 1) := by decide +kernel
theorem dX4_barrier_93 : decode cX4_barrier 93 = .ok (.iaload, 1) := by decide +kernel
theorem dX4_barrier_94 : decode cX4_barrier 94 = .ok (.aload_n 0, 1) := by decide +kernel
theorem dX4_barrier_95 : decode cX4_barrier 95 = .ok (.getfield 23, 3) := by decide +kernel
theorem dX4_barrier_98 : decode cX4_barrier 98 = .ok (.iload_n 2, 1) := by decide +kernel
theorem dX4_barrier_99 : decode cX4_barrier 99 = .ok (.iaload, 1) := by decide +kernel
theorem dX4_barrier_100 : decode cX4_barrier 100 = .ok (.invokestatic 139, 3) := by decide +kernel
theorem dX4_barrier_103 : decode cX4_barrier 103 = .ok (.isub, 1) := by decide +kernel
theorem dX4_barrier_104 : decode cX4_barrier 104 = .ok (.iconst 1, 1) := by decide +kernel
theorem dX4_barrier_105 : decode cX4_barrier 105 = .ok (.iadd, 1) := by decide +kernel
theorem dX4_barrier_106 : decode cX4_barrier 106 = .ok (.istore_n 3, 1) := by decide +kernel
theorem dX4_barrier_107 : decode cX4_barrier 107 = .ok (.iload_n 3, 1) := by decide +kernel
theorem dX4_barrier_108 : decode cX4_barrier 108 = .ok (.aload_n 0, 1) := by decide +kernel
theorem dX4_barrier_109 : decode cX4_barrier 109 = .ok (.getfield 53, 3) := by decide +kernel
theorem dX4_barrier_112 : decode cX4_barrier 112 = .ok (.if_icmp .ge 7, 3) := by decide +kernel
theorem dX4_barrier_115 : decode cX4_barrier 115 = .ok (.iconst 5, 1) := by decide +kernel
theorem dX4_barrier_116 : decode cX4_barrier 116 = .ok (.goto 4, 3) := by decide +kernel
theorem dX4_barrier_119 : decode cX4_barrier 119 = .ok (.iconst 0, 1) := by decide +kernel
theorem dX4_barrier_120 : decode cX4_barrier 120 = .ok (.ireturn, 1) := by decide +kernel
theorem dX4_takes_0 : decode cX4_takes 0 = .ok (.aload_n 0, 1) := by decide +kernel
theorem dX4_takes_1 : decode cX4_takes 1 = .ok (.iload_n 1, 1) := by decide +kernel
theorem dX4_takes_2 : decode cX4_takes 2 = .ok (.iload_n 2, 1) := by decide +kernel
theorem dX4_takes_3 : decode cX4_takes 3 = .ok (.invokevirtual 111, 3) := by decide +kernel
theorem dX4_takes_6 : decode cX4_takes 6 = .ok (.ifCond .le 16, 3) := by decide +kernel
theorem dX4_takes_9 : decode cX4_takes 9 = .ok (.aload_n 0, 1) := by decide +kernel
theorem dX4_takes_10 : decode cX4_takes 10 = .ok (.iload_n 1, 1) := by decide +kernel
theorem dX4_takes_11 : decode cX4_takes 11 = .ok (.iload_n 2, 1) := by decide +kernel
theorem dX4_takes_12 : decode cX4_takes 12 = .ok (.invokevirtual 142, 3) := by decide +kernel
theorem dX4_takes_15 : decode cX4_takes 15 = .ok (.ifCond .ne 7, 3) := by decide +kernel
theorem dX4_takes_18 : decode cX4_takes 18 = .ok (.iconst 1, 1) := by decide +kernel
theorem dX4_takes_19 : decode cX4_takes 19 = .ok (.goto 4, 3) := by decide +kernel
theorem dX4_takes_22 : decode cX4_takes 22 = .ok (.iconst 0, 1) := by decide +kernel
theorem dX4_takes_23 : decode cX4_takes 23 = .ok (.ireturn, 1) := by decide +kernel
theorem dX4_rank_0 : decode cX4_rank 0 = .ok (.aload_n 0, 1) := by decide +kernel
theorem dX4_rank_1 : decode cX4_rank 1 = .ok (.iconst 0, 1) := by decide +kernel
theorem dX4_rank_2 : decode cX4_rank 2 = .ok (.putfield 84, 3) := by decide +kernel
theorem dX4_rank_5 : decode cX4_rank 5 = .ok (.aload_n 0, 1) := by decide +kernel
theorem dX4_rank_6 : decode cX4_rank 6 = .ok (.iload_n 1, 1) := by decide +kernel
theorem dX4_rank_7 : decode cX4_rank 7 = .ok (.iload_n 2, 1) := by decide +kernel
theorem dX4_rank_8 : decode cX4_rank 8 = .ok (.invokevirtual 107, 3) := by decide +kernel
theorem dX4_rank_11 : decode cX4_rank 11 = .ok (.ifCond .eq 12, 3) := by decide +kernel
theorem dX4_rank_14 : decode cX4_rank 14 = .ok (.aload_n 0, 1) := by decide +kernel
theorem dX4_rank_15 : decode cX4_rank 15 = .ok (.iload_n 1, 1) := by decide +kernel
theorem dX4_rank_16 : decode cX4_rank 16 = .ok (.iload_n 2, 1) := by decide +kernel
theorem dX4_rank_17 : decode cX4_rank 17 = .ok (.invokevirtual 111, 3) := by decide +kernel
theorem dX4_rank_20 : decode cX4_rank 20 = .ok (.goto 4, 3) := by decide +kernel
theorem dX4_rank_23 : decode cX4_rank 23 = .ok (.iconst (-1), 1) := by decide +kernel
theorem dX4_rank_24 : decode cX4_rank 24 = .ok (.ireturn, 1) := by decide +kernel
theorem dX4_can_0 : decode cX4_can 0 = .ok (.aload_n 0, 1) := by decide +kernel
theorem dX4_can_1 : decode cX4_can 1 = .ok (.iconst 0, 1) := by decide +kernel
theorem dX4_can_2 : decode cX4_can 2 = .ok (.putfield 84, 3) := by decide +kernel
theorem dX4_can_5 : decode cX4_can 5 = .ok (.aload_n 0, 1) := by decide +kernel
theorem dX4_can_6 : decode cX4_can 6 = .ok (.iload_n 1, 1) := by decide +kernel
theorem dX4_can_7 : decode cX4_can 7 = .ok (.iload_n 2, 1) := by decide +kernel
theorem dX4_can_8 : decode cX4_can 8 = .ok (.invokevirtual 107, 3) := by decide +kernel
theorem dX4_can_11 : decode cX4_can 11 = .ok (.ifCond .eq 12, 3) := by decide +kernel
theorem dX4_can_14 : decode cX4_can 14 = .ok (.aload_n 0, 1) := by decide +kernel
theorem dX4_can_15 : decode cX4_can 15 = .ok (.iload_n 1, 1) := by decide +kernel
theorem dX4_can_16 : decode cX4_can 16 = .ok (.iload_n 2, 1) := by decide +kernel
theorem dX4_can_17 : decode cX4_can 17 = .ok (.invokevirtual 142, 3) := by decide +kernel
theorem dX4_can_20 : decode cX4_can 20 = .ok (.goto 4, 3) := by decide +kernel
theorem dX4_can_23 : decode cX4_can 23 = .ok (.iconst (-1), 1) := by decide +kernel
theorem dX4_can_24 : decode cX4_can 24 = .ok (.ireturn, 1) := by decide +kernel
theorem dX4_week_0 : decode cX4_week 0 = .ok (.aload_n 0, 1) := by decide +kernel
theorem dX4_week_1 : decode cX4_week 1 = .ok (.iconst 0, 1) := by decide +kernel
theorem dX4_week_2 : decode cX4_week 2 = .ok (.putfield 84, 3) := by decide +kernel
theorem dX4_week_5 : decode cX4_week 5 = .ok (.aload_n 0, 1) := by decide +kernel
theorem dX4_week_6 : decode cX4_week 6 = .ok (.iload_n 1, 1) := by decide +kernel
theorem dX4_week_7 : decode cX4_week 7 = .ok (.iload_n 2, 1) := by decide +kernel
theorem dX4_week_8 : decode cX4_week 8 = .ok (.invokevirtual 107, 3) := by decide +kernel
theorem dX4_week_11 : decode cX4_week 11 = .ok (.ifCond .eq 30, 3) := by decide +kernel
theorem dX4_week_14 : decode cX4_week 14 = .ok (.aload_n 0, 1) := by decide +kernel
theorem dX4_week_15 : decode cX4_week 15 = .ok (.iload_n 1, 1) := by decide +kernel
theorem dX4_week_16 : decode cX4_week 16 = .ok (.iload_n 2, 1) := by decide +kernel
theorem dX4_week_17 : decode cX4_week 17 = .ok (.invokevirtual 142, 3) := by decide +kernel
theorem dX4_week_20 : decode cX4_week 20 = .ok (.ifCond .ne 21, 3) := by decide +kernel
theorem dX4_week_23 : decode cX4_week 23 = .ok (.aload_n 0, 1) := by decide +kernel
theorem dX4_week_24 : decode cX4_week 24 = .ok (.getfield 29, 3) := by decide +kernel
theorem dX4_week_27 : decode cX4_week 27 = .ok (.iload_n 1, 1) := by decide +kernel
theorem dX4_week_28 : decode cX4_week 28 = .ok (.iaload, 1) := by decide +kernel
theorem dX4_week_29 : decode cX4_week 29 = .ok (.aload_n 0, 1) := by decide +kernel
theorem dX4_week_30 : decode cX4_week 30 = .ok (.getfield 23, 3) := by decide +kernel
theorem dX4_week_33 : decode cX4_week 33 = .ok (.iload_n 2, 1) := by decide +kernel
theorem dX4_week_34 : decode cX4_week 34 = .ok (.iaload, 1) := by decide +kernel
theorem dX4_week_35 : decode cX4_week 35 = .ok (.invokestatic 139, 3) := by decide +kernel
theorem dX4_week_38 : decode cX4_week 38 = .ok (.goto 4, 3) := by decide +kernel
theorem dX4_week_41 : decode cX4_week 41 = .ok (.iconst (-1), 1) := by decide +kernel
theorem dX4_week_42 : decode cX4_week 42 = .ok (.ireturn, 1) := by decide +kernel
theorem dX4_guest_0 : decode cX4_guest 0 = .ok (.iconst 0, 1) := by decide +kernel
theorem dX4_guest_1 : decode cX4_guest 1 = .ok (.istore_n 2, 1) := by decide +kernel
theorem dX4_guest_2 : decode cX4_guest 2 = .ok (.iload_n 2, 1) := by decide +kernel
theorem dX4_guest_3 : decode cX4_guest 3 = .ok (.aload_n 0, 1) := by decide +kernel
theorem dX4_guest_4 : decode cX4_guest 4 = .ok (.getfield 87, 3) := by decide +kernel
theorem dX4_guest_7 : decode cX4_guest 7 = .ok (.if_icmp .ge 21, 3) := by decide +kernel
theorem dX4_guest_10 : decode cX4_guest 10 = .ok (.aload_n 0, 1) := by decide +kernel
theorem dX4_guest_11 : decode cX4_guest 11 = .ok (.getfield 50, 3) := by decide +kernel
theorem dX4_guest_14 : decode cX4_guest 14 = .ok (.iload_n 2, 1) := by decide +kernel
theorem dX4_guest_15 : decode cX4_guest 15 = .ok (.iaload, 1) := by decide +kernel
theorem dX4_guest_16 : decode cX4_guest 16 = .ok (.iload_n 1, 1) := by decide +kernel
theorem dX4_guest_17 : decode cX4_guest 17 = .ok (.if_icmp .ne 5, 3) := by decide +kernel
theorem dX4_guest_20 : decode cX4_guest 20 = .ok (.iload_n 2, 1) := by decide +kernel
theorem dX4_guest_21 : decode cX4_guest 21 = .ok (.ireturn, 1) := by decide +kernel
theorem dX4_guest_22 : decode cX4_guest 22 = .ok (.iinc 2 1, 3) := by decide +kernel
theorem dX4_guest_25 : decode cX4_guest 25 = .ok (.goto (-23), 3) := by decide +kernel
theorem dX4_guest_28 : decode cX4_guest 28 = .ok (.iconst (-1), 1) := by decide +kernel
theorem dX4_guest_29 : decode cX4_guest 29 = .ok (.ireturn, 1) := by decide +kernel
theorem dX4_goesAtAll_0 : decode cX4_goesAtAll 0 = .ok (.aload_n 0, 1) := by decide +kernel
theorem dX4_goesAtAll_1 : decode cX4_goesAtAll 1 = .ok (.getfield 50, 3) := by decide +kernel
theorem dX4_goesAtAll_4 : decode cX4_goesAtAll 4 = .ok (.iload_n 1, 1) := by decide +kernel
theorem dX4_goesAtAll_5 : decode cX4_goesAtAll 5 = .ok (.iaload, 1) := by decide +kernel
theorem dX4_goesAtAll_6 : decode cX4_goesAtAll 6 = .ok (.ifCond .lt 7, 3) := by decide +kernel
theorem dX4_goesAtAll_9 : decode cX4_goesAtAll 9 = .ok (.iconst 1, 1) := by decide +kernel
theorem dX4_goesAtAll_10 : decode cX4_goesAtAll 10 = .ok (.goto 4, 3) := by decide +kernel
theorem dX4_goesAtAll_13 : decode cX4_goesAtAll 13 = .ok (.iconst 0, 1) := by decide +kernel
theorem dX4_goesAtAll_14 : decode cX4_goesAtAll 14 = .ok (.ireturn, 1) := by decide +kernel
theorem dX4_open_0 : decode cX4_open 0 = .ok (.iconst 0, 1) := by decide +kernel
theorem dX4_open_1 : decode cX4_open 1 = .ok (.istore_n 1, 1) := by decide +kernel
theorem dX4_open_2 : decode cX4_open 2 = .ok (.iload_n 1, 1) := by decide +kernel
theorem dX4_open_3 : decode cX4_open 3 = .ok (.aload_n 0, 1) := by decide +kernel
theorem dX4_open_4 : decode cX4_open 4 = .ok (.getfield 87, 3) := by decide +kernel
theorem dX4_open_7 : decode cX4_open 7 = .ok (.if_icmp .ge 36, 3) := by decide +kernel
theorem dX4_open_10 : decode cX4_open 10 = .ok (.aload_n 0, 1) := by decide +kernel
theorem dX4_open_11 : decode cX4_open 11 = .ok (.iload_n 1, 1) := by decide +kernel
theorem dX4_open_12 : decode cX4_open 12 = .ok (.invokevirtual 145, 3) := by decide +kernel
theorem dX4_open_15 : decode cX4_open 15 = .ok (.ifCond .eq 22, 3) := by decide +kernel
theorem dX4_open_18 : decode cX4_open 18 = .ok (.aload_n 0, 1) := by decide +kernel
theorem dX4_open_19 : decode cX4_open 19 = .ok (.iload_n 1, 1) := by decide +kernel
theorem dX4_open_20 : decode cX4_open 20 = .ok (.aload_n 0, 1) := by decide +kernel
theorem dX4_open_21 : decode cX4_open 21 = .ok (.getfield 50, 3) := by decide +kernel
theorem dX4_open_24 : decode cX4_open 24 = .ok (.iload_n 1, 1) := by decide +kernel
theorem dX4_open_25 : decode cX4_open 25 = .ok (.iaload, 1) := by decide +kernel
theorem dX4_open_26 : decode cX4_open 26 = .ok (.invokevirtual 148, 3) := by decide +kernel
theorem dX4_open_29 : decode cX4_open 29 = .ok (.ifCond .ne 8, 3) := by decide +kernel
theorem dX4_open_32 : decode cX4_open 32 = .ok (.bipush 10, 2) := by decide +kernel
theorem dX4_open_34 : decode cX4_open 34 = .ok (.iload_n 1, 1) := by decide +kernel
theorem dX4_open_35 : decode cX4_open 35 = .ok (.iadd, 1) := by decide +kernel
theorem dX4_open_36 : decode cX4_open 36 = .ok (.ireturn, 1) := by decide +kernel
theorem dX4_open_37 : decode cX4_open 37 = .ok (.iinc 1 1, 3) := by decide +kernel
theorem dX4_open_40 : decode cX4_open 40 = .ok (.goto (-38), 3) := by decide +kernel
theorem dX4_open_43 : decode cX4_open 43 = .ok (.iconst 0, 1) := by decide +kernel
theorem dX4_open_44 : decode cX4_open 44 = .ok (.istore_n 1, 1) := by decide +kernel
theorem dX4_open_45 : decode cX4_open 45 = .ok (.iload_n 1, 1) := by decide +kernel
theorem dX4_open_46 : decode cX4_open 46 = .ok (.aload_n 0, 1) := by decide +kernel
theorem dX4_open_47 : decode cX4_open 47 = .ok (.getfield 87, 3) := by decide +kernel
theorem dX4_open_50 : decode cX4_open 50 = .ok (.if_icmp .ge 55, 3) := by decide +kernel
theorem dX4_open_53 : decode cX4_open 53 = .ok (.iload_n 1, 1) := by decide +kernel
theorem dX4_open_54 : decode cX4_open 54 = .ok (.iconst 1, 1) := by decide +kernel
theorem dX4_open_55 : decode cX4_open 55 = .ok (.iadd, 1) := by decide +kernel
theorem dX4_open_56 : decode cX4_open 56 = .ok (.istore_n 2, 1) := by decide +kernel
theorem dX4_open_57 : decode cX4_open 57 = .ok (.iload_n 2, 1) := by decide +kernel
theorem dX4_open_58 : decode cX4_open 58 = .ok (.aload_n 0, 1) := by decide +kernel
theorem dX4_open_59 : decode cX4_open 59 = .ok (.getfield 87, 3) := by decide +kernel
theorem dX4_open_62 : decode cX4_open 62 = .ok (.if_icmp .ge 37, 3) := by decide +kernel
theorem dX4_open_65 : decode cX4_open 65 = .ok (.aload_n 0, 1) := by decide +kernel
theorem dX4_open_66 : decode cX4_open 66 = .ok (.iload_n 1, 1) := by decide +kernel
theorem dX4_open_67 : decode cX4_open 67 = .ok (.invokevirtual 145, 3) := by decide +kernel
theorem dX4_open_70 : decode cX4_open 70 = .ok (.ifCond .eq 23, 3) := by decide +kernel
theorem dX4_open_73 : decode cX4_open 73 = .ok (.aload_n 0, 1) := by decide +kernel
theorem dX4_open_74 : decode cX4_open 74 = .ok (.getfield 50, 3) := by decide +kernel
theorem dX4_open_77 : decode cX4_open 77 = .ok (.iload_n 1, 1) := by decide +kernel
theorem dX4_open_78 : decode cX4_open 78 = .ok (.iaload, 1) := by decide +kernel
theorem dX4_open_79 : decode cX4_open 79 = .ok (.aload_n 0, 1) := by decide +kernel
theorem dX4_open_80 : decode cX4_open 80 = .ok (.getfield 50, 3) := by decide +kernel
theorem dX4_open_83 : decode cX4_open 83 = .ok (.iload_n 2, 1) := by decide +kernel
theorem dX4_open_84 : decode cX4_open 84 = .ok (.iaload, 1) := by decide +kernel
theorem dX4_open_85 : decode cX4_open 85 = .ok (.if_icmp .ne 8, 3) := by decide +kernel
theorem dX4_open_88 : decode cX4_open 88 = .ok (.bipush 20, 2) := by decide +kernel
theorem dX4_open_90 : decode cX4_open 90 = .ok (.iload_n 1, 1) := by decide +kernel
theorem dX4_open_91 : decode cX4_open 91 = .ok (.iadd, 1) := by decide +kernel
theorem dX4_open_92 : decode cX4_open 92 = .ok (.ireturn, 1) := by decide +kernel
theorem dX4_open_93 : decode cX4_open 93 = .ok (.iinc 2 1, 3) := by decide +kernel
theorem dX4_open_96 : decode cX4_open 96 = .ok (.goto (-39), 3) := by decide +kernel
theorem dX4_open_99 : decode cX4_open 99 = .ok (.iinc 1 1, 3) := by decide +kernel
theorem dX4_open_102 : decode cX4_open 102 = .ok (.goto (-57), 3) := by decide +kernel
theorem dX4_open_105 : decode cX4_open 105 = .ok (.iconst 0, 1) := by decide +kernel
theorem dX4_open_106 : decode cX4_open 106 = .ok (.istore_n 1, 1) := by decide +kernel
theorem dX4_open_107 : decode cX4_open 107 = .ok (.iload_n 1, 1) := by decide +kernel
theorem dX4_open_108 : decode cX4_open 108 = .ok (.aload_n 0, 1) := by decide +kernel
theorem dX4_open_109 : decode cX4_open 109 = .ok (.getfield 87, 3) := by decide +kernel
theorem dX4_open_112 : decode cX4_open 112 = .ok (.if_icmp .ge 30, 3) := by decide +kernel
theorem dX4_open_115 : decode cX4_open 115 = .ok (.aload_n 0, 1) := by decide +kernel
theorem dX4_open_116 : decode cX4_open 116 = .ok (.iload_n 1, 1) := by decide +kernel
theorem dX4_open_117 : decode cX4_open 117 = .ok (.invokevirtual 145, 3) := by decide +kernel
theorem dX4_open_120 : decode cX4_open 120 = .ok (.ifCond .ne 16, 3) := by decide +kernel
theorem dX4_open_123 : decode cX4_open 123 = .ok (.aload_n 0, 1) := by decide +kernel
theorem dX4_open_124 : decode cX4_open 124 = .ok (.iload_n 1, 1) := by decide +kernel
theorem dX4_open_125 : decode cX4_open 125 = .ok (.invokevirtual 151, 3) := by decide +kernel
theorem dX4_open_128 : decode cX4_open 128 = .ok (.ifCond .lt 8, 3) := by decide +kernel
theorem dX4_open_131 : decode cX4_open 131 = .ok (.bipush 30, 2) := by decide +kernel
theorem dX4_open_133 : decode cX4_open 133 = .ok (.iload_n 1, 1) := by decide +kernel
theorem dX4_open_134 : decode cX4_open 134 = .ok (.iadd, 1) := by decide +kernel
theorem dX4_open_135 : decode cX4_open 135 = .ok (.ireturn, 1) := by decide +kernel
theorem dX4_open_136 : decode cX4_open 136 = .ok (.iinc 1 1, 3) := by decide +kernel
theorem dX4_open_139 : decode cX4_open 139 = .ok (.goto (-32), 3) := by decide +kernel
theorem dX4_open_142 : decode cX4_open 142 = .ok (.iconst 0, 1) := by decide +kernel
theorem dX4_open_143 : decode cX4_open 143 = .ok (.ireturn, 1) := by decide +kernel
theorem dX4_ringOf_0 : decode cX4_ringOf 0 = .ok (.iconst 1, 1) := by decide +kernel
theorem dX4_ringOf_1 : decode cX4_ringOf 1 = .ok (.istore_n 2, 1) := by decide +kernel
theorem dX4_ringOf_2 : decode cX4_ringOf 2 = .ok (.aload_n 0, 1) := by decide +kernel
theorem dX4_ringOf_3 : decode cX4_ringOf 3 = .ok (.getfield 50, 3) := by decide +kernel
theorem dX4_ringOf_6 : decode cX4_ringOf 6 = .ok (.iload_n 1, 1) := by decide +kernel
theorem dX4_ringOf_7 : decode cX4_ringOf 7 = .ok (.iaload, 1) := by decide +kernel
theorem dX4_ringOf_8 : decode cX4_ringOf 8 = .ok (.istore_n 3, 1) := by decide +kernel
theorem dX4_ringOf_9 : decode cX4_ringOf 9 = .ok (.iload_n 3, 1) := by decide +kernel
theorem dX4_ringOf_10 : decode cX4_ringOf 10 = .ok (.iload_n 1, 1) := by decide +kernel
theorem dX4_ringOf_11 : decode cX4_ringOf 11 = .ok (.if_icmp .eq 16, 3) := by decide +kernel
theorem dX4_ringOf_14 : decode cX4_ringOf 14 = .ok (.iinc 2 1, 3) := by decide +kernel
theorem dX4_ringOf_17 : decode cX4_ringOf 17 = .ok (.aload_n 0, 1) := by decide +kernel
theorem dX4_ringOf_18 : decode cX4_ringOf 18 = .ok (.getfield 50, 3) := by decide +kernel
theorem dX4_ringOf_21 : decode cX4_ringOf 21 = .ok (.iload_n 3, 1) := by decide +kernel
theorem dX4_ringOf_22 : decode cX4_ringOf 22 = .ok (.iaload, 1) := by decide +kernel
theorem dX4_ringOf_23 : decode cX4_ringOf 23 = .ok (.istore_n 3, 1) := by decide +kernel
theorem dX4_ringOf_24 : decode cX4_ringOf 24 = .ok (.goto (-15), 3) := by decide +kernel
theorem dX4_ringOf_27 : decode cX4_ringOf 27 = .ok (.iload_n 2, 1) := by decide +kernel
theorem dX4_ringOf_28 : decode cX4_ringOf 28 = .ok (.ireturn, 1) := by decide +kernel
theorem dX4_wrong_0 : decode cX4_wrong 0 = .ok (.aload_n 0, 1) := by decide +kernel
theorem dX4_wrong_1 : decode cX4_wrong 1 = .ok (.iconst 0, 1) := by decide +kernel
theorem dX4_wrong_2 : decode cX4_wrong 2 = .ok (.putfield 84, 3) := by decide +kernel
theorem dX4_wrong_5 : decode cX4_wrong 5 = .ok (.aload_n 0, 1) := by decide +kernel
theorem dX4_wrong_6 : decode cX4_wrong 6 = .ok (.invokevirtual 154, 3) := by decide +kernel
theorem dX4_wrong_9 : decode cX4_wrong 9 = .ok (.istore_n 1, 1) := by decide +kernel
theorem dX4_wrong_10 : decode cX4_wrong 10 = .ok (.iconst 0, 1) := by decide +kernel
theorem dX4_wrong_11 : decode cX4_wrong 11 = .ok (.istore_n 2, 1) := by decide +kernel
theorem dX4_wrong_12 : decode cX4_wrong 12 = .ok (.iload_n 2, 1) := by decide +kernel
theorem dX4_wrong_13 : decode cX4_wrong 13 = .ok (.aload_n 0, 1) := by decide +kernel
theorem dX4_wrong_14 : decode cX4_wrong 14 = .ok (.getfield 87, 3) := by decide +kernel
theorem dX4_wrong_17 : decode cX4_wrong 17 = .ok (.if_icmp .ge 38, 3) := by decide +kernel
theorem dX4_wrong_20 : decode cX4_wrong 20 = .ok (.iload_n 1, 1) := by decide +kernel
theorem dX4_wrong_21 : decode cX4_wrong 21 = .ok (.ifCond .ne 34, 3) := by decide +kernel
theorem dX4_wrong_24 : decode cX4_wrong 24 = .ok (.aload_n 0, 1) := by decide +kernel
theorem dX4_wrong_25 : decode cX4_wrong 25 = .ok (.iload_n 2, 1) := by decide +kernel
theorem dX4_wrong_26 : decode cX4_wrong 26 = .ok (.invokevirtual 145, 3) := by decide +kernel
theorem dX4_wrong_29 : decode cX4_wrong 29 = .ok (.ifCond .eq 20, 3) := by decide +kernel
theorem dX4_wrong_32 : decode cX4_wrong 32 = .ok (.aload_n 0, 1) := by decide +kernel
theorem dX4_wrong_33 : decode cX4_wrong 33 = .ok (.iload_n 2, 1) := by decide +kernel
theorem dX4_wrong_34 : decode cX4_wrong 34 = .ok (.invokevirtual 158, 3) := by decide +kernel
theorem dX4_wrong_37 : decode cX4_wrong 37 = .ok (.aload_n 0, 1) := by decide +kernel
theorem dX4_wrong_38 : decode cX4_wrong 38 = .ok (.getfield 57, 3) := by decide +kernel
theorem dX4_wrong_41 : decode cX4_wrong 41 = .ok (.if_icmp .le 8, 3) := by decide +kernel
theorem dX4_wrong_44 : decode cX4_wrong 44 = .ok (.bipush 40, 2) := by decide +kernel
theorem dX4_wrong_46 : decode cX4_wrong 46 = .ok (.iload_n 2, 1) := by decide +kernel
theorem dX4_wrong_47 : decode cX4_wrong 47 = .ok (.iadd, 1) := by decide +kernel
theorem dX4_wrong_48 : decode cX4_wrong 48 = .ok (.istore_n 1, 1) := by decide +kernel
theorem dX4_wrong_49 : decode cX4_wrong 49 = .ok (.iinc 2 1, 3) := by decide +kernel
theorem dX4_wrong_52 : decode cX4_wrong 52 = .ok (.goto (-40), 3) := by decide +kernel
theorem dX4_wrong_55 : decode cX4_wrong 55 = .ok (.iload_n 1, 1) := by decide +kernel
theorem dX4_wrong_56 : decode cX4_wrong 56 = .ok (.ireturn, 1) := by decide +kernel
theorem dX4_goers_0 : decode cX4_goers 0 = .ok (.iconst 0, 1) := by decide +kernel
theorem dX4_goers_1 : decode cX4_goers 1 = .ok (.istore_n 1, 1) := by decide +kernel
theorem dX4_goers_2 : decode cX4_goers 2 = .ok (.iconst 0, 1) := by decide +kernel
theorem dX4_goers_3 : decode cX4_goers 3 = .ok (.istore_n 2, 1) := by decide +kernel
theorem dX4_goers_4 : decode cX4_goers 4 = .ok (.iload_n 2, 1) := by decide +kernel
theorem dX4_goers_5 : decode cX4_goers 5 = .ok (.aload_n 0, 1) := by decide +kernel
theorem dX4_goers_6 : decode cX4_goers 6 = .ok (.getfield 87, 3) := by decide +kernel
theorem dX4_goers_9 : decode cX4_goers 9 = .ok (.if_icmp .ge 25, 3) := by decide +kernel
theorem dX4_goers_12 : decode cX4_goers 12 = .ok (.iload_n 1, 1) := by decide +kernel
theorem dX4_goers_13 : decode cX4_goers 13 = .ok (.aload_n 0, 1) := by decide +kernel
theorem dX4_goers_14 : decode cX4_goers 14 = .ok (.iload_n 2, 1) := by decide +kernel
theorem dX4_goers_15 : decode cX4_goers 15 = .ok (.invokevirtual 145, 3) := by decide +kernel
theorem dX4_goers_18 : decode cX4_goers 18 = .ok (.ifCond .eq 7, 3) := by decide +kernel
theorem dX4_goers_21 : decode cX4_goers 21 = .ok (.iconst 1, 1) := by decide +kernel
theorem dX4_goers_22 : decode cX4_goers 22 = .ok (.goto 4, 3) := by decide +kernel
theorem dX4_goers_25 : decode cX4_goers 25 = .ok (.iconst 0, 1) := by decide +kernel
theorem dX4_goers_26 : decode cX4_goers 26 = .ok (.iadd, 1) := by decide +kernel
theorem dX4_goers_27 : decode cX4_goers 27 = .ok (.istore_n 1, 1) := by decide +kernel
theorem dX4_goers_28 : decode cX4_goers 28 = .ok (.iinc 2 1, 3) := by decide +kernel
theorem dX4_goers_31 : decode cX4_goers 31 = .ok (.goto (-27), 3) := by decide +kernel
theorem dX4_goers_34 : decode cX4_goers 34 = .ok (.iload_n 1, 1) := by decide +kernel
theorem dX4_goers_35 : decode cX4_goers 35 = .ok (.ireturn, 1) := by decide +kernel
theorem dX4_rings_0 : decode cX4_rings 0 = .ok (.iconst 0, 1) := by decide +kernel
theorem dX4_rings_1 : decode cX4_rings 1 = .ok (.istore_n 1, 1) := by decide +kernel
theorem dX4_rings_2 : decode cX4_rings 2 = .ok (.iconst 0, 1) := by decide +kernel
theorem dX4_rings_3 : decode cX4_rings 3 = .ok (.istore_n 2, 1) := by decide +kernel
theorem dX4_rings_4 : decode cX4_rings 4 = .ok (.iload_n 2, 1) := by decide +kernel
theorem dX4_rings_5 : decode cX4_rings 5 = .ok (.aload_n 0, 1) := by decide +kernel
theorem dX4_rings_6 : decode cX4_rings 6 = .ok (.getfield 87, 3) := by decide +kernel
theorem dX4_rings_9 : decode cX4_rings 9 = .ok (.if_icmp .ge 84, 3) := by decide +kernel
theorem dX4_rings_12 : decode cX4_rings 12 = .ok (.aload_n 0, 1) := by decide +kernel
theorem dX4_rings_13 : decode cX4_rings 13 = .ok (.invokevirtual 154, 3) := by decide +kernel
theorem dX4_rings_16 : decode cX4_rings 16 = .ok (.ifCond .ne 77, 3) := by decide +kernel
theorem dX4_rings_19 : decode cX4_rings 19 = .ok (.aload_n 0, 1) := by decide +kernel
theorem dX4_rings_20 : decode cX4_rings 20 = .ok (.iload_n 2, 1) := by decide +kernel
theorem dX4_rings_21 : decode cX4_rings 21 = .ok (.invokevirtual 145, 3) := by decide +kernel
theorem dX4_rings_24 : decode cX4_rings 24 = .ok (.istore_n 3, 1) := by decide +kernel
theorem dX4_rings_25 : decode cX4_rings 25 = .ok (.iload_n 3, 1) := by decide +kernel
theorem dX4_rings_26 : decode cX4_rings 26 = .ok (.ifCond .eq 12, 3) := by decide +kernel
theorem dX4_rings_29 : decode cX4_rings 29 = .ok (.aload_n 0, 1) := by decide +kernel
theorem dX4_rings_30 : decode cX4_rings 30 = .ok (.getfield 50, 3) := by decide +kernel
theorem dX4_rings_33 : decode cX4_rings 33 = .ok (.iload_n 2, 1) := by decide +kernel
theorem dX4_rings_34 : decode cX4_rings 34 = .ok (.iaload, 1) := by decide +kernel
theorem dX4_rings_35 : decode cX4_rings 35 = .ok (.goto 4, 3) := by decide +kernel
theorem dX4_rings_38 : decode cX4_rings 38 = .ok (.iload_n 2, 1) := by decide +kernel
theorem dX4_rings_39 : decode cX4_rings 39 = .ok (.istore 4, 2) := by decide +kernel
theorem dX4_rings_41 : decode cX4_rings 41 = .ok (.iload 4, 2) := by decide +kernel
theorem dX4_rings_43 : decode cX4_rings 43 = .ok (.iload_n 2, 1) := by decide +kernel
theorem dX4_rings_44 : decode cX4_rings 44 = .ok (.if_icmp .eq 31, 3) := by decide +kernel
theorem dX4_rings_47 : decode cX4_rings 47 = .ok (.iload_n 3, 1) := by decide +kernel
theorem dX4_rings_48 : decode cX4_rings 48 = .ok (.ifCond .eq 13, 3) := by decide +kernel
theorem dX4_rings_51 : decode cX4_rings 51 = .ok (.iload 4, 2) := by decide +kernel
theorem dX4_rings_53 : decode cX4_rings 53 = .ok (.iload_n 2, 1) := by decide +kernel
theorem dX4_rings_54 : decode cX4_rings 54 = .ok (.if_icmp .le 7, 3) := by decide +kernel
theorem dX4_rings_57 : decode cX4_rings 57 = .ok (.iconst 1, 1) := by decide +kernel
theorem dX4_rings_58 : decode cX4_rings 58 = .ok (.goto 4, 3) := by decide +kernel
theorem dX4_rings_61 : decode cX4_rings 61 = .ok (.iconst 0, 1) := by decide +kernel
theorem dX4_rings_62 : decode cX4_rings 62 = .ok (.istore_n 3, 1) := by decide +kernel
theorem dX4_rings_63 : decode cX4_rings 63 = .ok (.aload_n 0, 1) := by decide +kernel
theorem dX4_rings_64 : decode cX4_rings 64 = .ok (.getfield 50, 3) := by decide +kernel
theorem dX4_rings_67 : decode cX4_rings 67 = .ok (.iload 4, 2) := by decide +kernel
theorem dX4_rings_69 : decode cX4_rings 69 = .ok (.iaload, 1) := by decide +kernel
theorem dX4_rings_70 : decode cX4_rings 70 = .ok (.istore 4, 2) := by decide +kernel
theorem dX4_rings_72 : decode cX4_rings 72 = .ok (.goto (-31), 3) := by decide +kernel
theorem dX4_rings_75 : decode cX4_rings 75 = .ok (.iload_n 1, 1) := by decide +kernel
theorem dX4_rings_76 : decode cX4_rings 76 = .ok (.iload_n 3, 1) := by decide +kernel
theorem dX4_rings_77 : decode cX4_rings 77 = .ok (.ifCond .eq 7, 3) := by decide +kernel
theorem dX4_rings_80 : decode cX4_rings 80 = .ok (.iconst 1, 1) := by decide +kernel
theorem dX4_rings_81 : decode cX4_rings 81 = .ok (.goto 4, 3) := by decide +kernel
theorem dX4_rings_84 : decode cX4_rings 84 = .ok (.iconst 0, 1) := by decide +kernel
theorem dX4_rings_85 : decode cX4_rings 85 = .ok (.iadd, 1) := by decide +kernel
theorem dX4_rings_86 : decode cX4_rings 86 = .ok (.istore_n 1, 1) := by decide +kernel
theorem dX4_rings_87 : decode cX4_rings 87 = .ok (.iinc 2 1, 3) := by decide +kernel
theorem dX4_rings_90 : decode cX4_rings 90 = .ok (.goto (-86), 3) := by decide +kernel
theorem dX4_rings_93 : decode cX4_rings 93 = .ok (.iload_n 1, 1) := by decide +kernel
theorem dX4_rings_94 : decode cX4_rings 94 = .ok (.ireturn, 1) := by decide +kernel
theorem dX4_count_0 : decode cX4_count 0 = .ok (.aload_n 0, 1) := by decide +kernel
theorem dX4_count_1 : decode cX4_count 1 = .ok (.iconst 0, 1) := by decide +kernel
theorem dX4_count_2 : decode cX4_count 2 = .ok (.putfield 84, 3) := by decide +kernel
theorem dX4_count_5 : decode cX4_count 5 = .ok (.iconst 0, 1) := by decide +kernel
theorem dX4_count_6 : decode cX4_count 6 = .ok (.istore_n 2, 1) := by decide +kernel
theorem dX4_count_7 : decode cX4_count 7 = .ok (.iconst 0, 1) := by decide +kernel
theorem dX4_count_8 : decode cX4_count 8 = .ok (.istore_n 3, 1) := by decide +kernel
theorem dX4_count_9 : decode cX4_count 9 = .ok (.iconst 0, 1) := by decide +kernel
theorem dX4_count_10 : decode cX4_count 10 = .ok (.istore 4, 2) := by decide +kernel
theorem dX4_count_12 : decode cX4_count 12 = .ok (.iload 4, 2) := by decide +kernel
theorem dX4_count_14 : decode cX4_count 14 = .ok (.aload_n 0, 1) := by decide +kernel
theorem dX4_count_15 : decode cX4_count 15 = .ok (.getfield 87, 3) := by decide +kernel
theorem dX4_count_18 : decode cX4_count 18 = .ok (.if_icmp .ge 56, 3) := by decide +kernel
theorem dX4_count_21 : decode cX4_count 21 = .ok (.iload_n 2, 1) := by decide +kernel
theorem dX4_count_22 : decode cX4_count 22 = .ok (.aload_n 0, 1) := by decide +kernel
theorem dX4_count_23 : decode cX4_count 23 = .ok (.getfield 38, 3) := by decide +kernel
theorem dX4_count_26 : decode cX4_count 26 = .ok (.iload 4, 2) := by decide +kernel
theorem dX4_count_28 : decode cX4_count 28 = .ok (.baload, 1) := by decide +kernel
theorem dX4_count_29 : decode cX4_count 29 = .ok (.ifCond .eq 7, 3) := by decide +kernel
theorem dX4_count_32 : decode cX4_count 32 = .ok (.iconst 1, 1) := by decide +kernel
theorem dX4_count_33 : decode cX4_count 33 = .ok (.goto 4, 3) := by decide +kernel
theorem dX4_count_36 : decode cX4_count 36 = .ok (.iconst 0, 1) := by decide +kernel
theorem dX4_count_37 : decode cX4_count 37 = .ok (.iadd, 1) := by decide +kernel
theorem dX4_count_38 : decode cX4_count 38 = .ok (.istore_n 2, 1) := by decide +kernel
theorem dX4_count_39 : decode cX4_count 39 = .ok (.iload_n 3, 1) := by decide +kernel
theorem dX4_count_40 : decode cX4_count 40 = .ok (.aload_n 0, 1) := by decide +kernel
theorem dX4_count_41 : decode cX4_count 41 = .ok (.iload 4, 2) := by decide +kernel
theorem dX4_count_43 : decode cX4_count 43 = .ok (.invokevirtual 145, 3) := by decide +kernel
theorem dX4_count_46 : decode cX4_count 46 = .ok (.ifCond .eq 19, 3) := by decide +kernel
theorem dX4_count_49 : decode cX4_count 49 = .ok (.aload_n 0, 1) := by decide +kernel
theorem dX4_count_50 : decode cX4_count 50 = .ok (.iload 4, 2) := by decide +kernel
theorem dX4_count_52 : decode cX4_count 52 = .ok (.aload_n 0, 1) := by decide +kernel
theorem dX4_count_53 : decode cX4_count 53 = .ok (.getfield 50, 3) := by decide +kernel
theorem dX4_count_56 : decode cX4_count 56 = .ok (.iload 4, 2) := by decide +kernel
theorem dX4_count_58 : decode cX4_count 58 = .ok (.iaload, 1) := by decide +kernel
theorem dX4_count_59 : decode cX4_count 59 = .ok (.invokevirtual 111, 3) := by decide +kernel
theorem dX4_count_62 : decode cX4_count 62 = .ok (.goto 4, 3) := by decide +kernel
theorem dX4_count_65 : decode cX4_count 65 = .ok (.iconst 0, 1) := by decide +kernel
theorem dX4_count_66 : decode cX4_count 66 = .ok (.iadd, 1) := by decide +kernel
theorem dX4_count_67 : decode cX4_count 67 = .ok (.istore_n 3, 1) := by decide +kernel
theorem dX4_count_68 : decode cX4_count 68 = .ok (.iinc 4 1, 3) := by decide +kernel
theorem dX4_count_71 : decode cX4_count 71 = .ok (.goto (-59), 3) := by decide +kernel
theorem dX4_count_74 : decode cX4_count 74 = .ok (.iload_n 1, 1) := by decide +kernel
theorem dX4_count_75 : decode cX4_count 75 = .ok (.tableswitch 70 0 6 #[41, 46, 48, 53, 58, 63, 68], 41) := by decide +kernel
theorem dX4_count_116 : decode cX4_count 116 = .ok (.aload_n 0, 1) := by decide +kernel
theorem dX4_count_117 : decode cX4_count 117 = .ok (.getfield 87, 3) := by decide +kernel
theorem dX4_count_120 : decode cX4_count 120 = .ok (.ireturn, 1) := by decide +kernel
theorem dX4_count_121 : decode cX4_count 121 = .ok (.iload_n 2, 1) := by decide +kernel
theorem dX4_count_122 : decode cX4_count 122 = .ok (.ireturn, 1) := by decide +kernel
theorem dX4_count_123 : decode cX4_count 123 = .ok (.aload_n 0, 1) := by decide +kernel
theorem dX4_count_124 : decode cX4_count 124 = .ok (.getfield 161, 3) := by decide +kernel
theorem dX4_count_127 : decode cX4_count 127 = .ok (.ireturn, 1) := by decide +kernel
theorem dX4_count_128 : decode cX4_count 128 = .ok (.aload_n 0, 1) := by decide +kernel
theorem dX4_count_129 : decode cX4_count 129 = .ok (.getfield 164, 3) := by decide +kernel
theorem dX4_count_132 : decode cX4_count 132 = .ok (.ireturn, 1) := by decide +kernel
theorem dX4_count_133 : decode cX4_count 133 = .ok (.aload_n 0, 1) := by decide +kernel
theorem dX4_count_134 : decode cX4_count 134 = .ok (.invokevirtual 167, 3) := by decide +kernel
theorem dX4_count_137 : decode cX4_count 137 = .ok (.ireturn, 1) := by decide +kernel
theorem dX4_count_138 : decode cX4_count 138 = .ok (.aload_n 0, 1) := by decide +kernel
theorem dX4_count_139 : decode cX4_count 139 = .ok (.invokevirtual 170, 3) := by decide +kernel
theorem dX4_count_142 : decode cX4_count 142 = .ok (.ireturn, 1) := by decide +kernel
theorem dX4_count_143 : decode cX4_count 143 = .ok (.iload_n 3, 1) := by decide +kernel
theorem dX4_count_144 : decode cX4_count 144 = .ok (.ireturn, 1) := by decide +kernel
theorem dX4_count_145 : decode cX4_count 145 = .ok (.iconst (-1), 1) := by decide +kernel
theorem dX4_count_146 : decode cX4_count 146 = .ok (.ireturn, 1) := by decide +kernel
theorem dX4_of_0 : decode cX4_of 0 = .ok (.aload_n 0, 1) := by decide +kernel
theorem dX4_of_1 : decode cX4_of 1 = .ok (.iconst 0, 1) := by decide +kernel
theorem dX4_of_2 : decode cX4_of 2 = .ok (.putfield 84, 3) := by decide +kernel
theorem dX4_of_5 : decode cX4_of 5 = .ok (.aload_n 0, 1) := by decide +kernel
theorem dX4_of_6 : decode cX4_of 6 = .ok (.iload_n 1, 1) := by decide +kernel
theorem dX4_of_7 : decode cX4_of 7 = .ok (.invokevirtual 94, 3) := by decide +kernel
theorem dX4_of_10 : decode cX4_of 10 = .ok (.ifCond .eq 15, 3) := by decide +kernel
theorem dX4_of_13 : decode cX4_of 13 = .ok (.iload_n 2, 1) := by decide +kernel
theorem dX4_of_14 : decode cX4_of 14 = .ok (.i2l, 1) := by decide +kernel
theorem dX4_of_15 : decode cX4_of 15 = .ok (.lconst 0, 1) := by decide +kernel
theorem dX4_of_16 : decode cX4_of 16 = .ok (.ldc2_w 173, 3) := by decide +kernel
theorem dX4_of_19 : decode cX4_of 19 = .ok (.invokestatic 90, 3) := by decide +kernel
theorem dX4_of_22 : decode cX4_of 22 = .ok (.ifCond .ne 8, 3) := by decide +kernel
theorem dX4_of_25 : decode cX4_of 25 = .ok (.aload_n 0, 1) := by decide +kernel
theorem dX4_of_26 : decode cX4_of 26 = .ok (.invokevirtual 175, 3) := by decide +kernel
theorem dX4_of_29 : decode cX4_of 29 = .ok (.ireturn, 1) := by decide +kernel
theorem dX4_of_30 : decode cX4_of 30 = .ok (.iconst 0, 1) := by decide +kernel
theorem dX4_of_31 : decode cX4_of 31 = .ok (.istore_n 3, 1) := by decide +kernel
theorem dX4_of_32 : decode cX4_of 32 = .ok (.iconst 0, 1) := by decide +kernel
theorem dX4_of_33 : decode cX4_of 33 = .ok (.istore 4, 2) := by decide +kernel
theorem dX4_of_35 : decode cX4_of 35 = .ok (.iload 4, 2) := by decide +kernel
theorem dX4_of_37 : decode cX4_of 37 = .ok (.aload_n 0, 1) := by decide +kernel
theorem dX4_of_38 : decode cX4_of 38 = .ok (.getfield 87, 3) := by decide +kernel
theorem dX4_of_41 : decode cX4_of 41 = .ok (.if_icmp .ge 33, 3) := by decide +kernel
theorem dX4_of_44 : decode cX4_of 44 = .ok (.iload_n 3, 1) := by decide +kernel
theorem dX4_of_45 : decode cX4_of 45 = .ok (.iload 4, 2) := by decide +kernel
theorem dX4_of_47 : decode cX4_of 47 = .ok (.iload_n 1, 1) := by decide +kernel
theorem dX4_of_48 : decode cX4_of 48 = .ok (.if_icmp .eq 17, 3) := by decide +kernel
theorem dX4_of_51 : decode cX4_of 51 = .ok (.aload_n 0, 1) := by decide +kernel
theorem dX4_of_52 : decode cX4_of 52 = .ok (.iload_n 1, 1) := by decide +kernel
theorem dX4_of_53 : decode cX4_of 53 = .ok (.iload 4, 2) := by decide +kernel
theorem dX4_of_55 : decode cX4_of 55 = .ok (.invokevirtual 148, 3) := by decide +kernel
theorem dX4_of_58 : decode cX4_of 58 = .ok (.ifCond .eq 7, 3) := by decide +kernel
theorem dX4_of_61 : decode cX4_of 61 = .ok (.iconst 1, 1) := by decide +kernel
theorem dX4_of_62 : decode cX4_of 62 = .ok (.goto 4, 3) := by decide +kernel
theorem dX4_of_65 : decode cX4_of 65 = .ok (.iconst 0, 1) := by decide +kernel
theorem dX4_of_66 : decode cX4_of 66 = .ok (.iadd, 1) := by decide +kernel
theorem dX4_of_67 : decode cX4_of 67 = .ok (.istore_n 3, 1) := by decide +kernel
theorem dX4_of_68 : decode cX4_of 68 = .ok (.iinc 4 1, 3) := by decide +kernel
theorem dX4_of_71 : decode cX4_of 71 = .ok (.goto (-36), 3) := by decide +kernel
theorem dX4_of_74 : decode cX4_of 74 = .ok (.iload_n 2, 1) := by decide +kernel
theorem dX4_of_75 : decode cX4_of 75 = .ok (.tableswitch 95 0 6 #[41, 47, 53, 60, 67, 74, 80], 41) := by decide +kernel
theorem dX4_of_116 : decode cX4_of 116 = .ok (.aload_n 0, 1) := by decide +kernel
theorem dX4_of_117 : decode cX4_of 117 = .ok (.iload_n 1, 1) := by decide +kernel
theorem dX4_of_118 : decode cX4_of 118 = .ok (.invokevirtual 130, 3) := by decide +kernel
theorem dX4_of_121 : decode cX4_of 121 = .ok (.ireturn, 1) := by decide +kernel
theorem dX4_of_122 : decode cX4_of 122 = .ok (.aload_n 0, 1) := by decide +kernel
theorem dX4_of_123 : decode cX4_of 123 = .ok (.iload_n 1, 1) := by decide +kernel
theorem dX4_of_124 : decode cX4_of 124 = .ok (.invokevirtual 178, 3) := by decide +kernel
theorem dX4_of_127 : decode cX4_of 127 = .ok (.ireturn, 1) := by decide +kernel
theorem dX4_of_128 : decode cX4_of 128 = .ok (.aload_n 0, 1) := by decide +kernel
theorem dX4_of_129 : decode cX4_of 129 = .ok (.getfield 41, 3) := by decide +kernel
theorem dX4_of_132 : decode cX4_of 132 = .ok (.iload_n 1, 1) := by decide +kernel
theorem dX4_of_133 : decode cX4_of 133 = .ok (.iaload, 1) := by decide +kernel
theorem dX4_of_134 : decode cX4_of 134 = .ok (.ireturn, 1) := by decide +kernel
theorem dX4_of_135 : decode cX4_of 135 = .ok (.aload_n 0, 1) := by decide +kernel
theorem dX4_of_136 : decode cX4_of 136 = .ok (.getfield 35, 3) := by decide +kernel
theorem dX4_of_139 : decode cX4_of 139 = .ok (.iload_n 1, 1) := by decide +kernel
theorem dX4_of_140 : decode cX4_of 140 = .ok (.iaload, 1) := by decide +kernel
theorem dX4_of_141 : decode cX4_of 141 = .ok (.ireturn, 1) := by decide +kernel
theorem dX4_of_142 : decode cX4_of 142 = .ok (.aload_n 0, 1) := by decide +kernel
theorem dX4_of_143 : decode cX4_of 143 = .ok (.getfield 50, 3) := by decide +kernel
theorem dX4_of_146 : decode cX4_of 146 = .ok (.iload_n 1, 1) := by decide +kernel
theorem dX4_of_147 : decode cX4_of 147 = .ok (.iaload, 1) := by decide +kernel
theorem dX4_of_148 : decode cX4_of 148 = .ok (.ireturn, 1) := by decide +kernel
theorem dX4_of_149 : decode cX4_of 149 = .ok (.aload_n 0, 1) := by decide +kernel
theorem dX4_of_150 : decode cX4_of 150 = .ok (.iload_n 1, 1) := by decide +kernel
theorem dX4_of_151 : decode cX4_of 151 = .ok (.invokevirtual 151, 3) := by decide +kernel
theorem dX4_of_154 : decode cX4_of 154 = .ok (.ireturn, 1) := by decide +kernel
theorem dX4_of_155 : decode cX4_of 155 = .ok (.aload_n 0, 1) := by decide +kernel
theorem dX4_of_156 : decode cX4_of 156 = .ok (.getfield 38, 3) := by decide +kernel
theorem dX4_of_159 : decode cX4_of 159 = .ok (.iload_n 1, 1) := by decide +kernel
theorem dX4_of_160 : decode cX4_of 160 = .ok (.baload, 1) := by decide +kernel
theorem dX4_of_161 : decode cX4_of 161 = .ok (.ifCond .eq 7, 3) := by decide +kernel
theorem dX4_of_164 : decode cX4_of 164 = .ok (.iconst 1, 1) := by decide +kernel
theorem dX4_of_165 : decode cX4_of 165 = .ok (.goto 4, 3) := by decide +kernel
theorem dX4_of_168 : decode cX4_of 168 = .ok (.iconst 0, 1) := by decide +kernel
theorem dX4_of_169 : decode cX4_of 169 = .ok (.ireturn, 1) := by decide +kernel
theorem dX4_of_170 : decode cX4_of 170 = .ok (.iload_n 3, 1) := by decide +kernel
theorem dX4_of_171 : decode cX4_of 171 = .ok (.ireturn, 1) := by decide +kernel
theorem dX4_put_0 : decode cX4_put 0 = .ok (.aload_n 0, 1) := by decide +kernel
theorem dX4_put_1 : decode cX4_put 1 = .ok (.iconst 0, 1) := by decide +kernel
theorem dX4_put_2 : decode cX4_put 2 = .ok (.putfield 84, 3) := by decide +kernel
theorem dX4_put_5 : decode cX4_put 5 = .ok (.aload_n 0, 1) := by decide +kernel
theorem dX4_put_6 : decode cX4_put 6 = .ok (.iconst 0, 1) := by decide +kernel
theorem dX4_put_7 : decode cX4_put 7 = .ok (.putfield 98, 3) := by decide +kernel
theorem dX4_put_10 : decode cX4_put 10 = .ok (.aload_n 0, 1) := by decide +kernel
theorem dX4_put_11 : decode cX4_put 11 = .ok (.iload_n 1, 1) := by decide +kernel
theorem dX4_put_12 : decode cX4_put 12 = .ok (.invokevirtual 94, 3) := by decide +kernel
theorem dX4_put_15 : decode cX4_put 15 = .ok (.ifCond .eq 17, 3) := by decide +kernel
theorem dX4_put_18 : decode cX4_put 18 = .ok (.iload_n 2, 1) := by decide +kernel
theorem dX4_put_19 : decode cX4_put 19 = .ok (.iconst (-1), 1) := by decide +kernel
theorem dX4_put_20 : decode cX4_put 20 = .ok (.if_icmp .eq 14, 3) := by decide +kernel
theorem dX4_put_23 : decode cX4_put 23 = .ok (.aload_n 0, 1) := by decide +kernel
theorem dX4_put_24 : decode cX4_put 24 = .ok (.iload_n 1, 1) := by decide +kernel
theorem dX4_put_25 : decode cX4_put 25 = .ok (.iload_n 2, 1) := by decide +kernel
theorem dX4_put_26 : decode cX4_put 26 = .ok (.invokevirtual 107, 3) := by decide +kernel
theorem dX4_put_29 : decode cX4_put 29 = .ok (.ifCond .ne 5, 3) := by decide +kernel
theorem dX4_put_32 : decode cX4_put 32 = .ok (.iconst 0, 1) := by decide +kernel
theorem dX4_put_33 : decode cX4_put 33 = .ok (.ireturn, 1) := by decide +kernel
theorem dX4_put_34 : decode cX4_put 34 = .ok (.aload_n 0, 1) := by decide +kernel
theorem dX4_put_35 : decode cX4_put 35 = .ok (.getfield 50, 3) := by decide +kernel
theorem dX4_put_38 : decode cX4_put 38 = .ok (.iload_n 1, 1) := by decide +kernel
theorem dX4_put_39 : decode cX4_put 39 = .ok (.iload_n 2, 1) := by decide +kernel
theorem dX4_put_40 : decode cX4_put 40 = .ok (.iastore, 1) := by decide +kernel
theorem dX4_put_41 : decode cX4_put 41 = .ok (.iconst 1, 1) := by decide +kernel
theorem dX4_put_42 : decode cX4_put 42 = .ok (.ireturn, 1) := by decide +kernel
theorem dX4_mayBe_0 : decode cX4_mayBe 0 = .ok (.aload_n 0, 1) := by decide +kernel
theorem dX4_mayBe_1 : decode cX4_mayBe 1 = .ok (.getfield 181, 3) := by decide +kernel
theorem dX4_mayBe_4 : decode cX4_mayBe 4 = .ok (.ifCond .ne 5, 3) := by decide +kernel
theorem dX4_mayBe_7 : decode cX4_mayBe 7 = .ok (.iconst 1, 1) := by decide +kernel
theorem dX4_mayBe_8 : decode cX4_mayBe 8 = .ok (.ireturn, 1) := by decide +kernel
theorem dX4_mayBe_9 : decode cX4_mayBe 9 = .ok (.iload_n 2, 1) := by decide +kernel
theorem dX4_mayBe_10 : decode cX4_mayBe 10 = .ok (.istore 5, 2) := by decide +kernel
theorem dX4_mayBe_12 : decode cX4_mayBe 12 = .ok (.iload_n 1, 1) := by decide +kernel
theorem dX4_mayBe_13 : decode cX4_mayBe 13 = .ok (.istore 6, 2) := by decide +kernel
theorem dX4_mayBe_15 : decode cX4_mayBe 15 = .ok (.iload 6, 2) := by decide +kernel
theorem dX4_mayBe_17 : decode cX4_mayBe 17 = .ok (.aload_n 0, 1) := by decide +kernel
theorem dX4_mayBe_18 : decode cX4_mayBe 18 = .ok (.getfield 87, 3) := by decide +kernel
theorem dX4_mayBe_21 : decode cX4_mayBe 21 = .ok (.if_icmp .ge 35, 3) := by decide +kernel
theorem dX4_mayBe_24 : decode cX4_mayBe 24 = .ok (.aload_n 0, 1) := by decide +kernel
theorem dX4_mayBe_25 : decode cX4_mayBe 25 = .ok (.getfield 185, 3) := by decide +kernel
theorem dX4_mayBe_28 : decode cX4_mayBe 28 = .ok (.ifCond .eq 28, 3) := by decide +kernel
theorem dX4_mayBe_31 : decode cX4_mayBe 31 = .ok (.iload 5, 2) := by decide +kernel
theorem dX4_mayBe_33 : decode cX4_mayBe 33 = .ok (.aload_n 0, 1) := by decide +kernel
theorem dX4_mayBe_34 : decode cX4_mayBe 34 = .ok (.iload 6, 2) := by decide +kernel
theorem dX4_mayBe_36 : decode cX4_mayBe 36 = .ok (.invokevirtual 145, 3) := by decide +kernel
theorem dX4_mayBe_39 : decode cX4_mayBe 39 = .ok (.ifCond .eq 7, 3) := by decide +kernel
theorem dX4_mayBe_42 : decode cX4_mayBe 42 = .ok (.iconst 1, 1) := by decide +kernel
theorem dX4_mayBe_43 : decode cX4_mayBe 43 = .ok (.goto 4, 3) := by decide +kernel
theorem dX4_mayBe_46 : decode cX4_mayBe 46 = .ok (.iconst 0, 1) := by decide +kernel
theorem dX4_mayBe_47 : decode cX4_mayBe 47 = .ok (.iadd, 1) := by decide +kernel
theorem dX4_mayBe_48 : decode cX4_mayBe 48 = .ok (.istore 5, 2) := by decide +kernel
theorem dX4_mayBe_50 : decode cX4_mayBe 50 = .ok (.iinc 6 1, 3) := by decide +kernel
theorem dX4_mayBe_53 : decode cX4_mayBe 53 = .ok (.goto (-38), 3) := by decide +kernel
theorem dX4_mayBe_56 : decode cX4_mayBe 56 = .ok (.aload_n 0, 1) := by decide +kernel
theorem dX4_mayBe_57 : decode cX4_mayBe 57 = .ok (.getfield 185, 3) := by decide +kernel
theorem dX4_mayBe_60 : decode cX4_mayBe 60 = .ok (.ifCond .eq 27, 3) := by decide +kernel
theorem dX4_mayBe_63 : decode cX4_mayBe 63 = .ok (.iload 5, 2) := by decide +kernel
theorem dX4_mayBe_65 : decode cX4_mayBe 65 = .ok (.aload_n 0, 1) := by decide +kernel
theorem dX4_mayBe_66 : decode cX4_mayBe 66 = .ok (.getfield 188, 3) := by decide +kernel
theorem dX4_mayBe_69 : decode cX4_mayBe 69 = .ok (.if_icmp .eq 18, 3) := by decide +kernel
theorem dX4_mayBe_72 : decode cX4_mayBe 72 = .ok (.iload 5, 2) := by decide +kernel
theorem dX4_mayBe_74 : decode cX4_mayBe 74 = .ok (.aload_n 0, 1) := by decide +kernel
theorem dX4_mayBe_75 : decode cX4_mayBe 75 = .ok (.getfield 188, 3) := by decide +kernel
theorem dX4_mayBe_78 : decode cX4_mayBe 78 = .ok (.if_icmp .le 7, 3) := by decide +kernel
theorem dX4_mayBe_81 : decode cX4_mayBe 81 = .ok (.iconst 1, 1) := by decide +kernel
theorem dX4_mayBe_82 : decode cX4_mayBe 82 = .ok (.goto 4, 3) := by decide +kernel
theorem dX4_mayBe_85 : decode cX4_mayBe 85 = .ok (.iconst 0, 1) := by decide +kernel
theorem dX4_mayBe_86 : decode cX4_mayBe 86 = .ok (.ireturn, 1) := by decide +kernel
theorem dX4_mayBe_87 : decode cX4_mayBe 87 = .ok (.iload_n 3, 1) := by decide +kernel
theorem dX4_mayBe_88 : decode cX4_mayBe 88 = .ok (.aload_n 0, 1) := by decide +kernel
theorem dX4_mayBe_89 : decode cX4_mayBe 89 = .ok (.getfield 87, 3) := by decide +kernel
theorem dX4_mayBe_92 : decode cX4_mayBe 92 = .ok (.iadd, 1) := by decide +kernel
theorem dX4_mayBe_93 : decode cX4_mayBe 93 = .ok (.iload_n 1, 1) := by decide +kernel
theorem dX4_mayBe_94 : decode cX4_mayBe 94 = .ok (.isub, 1) := by decide +kernel
theorem dX4_mayBe_95 : decode cX4_mayBe 95 = .ok (.istore 6, 2) := by decide +kernel
theorem dX4_mayBe_97 : decode cX4_mayBe 97 = .ok (.iload 6, 2) := by decide +kernel
theorem dX4_mayBe_99 : decode cX4_mayBe 99 = .ok (.aload_n 0, 1) := by decide +kernel
theorem dX4_mayBe_100 : decode cX4_mayBe 100 = .ok (.getfield 191, 3) := by decide +kernel
theorem dX4_mayBe_103 : decode cX4_mayBe 103 = .ok (.if_icmp .eq 20, 3) := by decide +kernel
theorem dX4_mayBe_106 : decode cX4_mayBe 106 = .ok (.iload 6, 2) := by decide +kernel
theorem dX4_mayBe_108 : decode cX4_mayBe 108 = .ok (.aload_n 0, 1) := by decide +kernel
theorem dX4_mayBe_109 : decode cX4_mayBe 109 = .ok (.getfield 191, 3) := by decide +kernel
theorem dX4_mayBe_112 : decode cX4_mayBe 112 = .ok (.if_icmp .le 7, 3) := by decide +kernel
theorem dX4_mayBe_115 : decode cX4_mayBe 115 = .ok (.iconst 1, 1) := by decide +kernel
theorem dX4_mayBe_116 : decode cX4_mayBe 116 = .ok (.goto 45, 3) := by decide +kernel
theorem dX4_mayBe_119 : decode cX4_mayBe 119 = .ok (.iconst 0, 1) := by decide +kernel
theorem dX4_mayBe_120 : decode cX4_mayBe 120 = .ok (.goto 41, 3) := by decide +kernel
theorem dX4_mayBe_123 : decode cX4_mayBe 123 = .ok (.iload 4, 2) := by decide +kernel
theorem dX4_mayBe_125 : decode cX4_mayBe 125 = .ok (.aload_n 0, 1) := by decide +kernel
theorem dX4_mayBe_126 : decode cX4_mayBe 126 = .ok (.getfield 87, 3) := by decide +kernel
theorem dX4_mayBe_129 : decode cX4_mayBe 129 = .ok (.iadd, 1) := by decide +kernel
theorem dX4_mayBe_130 : decode cX4_mayBe 130 = .ok (.iload_n 1, 1) := by decide +kernel
theorem dX4_mayBe_131 : decode cX4_mayBe 131 = .ok (.isub, 1) := by decide +kernel
theorem dX4_mayBe_132 : decode cX4_mayBe 132 = .ok (.aload_n 0, 1) := by decide +kernel
theorem dX4_mayBe_133 : decode cX4_mayBe 133 = .ok (.getfield 194, 3) := by decide +kernel
theorem dX4_mayBe_136 : decode cX4_mayBe 136 = .ok (.if_icmp .lt 20, 3) := by decide +kernel
theorem dX4_mayBe_139 : decode cX4_mayBe 139 = .ok (.iload_n 1, 1) := by decide +kernel
theorem dX4_mayBe_140 : decode cX4_mayBe 140 = .ok (.aload_n 0, 1) := by decide +kernel
theorem dX4_mayBe_141 : decode cX4_mayBe 141 = .ok (.getfield 87, 3) := by decide +kernel
theorem dX4_mayBe_144 : decode cX4_mayBe 144 = .ok (.if_icmp .ne 16, 3) := by decide +kernel
theorem dX4_mayBe_147 : decode cX4_mayBe 147 = .ok (.iload 4, 2) := by decide +kernel
theorem dX4_mayBe_149 : decode cX4_mayBe 149 = .ok (.aload_n 0, 1) := by decide +kernel
theorem dX4_mayBe_150 : decode cX4_mayBe 150 = .ok (.getfield 194, 3) := by decide +kernel
theorem dX4_mayBe_153 : decode cX4_mayBe 153 = .ok (.if_icmp .ge 7, 3) := by decide +kernel
theorem dX4_mayBe_156 : decode cX4_mayBe 156 = .ok (.iconst 1, 1) := by decide +kernel
theorem dX4_mayBe_157 : decode cX4_mayBe 157 = .ok (.goto 4, 3) := by decide +kernel
theorem dX4_mayBe_160 : decode cX4_mayBe 160 = .ok (.iconst 0, 1) := by decide +kernel
theorem dX4_mayBe_161 : decode cX4_mayBe 161 = .ok (.ireturn, 1) := by decide +kernel
theorem dX4_isShort_0 : decode cX4_isShort 0 = .ok (.iload_n 1, 1) := by decide +kernel
theorem dX4_isShort_1 : decode cX4_isShort 1 = .ok (.istore_n 3, 1) := by decide +kernel
theorem dX4_isShort_2 : decode cX4_isShort 2 = .ok (.iconst 1, 1) := by decide +kernel
theorem dX4_isShort_3 : decode cX4_isShort 3 = .ok (.istore 4, 2) := by decide +kernel
theorem dX4_isShort_5 : decode cX4_isShort 5 = .ok (.iload_n 3, 1) := by decide +kernel
theorem dX4_isShort_6 : decode cX4_isShort 6 = .ok (.iload_n 2, 1) := by decide +kernel
theorem dX4_isShort_7 : decode cX4_isShort 7 = .ok (.if_icmp .ge 35, 3) := by decide +kernel
theorem dX4_isShort_10 : decode cX4_isShort 10 = .ok (.aload_n 0, 1) := by decide +kernel
theorem dX4_isShort_11 : decode cX4_isShort 11 = .ok (.getfield 60, 3) := by decide +kernel
theorem dX4_isShort_14 : decode cX4_isShort 14 = .ok (.iload_n 3, 1) := by decide +kernel
theorem dX4_isShort_15 : decode cX4_isShort 15 = .ok (.iaload, 1) := by decide +kernel
theorem dX4_isShort_16 : decode cX4_isShort 16 = .ok (.iload_n 1, 1) := by decide +kernel
theorem dX4_isShort_17 : decode cX4_isShort 17 = .ok (.if_icmp .eq 25, 3) := by decide +kernel
theorem dX4_isShort_20 : decode cX4_isShort 20 = .ok (.iload 4, 2) := by decide +kernel
theorem dX4_isShort_22 : decode cX4_isShort 22 = .ok (.aload_n 0, 1) := by decide +kernel
theorem dX4_isShort_23 : decode cX4_isShort 23 = .ok (.getfield 57, 3) := by decide +kernel
theorem dX4_isShort_26 : decode cX4_isShort 26 = .ok (.if_icmp .gt 16, 3) := by decide +kernel
theorem dX4_isShort_29 : decode cX4_isShort 29 = .ok (.aload_n 0, 1) := by decide +kernel
theorem dX4_isShort_30 : decode cX4_isShort 30 = .ok (.getfield 60, 3) := by decide +kernel
theorem dX4_isShort_33 : decode cX4_isShort 33 = .ok (.iload_n 3, 1) := by decide +kernel
theorem dX4_isShort_34 : decode cX4_isShort 34 = .ok (.iaload, 1) := by decide +kernel
theorem dX4_isShort_35 : decode cX4_isShort 35 = .ok (.istore_n 3, 1) := by decide +kernel
theorem dX4_isShort_36 : decode cX4_isShort 36 = .ok (.iinc 4 1, 3) := by decide +kernel
theorem dX4_isShort_39 : decode cX4_isShort 39 = .ok (.goto (-34), 3) := by decide +kernel
theorem dX4_isShort_42 : decode cX4_isShort 42 = .ok (.iload_n 3, 1) := by decide +kernel
theorem dX4_isShort_43 : decode cX4_isShort 43 = .ok (.iload_n 2, 1) := by decide +kernel
theorem dX4_isShort_44 : decode cX4_isShort 44 = .ok (.if_icmp .ge 28, 3) := by decide +kernel
theorem dX4_isShort_47 : decode cX4_isShort 47 = .ok (.aload_n 0, 1) := by decide +kernel
theorem dX4_isShort_48 : decode cX4_isShort 48 = .ok (.getfield 60, 3) := by decide +kernel
theorem dX4_isShort_51 : decode cX4_isShort 51 = .ok (.iload_n 3, 1) := by decide +kernel
theorem dX4_isShort_52 : decode cX4_isShort 52 = .ok (.iaload, 1) := by decide +kernel
theorem dX4_isShort_53 : decode cX4_isShort 53 = .ok (.iload_n 1, 1) := by decide +kernel
theorem dX4_isShort_54 : decode cX4_isShort 54 = .ok (.if_icmp .ne 18, 3) := by decide +kernel
theorem dX4_isShort_57 : decode cX4_isShort 57 = .ok (.iload 4, 2) := by decide +kernel
theorem dX4_isShort_59 : decode cX4_isShort 59 = .ok (.aload_n 0, 1) := by decide +kernel
theorem dX4_isShort_60 : decode cX4_isShort 60 = .ok (.getfield 57, 3) := by decide +kernel
theorem dX4_isShort_63 : decode cX4_isShort 63 = .ok (.if_icmp .gt 7, 3) := by decide +kernel
theorem dX4_isShort_66 : decode cX4_isShort 66 = .ok (.iconst 1, 1) := by decide +kernel
theorem dX4_isShort_67 : decode cX4_isShort 67 = .ok (.goto 4, 3) := by decide +kernel
theorem dX4_isShort_70 : decode cX4_isShort 70 = .ok (.iconst 0, 1) := by decide +kernel
theorem dX4_isShort_71 : decode cX4_isShort 71 = .ok (.ireturn, 1) := by decide +kernel
theorem dX4_isShort_72 : decode cX4_isShort 72 = .ok (.iload_n 1, 1) := by decide +kernel
theorem dX4_isShort_73 : decode cX4_isShort 73 = .ok (.istore 5, 2) := by decide +kernel
theorem dX4_isShort_75 : decode cX4_isShort 75 = .ok (.iconst 1, 1) := by decide +kernel
theorem dX4_isShort_76 : decode cX4_isShort 76 = .ok (.istore 6, 2) := by decide +kernel
theorem dX4_isShort_78 : decode cX4_isShort 78 = .ok (.iload 6, 2) := by decide +kernel
theorem dX4_isShort_80 : decode cX4_isShort 80 = .ok (.ifCond .eq 102, 3) := by decide +kernel
theorem dX4_isShort_83 : decode cX4_isShort 83 = .ok (.iload 4, 2) := by decide +kernel
theorem dX4_isShort_85 : decode cX4_isShort 85 = .ok (.aload_n 0, 1) := by decide +kernel
theorem dX4_isShort_86 : decode cX4_isShort 86 = .ok (.getfield 57, 3) := by decide +kernel
theorem dX4_isShort_89 : decode cX4_isShort 89 = .ok (.if_icmp .gt 93, 3) := by decide +kernel
theorem dX4_isShort_92 : decode cX4_isShort 92 = .ok (.iconst (-1), 1) := by decide +kernel
theorem dX4_isShort_93 : decode cX4_isShort 93 = .ok (.istore 7, 2) := by decide +kernel
theorem dX4_isShort_95 : decode cX4_isShort 95 = .ok (.iconst 0, 1) := by decide +kernel
theorem dX4_isShort_96 : decode cX4_isShort 96 = .ok (.istore 8, 2) := by decide +kernel
theorem dX4_isShort_98 : decode cX4_isShort 98 = .ok (.iload 8, 2) := by decide +kernel
theorem dX4_isShort_100 : decode cX4_isShort 100 = .ok (.iload_n 2, 1) := by decide +kernel
theorem dX4_isShort_101 : decode cX4_isShort 101 = .ok (.if_icmp .ge 37, 3) := by decide +kernel
theorem dX4_isShort_104 : decode cX4_isShort 104 = .ok (.aload_n 0, 1) := by decide +kernel
theorem dX4_isShort_105 : decode cX4_isShort 105 = .ok (.getfield 60, 3) := by decide +kernel
theorem dX4_isShort_108 : decode cX4_isShort 108 = .ok (.iload 8, 2) := by decide +kernel
theorem dX4_isShort_110 : decode cX4_isShort 110 = .ok (.iaload, 1) := by decide +kernel
theorem dX4_isShort_111 : decode cX4_isShort 111 = .ok (.iload 5, 2) := by decide +kernel
theorem dX4_isShort_113 : decode cX4_isShort 113 = .ok (.if_icmp .ne 15, 3) := by decide +kernel
theorem dX4_isShort_116 : decode cX4_isShort 116 = .ok (.iload 8, 2) := by decide +kernel
theorem dX4_isShort_118 : decode cX4_isShort 118 = .ok (.iload 5, 2) := by decide +kernel
theorem dX4_isShort_120 : decode cX4_isShort 120 = .ok (.if_icmp .eq 8, 3) := by decide +kernel
theorem dX4_isShort_123 : decode cX4_isShort 123 = .ok (.iload 8, 2) := by decide +kernel
theorem dX4_isShort_125 : decode cX4_isShort 125 = .ok (.goto 5, 3) := by decide +kernel
theorem dX4_isShort_128 : decode cX4_isShort 128 = .ok (.iload 7, 2) := by decide +kernel
theorem dX4_isShort_130 : decode cX4_isShort 130 = .ok (.istore 7, 2) := by decide +kernel
theorem dX4_isShort_132 : decode cX4_isShort 132 = .ok (.iinc 8 1, 3) := by decide +kernel
theorem dX4_isShort_135 : decode cX4_isShort 135 = .ok (.goto (-37), 3) := by decide +kernel
theorem dX4_isShort_138 : decode cX4_isShort 138 = .ok (.iload 7, 2) := by decide +kernel
theorem dX4_isShort_140 : decode cX4_isShort 140 = .ok (.ifCond .lt 7, 3) := by decide +kernel
theorem dX4_isShort_143 : decode cX4_isShort 143 = .ok (.iconst 1, 1) := by decide +kernel
theorem dX4_isShort_144 : decode cX4_isShort 144 = .ok (.goto 4, 3) := by decide +kernel
theorem dX4_isShort_147 : decode cX4_isShort 147 = .ok (.iconst 0, 1) := by decide +kernel
theorem dX4_isShort_148 : decode cX4_isShort 148 = .ok (.istore 6, 2) := by decide +kernel
theorem dX4_isShort_150 : decode cX4_isShort 150 = .ok (.iload 6, 2) := by decide +kernel
theorem dX4_isShort_152 : decode cX4_isShort 152 = .ok (.ifCond .eq 8, 3) := by decide +kernel
theorem dX4_isShort_155 : decode cX4_isShort 155 = .ok (.iload 7, 2) := by decide +kernel
theorem dX4_isShort_157 : decode cX4_isShort 157 = .ok (.goto 5, 3) := by decide +kernel
theorem dX4_isShort_160 : decode cX4_isShort 160 = .ok (.iload 5, 2) := by decide +kernel
theorem dX4_isShort_162 : decode cX4_isShort 162 = .ok (.istore 5, 2) := by decide +kernel
theorem dX4_isShort_164 : decode cX4_isShort 164 = .ok (.iload 4, 2) := by decide +kernel
theorem dX4_isShort_166 : decode cX4_isShort 166 = .ok (.iload 6, 2) := by decide +kernel
theorem dX4_isShort_168 : decode cX4_isShort 168 = .ok (.ifCond .eq 7, 3) := by decide +kernel
theorem dX4_isShort_171 : decode cX4_isShort 171 = .ok (.iconst 1, 1) := by decide +kernel
theorem dX4_isShort_172 : decode cX4_isShort 172 = .ok (.goto 4, 3) := by decide +kernel
theorem dX4_isShort_175 : decode cX4_isShort 175 = .ok (.iconst 0, 1) := by decide +kernel
theorem dX4_isShort_176 : decode cX4_isShort 176 = .ok (.iadd, 1) := by decide +kernel
theorem dX4_isShort_177 : decode cX4_isShort 177 = .ok (.istore 4, 2) := by decide +kernel
theorem dX4_isShort_179 : decode cX4_isShort 179 = .ok (.goto (-101), 3) := by decide +kernel
theorem dX4_isShort_182 : decode cX4_isShort 182 = .ok (.iload 4, 2) := by decide +kernel
theorem dX4_isShort_184 : decode cX4_isShort 184 = .ok (.aload_n 0, 1) := by decide +kernel
theorem dX4_isShort_185 : decode cX4_isShort 185 = .ok (.getfield 57, 3) := by decide +kernel
theorem dX4_isShort_188 : decode cX4_isShort 188 = .ok (.if_icmp .gt 7, 3) := by decide +kernel
theorem dX4_isShort_191 : decode cX4_isShort 191 = .ok (.iconst 1, 1) := by decide +kernel
theorem dX4_isShort_192 : decode cX4_isShort 192 = .ok (.goto 4, 3) := by decide +kernel
theorem dX4_isShort_195 : decode cX4_isShort 195 = .ok (.iconst 0, 1) := by decide +kernel
theorem dX4_isShort_196 : decode cX4_isShort 196 = .ok (.ireturn, 1) := by decide +kernel
theorem dX4_offers_0 : decode cX4_offers 0 = .ok (.aload_n 0, 1) := by decide +kernel
theorem dX4_offers_1 : decode cX4_offers 1 = .ok (.getfield 181, 3) := by decide +kernel
theorem dX4_offers_4 : decode cX4_offers 4 = .ok (.ifCond .eq 18, 3) := by decide +kernel
theorem dX4_offers_7 : decode cX4_offers 7 = .ok (.aload_n 0, 1) := by decide +kernel
theorem dX4_offers_8 : decode cX4_offers 8 = .ok (.getfield 185, 3) := by decide +kernel
theorem dX4_offers_11 : decode cX4_offers 11 = .ok (.ifCond .eq 15, 3) := by decide +kernel
theorem dX4_offers_14 : decode cX4_offers 14 = .ok (.iload_n 1, 1) := by decide +kernel
theorem dX4_offers_15 : decode cX4_offers 15 = .ok (.aload_n 0, 1) := by decide +kernel
theorem dX4_offers_16 : decode cX4_offers 16 = .ok (.getfield 188, 3) := by decide +kernel
theorem dX4_offers_19 : decode cX4_offers 19 = .ok (.if_icmp .le 7, 3) := by decide +kernel
theorem dX4_offers_22 : decode cX4_offers 22 = .ok (.iconst 1, 1) := by decide +kernel
theorem dX4_offers_23 : decode cX4_offers 23 = .ok (.goto 4, 3) := by decide +kernel
theorem dX4_offers_26 : decode cX4_offers 26 = .ok (.iconst 0, 1) := by decide +kernel
theorem dX4_offers_27 : decode cX4_offers 27 = .ok (.istore 4, 2) := by decide +kernel
theorem dX4_offers_29 : decode cX4_offers 29 = .ok (.iload 4, 2) := by decide +kernel
theorem dX4_offers_31 : decode cX4_offers 31 = .ok (.ifCond .ne 49, 3) := by decide +kernel
theorem dX4_offers_34 : decode cX4_offers 34 = .ok (.aload_n 0, 1) := by decide +kernel
theorem dX4_offers_35 : decode cX4_offers 35 = .ok (.getfield 185, 3) := by decide +kernel
theorem dX4_offers_38 : decode cX4_offers 38 = .ok (.ifCond .eq 11, 3) := by decide +kernel
theorem dX4_offers_41 : decode cX4_offers 41 = .ok (.iload_n 1, 1) := by decide +kernel
theorem dX4_offers_42 : decode cX4_offers 42 = .ok (.aload_n 0, 1) := by decide +kernel
theorem dX4_offers_43 : decode cX4_offers 43 = .ok (.getfield 188, 3) := by decide +kernel
theorem dX4_offers_46 : decode cX4_offers 46 = .ok (.if_icmp .ne 34, 3) := by decide +kernel
theorem dX4_offers_49 : decode cX4_offers 49 = .ok (.iload_n 2, 1) := by decide +kernel
theorem dX4_offers_50 : decode cX4_offers 50 = .ok (.aload_n 0, 1) := by decide +kernel
theorem dX4_offers_51 : decode cX4_offers 51 = .ok (.getfield 191, 3) := by decide +kernel
theorem dX4_offers_54 : decode cX4_offers 54 = .ok (.if_icmp .gt 19, 3) := by decide +kernel
theorem dX4_offers_57 : decode cX4_offers 57 = .ok (.iload_n 2, 1) := by decide +kernel
theorem dX4_offers_58 : decode cX4_offers 58 = .ok (.aload_n 0, 1) := by decide +kernel
theorem dX4_offers_59 : decode cX4_offers 59 = .ok (.getfield 191, 3) := by decide +kernel
theorem dX4_offers_62 : decode cX4_offers 62 = .ok (.if_icmp .ne 15, 3) := by decide +kernel
theorem dX4_offers_65 : decode cX4_offers 65 = .ok (.iload_n 3, 1) := by decide +kernel
theorem dX4_offers_66 : decode cX4_offers 66 = .ok (.aload_n 0, 1) := by decide +kernel
theorem dX4_offers_67 : decode cX4_offers 67 = .ok (.getfield 194, 3) := by decide +kernel
theorem dX4_offers_70 : decode cX4_offers 70 = .ok (.if_icmp .ge 7, 3) := by decide +kernel
theorem dX4_offers_73 : decode cX4_offers 73 = .ok (.iconst 1, 1) := by decide +kernel
theorem dX4_offers_74 : decode cX4_offers 74 = .ok (.goto 4, 3) := by decide +kernel
theorem dX4_offers_77 : decode cX4_offers 77 = .ok (.iconst 0, 1) := by decide +kernel
theorem dX4_offers_78 : decode cX4_offers 78 = .ok (.istore 4, 2) := by decide +kernel
theorem dX4_offers_80 : decode cX4_offers 80 = .ok (.iload 4, 2) := by decide +kernel
theorem dX4_offers_82 : decode cX4_offers 82 = .ok (.ifCond .ne 4, 3) := by decide +kernel
theorem dX4_offers_85 : decode cX4_offers 85 = .ok (.return_, 1) := by decide +kernel
theorem dX4_offers_86 : decode cX4_offers 86 = .ok (.aload_n 0, 1) := by decide +kernel
theorem dX4_offers_87 : decode cX4_offers 87 = .ok (.iconst 1, 1) := by decide +kernel
theorem dX4_offers_88 : decode cX4_offers 88 = .ok (.putfield 181, 3) := by decide +kernel
theorem dX4_offers_91 : decode cX4_offers 91 = .ok (.aload_n 0, 1) := by decide +kernel
theorem dX4_offers_92 : decode cX4_offers 92 = .ok (.iload_n 1, 1) := by decide +kernel
theorem dX4_offers_93 : decode cX4_offers 93 = .ok (.putfield 188, 3) := by decide +kernel
theorem dX4_offers_96 : decode cX4_offers 96 = .ok (.aload_n 0, 1) := by decide +kernel
theorem dX4_offers_97 : decode cX4_offers 97 = .ok (.iload_n 2, 1) := by decide +kernel
theorem dX4_offers_98 : decode cX4_offers 98 = .ok (.putfield 191, 3) := by decide +kernel
theorem dX4_offers_101 : decode cX4_offers 101 = .ok (.aload_n 0, 1) := by decide +kernel
theorem dX4_offers_102 : decode cX4_offers 102 = .ok (.iload_n 3, 1) := by decide +kernel
theorem dX4_offers_103 : decode cX4_offers 103 = .ok (.putfield 194, 3) := by decide +kernel
theorem dX4_offers_106 : decode cX4_offers 106 = .ok (.iconst 0, 1) := by decide +kernel
theorem dX4_offers_107 : decode cX4_offers 107 = .ok (.istore 5, 2) := by decide +kernel
theorem dX4_offers_109 : decode cX4_offers 109 = .ok (.iload 5, 2) := by decide +kernel
theorem dX4_offers_111 : decode cX4_offers 111 = .ok (.aload_n 0, 1) := by decide +kernel
theorem dX4_offers_112 : decode cX4_offers 112 = .ok (.getfield 87, 3) := by decide +kernel
theorem dX4_offers_115 : decode cX4_offers 115 = .ok (.if_icmp .ge 39, 3) := by decide +kernel
theorem dX4_offers_118 : decode cX4_offers 118 = .ok (.aload_n 0, 1) := by decide +kernel
theorem dX4_offers_119 : decode cX4_offers 119 = .ok (.getfield 63, 3) := by decide +kernel
theorem dX4_offers_122 : decode cX4_offers 122 = .ok (.iload 5, 2) := by decide +kernel
theorem dX4_offers_124 : decode cX4_offers 124 = .ok (.aload_n 0, 1) := by decide +kernel
theorem dX4_offers_125 : decode cX4_offers 125 = .ok (.getfield 60, 3) := by decide +kernel
theorem dX4_offers_128 : decode cX4_offers 128 = .ok (.iload 5, 2) := by decide +kernel
theorem dX4_offers_130 : decode cX4_offers 130 = .ok (.iaload, 1) := by decide +kernel
theorem dX4_offers_131 : decode cX4_offers 131 = .ok (.iload 5, 2) := by decide +kernel
theorem dX4_offers_133 : decode cX4_offers 133 = .ok (.if_icmp .ne 7, 3) := by decide +kernel
theorem dX4_offers_136 : decode cX4_offers 136 = .ok (.iconst (-1), 1) := by decide +kernel
theorem dX4_offers_137 : decode cX4_offers 137 = .ok (.goto 10, 3) := by decide +kernel
theorem dX4_offers_140 : decode cX4_offers 140 = .ok (.aload_n 0, 1) := by decide +kernel
theorem dX4_offers_141 : decode cX4_offers 141 = .ok (.getfield 60, 3) := by decide +kernel
theorem dX4_offers_144 : decode cX4_offers 144 = .ok (.iload 5, 2) := by decide +kernel
theorem dX4_offers_146 : decode cX4_offers 146 = .ok (.iaload, 1) := by decide +kernel
theorem dX4_offers_147 : decode cX4_offers 147 = .ok (.iastore, 1) := by decide +kernel
theorem dX4_offers_148 : decode cX4_offers 148 = .ok (.iinc 5 1, 3) := by decide +kernel
theorem dX4_offers_151 : decode cX4_offers 151 = .ok (.goto (-42), 3) := by decide +kernel
theorem dX4_offers_154 : decode cX4_offers 154 = .ok (.return_, 1) := by decide +kernel
theorem dX4_goes_0 : decode cX4_goes 0 = .ok (.aload_n 0, 1) := by decide +kernel
theorem dX4_goes_1 : decode cX4_goes 1 = .ok (.iload_n 1, 1) := by decide +kernel
theorem dX4_goes_2 : decode cX4_goes 2 = .ok (.iload_n 3, 1) := by decide +kernel
theorem dX4_goes_3 : decode cX4_goes 3 = .ok (.iload 4, 2) := by decide +kernel
theorem dX4_goes_5 : decode cX4_goes 5 = .ok (.iload 5, 2) := by decide +kernel
theorem dX4_goes_7 : decode cX4_goes 7 = .ok (.invokevirtual 197, 3) := by decide +kernel
theorem dX4_goes_10 : decode cX4_goes 10 = .ok (.ifCond .ne 4, 3) := by decide +kernel
theorem dX4_goes_13 : decode cX4_goes 13 = .ok (.return_, 1) := by decide +kernel
theorem dX4_goes_14 : decode cX4_goes 14 = .ok (.iload_n 1, 1) := by decide +kernel
theorem dX4_goes_15 : decode cX4_goes 15 = .ok (.aload_n 0, 1) := by decide +kernel
theorem dX4_goes_16 : decode cX4_goes 16 = .ok (.getfield 87, 3) := by decide +kernel
theorem dX4_goes_19 : decode cX4_goes 19 = .ok (.if_icmp .ne 13, 3) := by decide +kernel
theorem dX4_goes_22 : decode cX4_goes 22 = .ok (.aload_n 0, 1) := by decide +kernel
theorem dX4_goes_23 : decode cX4_goes 23 = .ok (.iload_n 3, 1) := by decide +kernel
theorem dX4_goes_24 : decode cX4_goes 24 = .ok (.iload 4, 2) := by decide +kernel
theorem dX4_goes_26 : decode cX4_goes 26 = .ok (.iload 5, 2) := by decide +kernel
theorem dX4_goes_28 : decode cX4_goes 28 = .ok (.invokevirtual 201, 3) := by decide +kernel
theorem dX4_goes_31 : decode cX4_goes 31 = .ok (.return_, 1) := by decide +kernel
theorem dX4_goes_32 : decode cX4_goes 32 = .ok (.iconst 0, 1) := by decide +kernel
theorem dX4_goes_33 : decode cX4_goes 33 = .ok (.istore 6, 2) := by decide +kernel
theorem dX4_goes_35 : decode cX4_goes 35 = .ok (.iload 6, 2) := by decide +kernel
theorem dX4_goes_37 : decode cX4_goes 37 = .ok (.aload_n 0, 1) := by decide +kernel
theorem dX4_goes_38 : decode cX4_goes 38 = .ok (.getfield 87, 3) := by decide +kernel
theorem dX4_goes_41 : decode cX4_goes 41 = .ok (.if_icmp .ge 102, 3) := by decide +kernel
theorem dX4_goes_44 : decode cX4_goes 44 = .ok (.iload 6, 2) := by decide +kernel
theorem dX4_goes_46 : decode cX4_goes 46 = .ok (.iload_n 1, 1) := by decide +kernel
theorem dX4_goes_47 : decode cX4_goes 47 = .ok (.if_icmp .eq 90, 3) := by decide +kernel
theorem dX4_goes_50 : decode cX4_goes 50 = .ok (.iload_n 2, 1) := by decide +kernel
theorem dX4_goes_51 : decode cX4_goes 51 = .ok (.iload 6, 2) := by decide +kernel
theorem dX4_goes_53 : decode cX4_goes 53 = .ok (.ishr, 1) := by decide +kernel
theorem dX4_goes_54 : decode cX4_goes 54 = .ok (.iconst 1, 1) := by decide +kernel
theorem dX4_goes_55 : decode cX4_goes 55 = .ok (.iand, 1) := by decide +kernel
theorem dX4_goes_56 : decode cX4_goes 56 = .ok (.iconst 1, 1) := by decide +kernel
theorem dX4_goes_57 : decode cX4_goes 57 = .ok (.if_icmp .eq 80, 3) := by decide +kernel
theorem dX4_goes_60 : decode cX4_goes 60 = .ok (.aload_n 0, 1) := by decide +kernel
theorem dX4_goes_61 : decode cX4_goes 61 = .ok (.iload_n 1, 1) := by decide +kernel
theorem dX4_goes_62 : decode cX4_goes 62 = .ok (.iload 6, 2) := by decide +kernel
theorem dX4_goes_64 : decode cX4_goes 64 = .ok (.invokevirtual 148, 3) := by decide +kernel
theorem dX4_goes_67 : decode cX4_goes 67 = .ok (.ifCond .ne 6, 3) := by decide +kernel
theorem dX4_goes_70 : decode cX4_goes 70 = .ok (.goto 67, 3) := by decide +kernel
theorem dX4_goes_73 : decode cX4_goes 73 = .ok (.aload_n 0, 1) := by decide +kernel
theorem dX4_goes_74 : decode cX4_goes 74 = .ok (.getfield 60, 3) := by decide +kernel
theorem dX4_goes_77 : decode cX4_goes 77 = .ok (.iload_n 1, 1) := by decide +kernel
theorem dX4_goes_78 : decode cX4_goes 78 = .ok (.iload 6, 2) := by decide +kernel
theorem dX4_goes_80 : decode cX4_goes 80 = .ok (.iastore, 1) := by decide +kernel
theorem dX4_goes_81 : decode cX4_goes 81 = .ok (.aload_n 0, 1) := by decide +kernel
theorem dX4_goes_82 : decode cX4_goes 82 = .ok (.iload_n 1, 1) := by decide +kernel
theorem dX4_goes_83 : decode cX4_goes 83 = .ok (.iload_n 1, 1) := by decide +kernel
theorem dX4_goes_84 : decode cX4_goes 84 = .ok (.iconst 1, 1) := by decide +kernel
theorem dX4_goes_85 : decode cX4_goes 85 = .ok (.iadd, 1) := by decide +kernel
theorem dX4_goes_86 : decode cX4_goes 86 = .ok (.invokevirtual 205, 3) := by decide +kernel
theorem dX4_goes_89 : decode cX4_goes 89 = .ok (.ifCond .eq 48, 3) := by decide +kernel
theorem dX4_goes_92 : decode cX4_goes 92 = .ok (.aload_n 0, 1) := by decide +kernel
theorem dX4_goes_93 : decode cX4_goes 93 = .ok (.iload_n 1, 1) := by decide +kernel
theorem dX4_goes_94 : decode cX4_goes 94 = .ok (.iconst 1, 1) := by decide +kernel
theorem dX4_goes_95 : decode cX4_goes 95 = .ok (.iadd, 1) := by decide +kernel
theorem dX4_goes_96 : decode cX4_goes 96 = .ok (.iload_n 2, 1) := by decide +kernel
theorem dX4_goes_97 : decode cX4_goes 97 = .ok (.iconst 1, 1) := by decide +kernel
theorem dX4_goes_98 : decode cX4_goes 98 = .ok (.iload 6, 2) := by decide +kernel
theorem dX4_goes_100 : decode cX4_goes 100 = .ok (.ishl, 1) := by decide +kernel
theorem dX4_goes_101 : decode cX4_goes 101 = .ok (.ior, 1) := by decide +kernel
theorem dX4_goes_102 : decode cX4_goes 102 = .ok (.iload_n 3, 1) := by decide +kernel
theorem dX4_goes_103 : decode cX4_goes 103 = .ok (.aload_n 0, 1) := by decide +kernel
theorem dX4_goes_104 : decode cX4_goes 104 = .ok (.getfield 50, 3) := by decide +kernel
theorem dX4_goes_107 : decode cX4_goes 107 = .ok (.iload_n 1, 1) := by decide +kernel
theorem dX4_goes_108 : decode cX4_goes 108 = .ok (.iaload, 1) := by decide +kernel
theorem dX4_goes_109 : decode cX4_goes 109 = .ok (.iload 6, 2) := by decide +kernel
theorem dX4_goes_111 : decode cX4_goes 111 = .ok (.if_icmp .ne 7, 3) := by decide +kernel
theorem dX4_goes_114 : decode cX4_goes 114 = .ok (.iconst 1, 1) := by decide +kernel
theorem dX4_goes_115 : decode cX4_goes 115 = .ok (.goto 4, 3) := by decide +kernel
theorem dX4_goes_118 : decode cX4_goes 118 = .ok (.iconst 0, 1) := by decide +kernel
theorem dX4_goes_119 : decode cX4_goes 119 = .ok (.iadd, 1) := by decide +kernel
theorem dX4_goes_120 : decode cX4_goes 120 = .ok (.iload 4, 2) := by decide +kernel
theorem dX4_goes_122 : decode cX4_goes 122 = .ok (.iconst 1, 1) := by decide +kernel
theorem dX4_goes_123 : decode cX4_goes 123 = .ok (.iadd, 1) := by decide +kernel
theorem dX4_goes_124 : decode cX4_goes 124 = .ok (.iload 5, 2) := by decide +kernel
theorem dX4_goes_126 : decode cX4_goes 126 = .ok (.aload_n 0, 1) := by decide +kernel
theorem dX4_goes_127 : decode cX4_goes 127 = .ok (.iload_n 1, 1) := by decide +kernel
theorem dX4_goes_128 : decode cX4_goes 128 = .ok (.iload 6, 2) := by decide +kernel
theorem dX4_goes_130 : decode cX4_goes 130 = .ok (.invokevirtual 111, 3) := by decide +kernel
theorem dX4_goes_133 : decode cX4_goes 133 = .ok (.iadd, 1) := by decide +kernel
theorem dX4_goes_134 : decode cX4_goes 134 = .ok (.invokevirtual 208, 3) := by decide +kernel
theorem dX4_goes_137 : decode cX4_goes 137 = .ok (.iinc 6 1, 3) := by decide +kernel
theorem dX4_goes_140 : decode cX4_goes 140 = .ok (.goto (-105), 3) := by decide +kernel
theorem dX4_goes_143 : decode cX4_goes 143 = .ok (.iload_n 2, 1) := by decide +kernel
theorem dX4_goes_144 : decode cX4_goes 144 = .ok (.iload_n 1, 1) := by decide +kernel
theorem dX4_goes_145 : decode cX4_goes 145 = .ok (.ishr, 1) := by decide +kernel
theorem dX4_goes_146 : decode cX4_goes 146 = .ok (.iconst 1, 1) := by decide +kernel
theorem dX4_goes_147 : decode cX4_goes 147 = .ok (.iand, 1) := by decide +kernel
theorem dX4_goes_148 : decode cX4_goes 148 = .ok (.ifCond .ne 27, 3) := by decide +kernel
theorem dX4_goes_151 : decode cX4_goes 151 = .ok (.aload_n 0, 1) := by decide +kernel
theorem dX4_goes_152 : decode cX4_goes 152 = .ok (.getfield 60, 3) := by decide +kernel
theorem dX4_goes_155 : decode cX4_goes 155 = .ok (.iload_n 1, 1) := by decide +kernel
theorem dX4_goes_156 : decode cX4_goes 156 = .ok (.iload_n 1, 1) := by decide +kernel
theorem dX4_goes_157 : decode cX4_goes 157 = .ok (.iastore, 1) := by decide +kernel
theorem dX4_goes_158 : decode cX4_goes 158 = .ok (.aload_n 0, 1) := by decide +kernel
theorem dX4_goes_159 : decode cX4_goes 159 = .ok (.iload_n 1, 1) := by decide +kernel
theorem dX4_goes_160 : decode cX4_goes 160 = .ok (.iconst 1, 1) := by decide +kernel
theorem dX4_goes_161 : decode cX4_goes 161 = .ok (.iadd, 1) := by decide +kernel
theorem dX4_goes_162 : decode cX4_goes 162 = .ok (.iload_n 2, 1) := by decide +kernel
theorem dX4_goes_163 : decode cX4_goes 163 = .ok (.iconst 1, 1) := by decide +kernel
theorem dX4_goes_164 : decode cX4_goes 164 = .ok (.iload_n 1, 1) := by decide +kernel
theorem dX4_goes_165 : decode cX4_goes 165 = .ok (.ishl, 1) := by decide +kernel
theorem dX4_goes_166 : decode cX4_goes 166 = .ok (.ior, 1) := by decide +kernel
theorem dX4_goes_167 : decode cX4_goes 167 = .ok (.iload_n 3, 1) := by decide +kernel
theorem dX4_goes_168 : decode cX4_goes 168 = .ok (.iload 4, 2) := by decide +kernel
theorem dX4_goes_170 : decode cX4_goes 170 = .ok (.iload 5, 2) := by decide +kernel
theorem dX4_goes_172 : decode cX4_goes 172 = .ok (.invokevirtual 208, 3) := by decide +kernel
theorem dX4_goes_175 : decode cX4_goes 175 = .ok (.return_, 1) := by decide +kernel
theorem dX4_all_0 : decode cX4_all 0 = .ok (.aload_n 0, 1) := by decide +kernel
theorem dX4_all_1 : decode cX4_all 1 = .ok (.iconst 0, 1) := by decide +kernel
theorem dX4_all_2 : decode cX4_all 2 = .ok (.putfield 181, 3) := by decide +kernel
theorem dX4_all_5 : decode cX4_all 5 = .ok (.aload_n 0, 1) := by decide +kernel
theorem dX4_all_6 : decode cX4_all 6 = .ok (.iload_n 1, 1) := by decide +kernel
theorem dX4_all_7 : decode cX4_all 7 = .ok (.putfield 185, 3) := by decide +kernel
theorem dX4_all_10 : decode cX4_all 10 = .ok (.aload_n 0, 1) := by decide +kernel
theorem dX4_all_11 : decode cX4_all 11 = .ok (.iconst 0, 1) := by decide +kernel
theorem dX4_all_12 : decode cX4_all 12 = .ok (.iconst 0, 1) := by decide +kernel
theorem dX4_all_13 : decode cX4_all 13 = .ok (.iconst 0, 1) := by decide +kernel
theorem dX4_all_14 : decode cX4_all 14 = .ok (.iconst 0, 1) := by decide +kernel
theorem dX4_all_15 : decode cX4_all 15 = .ok (.iconst 0, 1) := by decide +kernel
theorem dX4_all_16 : decode cX4_all 16 = .ok (.invokevirtual 208, 3) := by decide +kernel
theorem dX4_all_19 : decode cX4_all 19 = .ok (.iconst 0, 1) := by decide +kernel
theorem dX4_all_20 : decode cX4_all 20 = .ok (.istore_n 2, 1) := by decide +kernel
theorem dX4_all_21 : decode cX4_all 21 = .ok (.iload_n 2, 1) := by decide +kernel
theorem dX4_all_22 : decode cX4_all 22 = .ok (.aload_n 0, 1) := by decide +kernel
theorem dX4_all_23 : decode cX4_all 23 = .ok (.getfield 87, 3) := by decide +kernel
theorem dX4_all_26 : decode cX4_all 26 = .ok (.if_icmp .ge 21, 3) := by decide +kernel
theorem dX4_all_29 : decode cX4_all 29 = .ok (.aload_n 0, 1) := by decide +kernel
theorem dX4_all_30 : decode cX4_all 30 = .ok (.getfield 50, 3) := by decide +kernel
theorem dX4_all_33 : decode cX4_all 33 = .ok (.iload_n 2, 1) := by decide +kernel
theorem dX4_all_34 : decode cX4_all 34 = .ok (.aload_n 0, 1) := by decide +kernel
theorem dX4_all_35 : decode cX4_all 35 = .ok (.getfield 63, 3) := by decide +kernel
theorem dX4_all_38 : decode cX4_all 38 = .ok (.iload_n 2, 1) := by decide +kernel
theorem dX4_all_39 : decode cX4_all 39 = .ok (.iaload, 1) := by decide +kernel
theorem dX4_all_40 : decode cX4_all 40 = .ok (.iastore, 1) := by decide +kernel
theorem dX4_all_41 : decode cX4_all 41 = .ok (.iinc 2 1, 3) := by decide +kernel
theorem dX4_all_44 : decode cX4_all 44 = .ok (.goto (-23), 3) := by decide +kernel
theorem dX4_all_47 : decode cX4_all 47 = .ok (.return_, 1) := by decide +kernel
theorem dX4_best_0 : decode cX4_best 0 = .ok (.aload_n 0, 1) := by decide +kernel
theorem dX4_best_1 : decode cX4_best 1 = .ok (.iconst 0, 1) := by decide +kernel
theorem dX4_best_2 : decode cX4_best 2 = .ok (.putfield 84, 3) := by decide +kernel
theorem dX4_best_5 : decode cX4_best 5 = .ok (.aload_n 0, 1) := by decide +kernel
theorem dX4_best_6 : decode cX4_best 6 = .ok (.iconst 0, 1) := by decide +kernel
theorem dX4_best_7 : decode cX4_best 7 = .ok (.putfield 98, 3) := by decide +kernel
theorem dX4_best_10 : decode cX4_best 10 = .ok (.aload_n 0, 1) := by decide +kernel
theorem dX4_best_11 : decode cX4_best 11 = .ok (.iconst 0, 1) := by decide +kernel
theorem dX4_best_12 : decode cX4_best 12 = .ok (.invokevirtual 212, 3) := by decide +kernel
theorem dX4_best_15 : decode cX4_best 15 = .ok (.aload_n 0, 1) := by decide +kernel
theorem dX4_best_16 : decode cX4_best 16 = .ok (.getfield 87, 3) := by decide +kernel
theorem dX4_best_19 : decode cX4_best 19 = .ok (.ifCond .ne 7, 3) := by decide +kernel
theorem dX4_best_22 : decode cX4_best 22 = .ok (.iconst 0, 1) := by decide +kernel
theorem dX4_best_23 : decode cX4_best 23 = .ok (.goto 7, 3) := by decide +kernel
theorem dX4_best_26 : decode cX4_best 26 = .ok (.aload_n 0, 1) := by decide +kernel
theorem dX4_best_27 : decode cX4_best 27 = .ok (.getfield 191, 3) := by decide +kernel
theorem dX4_best_30 : decode cX4_best 30 = .ok (.ireturn, 1) := by decide +kernel
theorem dX4_mend_0 : decode cX4_mend 0 = .ok (.aload_n 0, 1) := by decide +kernel
theorem dX4_mend_1 : decode cX4_mend 1 = .ok (.iconst 0, 1) := by decide +kernel
theorem dX4_mend_2 : decode cX4_mend 2 = .ok (.putfield 84, 3) := by decide +kernel
theorem dX4_mend_5 : decode cX4_mend 5 = .ok (.aload_n 0, 1) := by decide +kernel
theorem dX4_mend_6 : decode cX4_mend 6 = .ok (.iconst 0, 1) := by decide +kernel
theorem dX4_mend_7 : decode cX4_mend 7 = .ok (.putfield 98, 3) := by decide +kernel
theorem dX4_mend_10 : decode cX4_mend 10 = .ok (.aload_n 0, 1) := by decide +kernel
theorem dX4_mend_11 : decode cX4_mend 11 = .ok (.iconst 1, 1) := by decide +kernel
theorem dX4_mend_12 : decode cX4_mend 12 = .ok (.invokevirtual 212, 3) := by decide +kernel
theorem dX4_mend_15 : decode cX4_mend 15 = .ok (.aload_n 0, 1) := by decide +kernel
theorem dX4_mend_16 : decode cX4_mend 16 = .ok (.getfield 87, 3) := by decide +kernel
theorem dX4_mend_19 : decode cX4_mend 19 = .ok (.ifCond .ne 7, 3) := by decide +kernel
theorem dX4_mend_22 : decode cX4_mend 22 = .ok (.iconst 0, 1) := by decide +kernel
theorem dX4_mend_23 : decode cX4_mend 23 = .ok (.goto 7, 3) := by decide +kernel
theorem dX4_mend_26 : decode cX4_mend 26 = .ok (.aload_n 0, 1) := by decide +kernel
theorem dX4_mend_27 : decode cX4_mend 27 = .ok (.getfield 188, 3) := by decide +kernel
theorem dX4_mend_30 : decode cX4_mend 30 = .ok (.ireturn, 1) := by decide +kernel
theorem dX4_firstOf_0 : decode cX4_firstOf 0 = .ok (.iconst 0, 1) := by decide +kernel
theorem dX4_firstOf_1 : decode cX4_firstOf 1 = .ok (.istore_n 2, 1) := by decide +kernel
theorem dX4_firstOf_2 : decode cX4_firstOf 2 = .ok (.iload_n 2, 1) := by decide +kernel
theorem dX4_firstOf_3 : decode cX4_firstOf 3 = .ok (.aload_n 0, 1) := by decide +kernel
theorem dX4_firstOf_4 : decode cX4_firstOf 4 = .ok (.getfield 41, 3) := by decide +kernel
theorem dX4_firstOf_7 : decode cX4_firstOf 7 = .ok (.iload_n 1, 1) := by decide +kernel
theorem dX4_firstOf_8 : decode cX4_firstOf 8 = .ok (.iaload, 1) := by decide +kernel
theorem dX4_firstOf_9 : decode cX4_firstOf 9 = .ok (.if_icmp .ge 41, 3) := by decide +kernel
theorem dX4_firstOf_12 : decode cX4_firstOf 12 = .ok (.aload_n 0, 1) := by decide +kernel
theorem dX4_firstOf_13 : decode cX4_firstOf 13 = .ok (.getfield 44, 3) := by decide +kernel
theorem dX4_firstOf_16 : decode cX4_firstOf 16 = .ok (.bipush 10, 2) := by decide +kernel
theorem dX4_firstOf_18 : decode cX4_firstOf 18 = .ok (.iload_n 1, 1) := by decide +kernel
theorem dX4_firstOf_19 : decode cX4_firstOf 19 = .ok (.imul, 1) := by decide +kernel
theorem dX4_firstOf_20 : decode cX4_firstOf 20 = .ok (.iload_n 2, 1) := by decide +kernel
theorem dX4_firstOf_21 : decode cX4_firstOf 21 = .ok (.iadd, 1) := by decide +kernel
theorem dX4_firstOf_22 : decode cX4_firstOf 22 = .ok (.iaload, 1) := by decide +kernel
theorem dX4_firstOf_23 : decode cX4_firstOf 23 = .ok (.istore_n 3, 1) := by decide +kernel
theorem dX4_firstOf_24 : decode cX4_firstOf 24 = .ok (.aload_n 0, 1) := by decide +kernel
theorem dX4_firstOf_25 : decode cX4_firstOf 25 = .ok (.getfield 66, 3) := by decide +kernel
theorem dX4_firstOf_28 : decode cX4_firstOf 28 = .ok (.iload_n 3, 1) := by decide +kernel
theorem dX4_firstOf_29 : decode cX4_firstOf 29 = .ok (.baload, 1) := by decide +kernel
theorem dX4_firstOf_30 : decode cX4_firstOf 30 = .ok (.ifCond .eq 14, 3) := by decide +kernel
theorem dX4_firstOf_33 : decode cX4_firstOf 33 = .ok (.aload_n 0, 1) := by decide +kernel
theorem dX4_firstOf_34 : decode cX4_firstOf 34 = .ok (.iload_n 1, 1) := by decide +kernel
theorem dX4_firstOf_35 : decode cX4_firstOf 35 = .ok (.iload_n 3, 1) := by decide +kernel
theorem dX4_firstOf_36 : decode cX4_firstOf 36 = .ok (.invokevirtual 148, 3) := by decide +kernel
theorem dX4_firstOf_39 : decode cX4_firstOf 39 = .ok (.ifCond .eq 5, 3) := by decide +kernel
theorem dX4_firstOf_42 : decode cX4_firstOf 42 = .ok (.iload_n 3, 1) := by decide +kernel
theorem dX4_firstOf_43 : decode cX4_firstOf 43 = .ok (.ireturn, 1) := by decide +kernel
theorem dX4_firstOf_44 : decode cX4_firstOf 44 = .ok (.iinc 2 1, 3) := by decide +kernel
theorem dX4_firstOf_47 : decode cX4_firstOf 47 = .ok (.goto (-45), 3) := by decide +kernel
theorem dX4_firstOf_50 : decode cX4_firstOf 50 = .ok (.iconst (-1), 1) := by decide +kernel
theorem dX4_firstOf_51 : decode cX4_firstOf 51 = .ok (.ireturn, 1) := by decide +kernel
theorem dX4_leaver_0 : decode cX4_leaver 0 = .ok (.iconst 0, 1) := by decide +kernel
theorem dX4_leaver_1 : decode cX4_leaver 1 = .ok (.istore_n 1, 1) := by decide +kernel
theorem dX4_leaver_2 : decode cX4_leaver 2 = .ok (.iload_n 1, 1) := by decide +kernel
theorem dX4_leaver_3 : decode cX4_leaver 3 = .ok (.aload_n 0, 1) := by decide +kernel
theorem dX4_leaver_4 : decode cX4_leaver 4 = .ok (.getfield 87, 3) := by decide +kernel
theorem dX4_leaver_7 : decode cX4_leaver 7 = .ok (.if_icmp .ge 28, 3) := by decide +kernel
theorem dX4_leaver_10 : decode cX4_leaver 10 = .ok (.aload_n 0, 1) := by decide +kernel
theorem dX4_leaver_11 : decode cX4_leaver 11 = .ok (.getfield 66, 3) := by decide +kernel
theorem dX4_leaver_14 : decode cX4_leaver 14 = .ok (.iload_n 1, 1) := by decide +kernel
theorem dX4_leaver_15 : decode cX4_leaver 15 = .ok (.baload, 1) := by decide +kernel
theorem dX4_leaver_16 : decode cX4_leaver 16 = .ok (.ifCond .eq 13, 3) := by decide +kernel
theorem dX4_leaver_19 : decode cX4_leaver 19 = .ok (.aload_n 0, 1) := by decide +kernel
theorem dX4_leaver_20 : decode cX4_leaver 20 = .ok (.iload_n 1, 1) := by decide +kernel
theorem dX4_leaver_21 : decode cX4_leaver 21 = .ok (.invokevirtual 216, 3) := by decide +kernel
theorem dX4_leaver_24 : decode cX4_leaver 24 = .ok (.ifCond .ge 5, 3) := by decide +kernel
theorem dX4_leaver_27 : decode cX4_leaver 27 = .ok (.iload_n 1, 1) := by decide +kernel
theorem dX4_leaver_28 : decode cX4_leaver 28 = .ok (.ireturn, 1) := by decide +kernel
theorem dX4_leaver_29 : decode cX4_leaver 29 = .ok (.iinc 1 1, 3) := by decide +kernel
theorem dX4_leaver_32 : decode cX4_leaver 32 = .ok (.goto (-30), 3) := by decide +kernel
theorem dX4_leaver_35 : decode cX4_leaver 35 = .ok (.iconst (-1), 1) := by decide +kernel
theorem dX4_leaver_36 : decode cX4_leaver 36 = .ok (.ireturn, 1) := by decide +kernel
theorem dX4_isRound_0 : decode cX4_isRound 0 = .ok (.aload_n 0, 1) := by decide +kernel
theorem dX4_isRound_1 : decode cX4_isRound 1 = .ok (.getfield 69, 3) := by decide +kernel
theorem dX4_isRound_4 : decode cX4_isRound 4 = .ok (.iload_n 1, 1) := by decide +kernel
theorem dX4_isRound_5 : decode cX4_isRound 5 = .ok (.iaload, 1) := by decide +kernel
theorem dX4_isRound_6 : decode cX4_isRound 6 = .ok (.istore_n 2, 1) := by decide +kernel
theorem dX4_isRound_7 : decode cX4_isRound 7 = .ok (.iconst 0, 1) := by decide +kernel
theorem dX4_isRound_8 : decode cX4_isRound 8 = .ok (.istore_n 3, 1) := by decide +kernel
theorem dX4_isRound_9 : decode cX4_isRound 9 = .ok (.iload_n 3, 1) := by decide +kernel
theorem dX4_isRound_10 : decode cX4_isRound 10 = .ok (.aload_n 0, 1) := by decide +kernel
theorem dX4_isRound_11 : decode cX4_isRound 11 = .ok (.getfield 87, 3) := by decide +kernel
theorem dX4_isRound_14 : decode cX4_isRound 14 = .ok (.if_icmp .ge 21, 3) := by decide +kernel
theorem dX4_isRound_17 : decode cX4_isRound 17 = .ok (.iload_n 2, 1) := by decide +kernel
theorem dX4_isRound_18 : decode cX4_isRound 18 = .ok (.iload_n 1, 1) := by decide +kernel
theorem dX4_isRound_19 : decode cX4_isRound 19 = .ok (.if_icmp .eq 16, 3) := by decide +kernel
theorem dX4_isRound_22 : decode cX4_isRound 22 = .ok (.aload_n 0, 1) := by decide +kernel
theorem dX4_isRound_23 : decode cX4_isRound 23 = .ok (.getfield 69, 3) := by decide +kernel
theorem dX4_isRound_26 : decode cX4_isRound 26 = .ok (.iload_n 2, 1) := by decide +kernel
theorem dX4_isRound_27 : decode cX4_isRound 27 = .ok (.iaload, 1) := by decide +kernel
theorem dX4_isRound_28 : decode cX4_isRound 28 = .ok (.istore_n 2, 1) := by decide +kernel
theorem dX4_isRound_29 : decode cX4_isRound 29 = .ok (.iinc 3 1, 3) := by decide +kernel
theorem dX4_isRound_32 : decode cX4_isRound 32 = .ok (.goto (-23), 3) := by decide +kernel
theorem dX4_isRound_35 : decode cX4_isRound 35 = .ok (.iload_n 2, 1) := by decide +kernel
theorem dX4_isRound_36 : decode cX4_isRound 36 = .ok (.iload_n 1, 1) := by decide +kernel
theorem dX4_isRound_37 : decode cX4_isRound 37 = .ok (.if_icmp .ne 7, 3) := by decide +kernel
theorem dX4_isRound_40 : decode cX4_isRound 40 = .ok (.iconst 1, 1) := by decide +kernel
theorem dX4_isRound_41 : decode cX4_isRound 41 = .ok (.goto 4, 3) := by decide +kernel
theorem dX4_isRound_44 : decode cX4_isRound 44 = .ok (.iconst 0, 1) := by decide +kernel
theorem dX4_isRound_45 : decode cX4_isRound 45 = .ok (.ireturn, 1) := by decide +kernel
theorem dX4_trade_0 : decode cX4_trade 0 = .ok (.aload_n 0, 1) := by decide +kernel
theorem dX4_trade_1 : decode cX4_trade 1 = .ok (.iconst 0, 1) := by decide +kernel
theorem dX4_trade_2 : decode cX4_trade 2 = .ok (.putfield 84, 3) := by decide +kernel
theorem dX4_trade_5 : decode cX4_trade 5 = .ok (.aload_n 0, 1) := by decide +kernel
theorem dX4_trade_6 : decode cX4_trade 6 = .ok (.iconst 0, 1) := by decide +kernel
theorem dX4_trade_7 : decode cX4_trade 7 = .ok (.putfield 98, 3) := by decide +kernel
theorem dX4_trade_10 : decode cX4_trade 10 = .ok (.aload_n 0, 1) := by decide +kernel
theorem dX4_trade_11 : decode cX4_trade 11 = .ok (.getfield 87, 3) := by decide +kernel
theorem dX4_trade_14 : decode cX4_trade 14 = .ok (.istore_n 1, 1) := by decide +kernel
theorem dX4_trade_15 : decode cX4_trade 15 = .ok (.iconst 0, 1) := by decide +kernel
theorem dX4_trade_16 : decode cX4_trade 16 = .ok (.istore_n 2, 1) := by decide +kernel
theorem dX4_trade_17 : decode cX4_trade 17 = .ok (.iload_n 2, 1) := by decide +kernel
theorem dX4_trade_18 : decode cX4_trade 18 = .ok (.aload_n 0, 1) := by decide +kernel
theorem dX4_trade_19 : decode cX4_trade 19 = .ok (.getfield 87, 3) := by decide +kernel
theorem dX4_trade_22 : decode cX4_trade 22 = .ok (.if_icmp .ge 23, 3) := by decide +kernel
theorem dX4_trade_25 : decode cX4_trade 25 = .ok (.aload_n 0, 1) := by decide +kernel
theorem dX4_trade_26 : decode cX4_trade 26 = .ok (.getfield 66, 3) := by decide +kernel
theorem dX4_trade_29 : decode cX4_trade 29 = .ok (.iload_n 2, 1) := by decide +kernel
theorem dX4_trade_30 : decode cX4_trade 30 = .ok (.iconst 1, 1) := by decide +kernel
theorem dX4_trade_31 : decode cX4_trade 31 = .ok (.bastore, 1) := by decide +kernel
theorem dX4_trade_32 : decode cX4_trade 32 = .ok (.aload_n 0, 1) := by decide +kernel
theorem dX4_trade_33 : decode cX4_trade 33 = .ok (.getfield 50, 3) := by decide +kernel
theorem dX4_trade_36 : decode cX4_trade 36 = .ok (.iload_n 2, 1) := by decide +kernel
theorem dX4_trade_37 : decode cX4_trade 37 = .ok (.iconst (-1), 1) := by decide +kernel
theorem dX4_trade_38 : decode cX4_trade 38 = .ok (.iastore, 1) := by decide +kernel
theorem dX4_trade_39 : decode cX4_trade 39 = .ok (.iinc 2 1, 3) := by decide +kernel
theorem dX4_trade_42 : decode cX4_trade 42 = .ok (.goto (-25), 3) := by decide +kernel
theorem dX4_trade_45 : decode cX4_trade 45 = .ok (.iload_n 1, 1) := by decide +kernel
theorem dX4_trade_46 : decode cX4_trade 46 = .ok (.ifCond .le 171, 3) := by decide +kernel
theorem dX4_trade_49 : decode cX4_trade 49 = .ok (.aload_n 0, 1) := by decide +kernel
theorem dX4_trade_50 : decode cX4_trade 50 = .ok (.invokevirtual 219, 3) := by decide +kernel
theorem dX4_trade_53 : decode cX4_trade 53 = .ok (.istore_n 2, 1) := by decide +kernel
theorem dX4_trade_54 : decode cX4_trade 54 = .ok (.iload_n 2, 1) := by decide +kernel
theorem dX4_trade_55 : decode cX4_trade 55 = .ok (.ifCond .lt 16, 3) := by decide +kernel
theorem dX4_trade_58 : decode cX4_trade 58 = .ok (.aload_n 0, 1) := by decide +kernel
theorem dX4_trade_59 : decode cX4_trade 59 = .ok (.getfield 66, 3) := by decide +kernel
theorem dX4_trade_62 : decode cX4_trade 62 = .ok (.iload_n 2, 1) := by decide +kernel
theorem dX4_trade_63 : decode cX4_trade 63 = .ok (.iconst 0, 1) := by decide +kernel
theorem dX4_trade_64 : decode cX4_trade 64 = .ok (.bastore, 1) := by decide +kernel
theorem dX4_trade_65 : decode cX4_trade 65 = .ok (.iinc 1 (-1), 3) := by decide +kernel
theorem dX4_trade_68 : decode cX4_trade 68 = .ok (.goto (-23), 3) := by decide +kernel
theorem dX4_trade_71 : decode cX4_trade 71 = .ok (.iconst (-1), 1) := by decide +kernel
theorem dX4_trade_72 : decode cX4_trade 72 = .ok (.istore_n 3, 1) := by decide +kernel
theorem dX4_trade_73 : decode cX4_trade 73 = .ok (.aload_n 0, 1) := by decide +kernel
theorem dX4_trade_74 : decode cX4_trade 74 = .ok (.getfield 87, 3) := by decide +kernel
theorem dX4_trade_77 : decode cX4_trade 77 = .ok (.iconst 1, 1) := by decide +kernel
theorem dX4_trade_78 : decode cX4_trade 78 = .ok (.isub, 1) := by decide +kernel
theorem dX4_trade_79 : decode cX4_trade 79 = .ok (.istore 4, 2) := by decide +kernel
theorem dX4_trade_81 : decode cX4_trade 81 = .ok (.iload 4, 2) := by decide +kernel
theorem dX4_trade_83 : decode cX4_trade 83 = .ok (.ifCond .lt 36, 3) := by decide +kernel
theorem dX4_trade_86 : decode cX4_trade 86 = .ok (.aload_n 0, 1) := by decide +kernel
theorem dX4_trade_87 : decode cX4_trade 87 = .ok (.getfield 69, 3) := by decide +kernel
theorem dX4_trade_90 : decode cX4_trade 90 = .ok (.iload 4, 2) := by decide +kernel
theorem dX4_trade_92 : decode cX4_trade 92 = .ok (.aload_n 0, 1) := by decide +kernel
theorem dX4_trade_93 : decode cX4_trade 93 = .ok (.getfield 66, 3) := by decide +kernel
theorem dX4_trade_96 : decode cX4_trade 96 = .ok (.iload 4, 2) := by decide +kernel
theorem dX4_trade_98 : decode cX4_trade 98 = .ok (.baload, 1) := by decide +kernel
theorem dX4_trade_99 : decode cX4_trade 99 = .ok (.ifCond .eq 12, 3) := by decide +kernel
theorem dX4_trade_102 : decode cX4_trade 102 = .ok (.aload_n 0, 1) := by decide +kernel
theorem dX4_trade_103 : decode cX4_trade 103 = .ok (.iload 4, 2) := by decide +kernel
theorem dX4_trade_105 : decode cX4_trade 105 = .ok (.invokevirtual 216, 3) := by decide +kernel
theorem dX4_trade_108 : decode cX4_trade 108 = .ok (.goto 4, 3) := by decide +kernel
theorem dX4_trade_111 : decode cX4_trade 111 = .ok (.iconst (-1), 1) := by decide +kernel
theorem dX4_trade_112 : decode cX4_trade 112 = .ok (.iastore, 1) := by decide +kernel
theorem dX4_trade_113 : decode cX4_trade 113 = .ok (.iinc 4 (-1), 3) := by decide +kernel
theorem dX4_trade_116 : decode cX4_trade 116 = .ok (.goto (-35), 3) := by decide +kernel
theorem dX4_trade_119 : decode cX4_trade 119 = .ok (.aload_n 0, 1) := by decide +kernel
theorem dX4_trade_120 : decode cX4_trade 120 = .ok (.getfield 87, 3) := by decide +kernel
theorem dX4_trade_123 : decode cX4_trade 123 = .ok (.iconst 1, 1) := by decide +kernel
theorem dX4_trade_124 : decode cX4_trade 124 = .ok (.isub, 1) := by decide +kernel
theorem dX4_trade_125 : decode cX4_trade 125 = .ok (.istore 4, 2) := by decide +kernel
theorem dX4_trade_127 : decode cX4_trade 127 = .ok (.iload 4, 2) := by decide +kernel
theorem dX4_trade_129 : decode cX4_trade 129 = .ok (.ifCond .lt 35, 3) := by decide +kernel
theorem dX4_trade_132 : decode cX4_trade 132 = .ok (.aload_n 0, 1) := by decide +kernel
theorem dX4_trade_133 : decode cX4_trade 133 = .ok (.getfield 66, 3) := by decide +kernel
theorem dX4_trade_136 : decode cX4_trade 136 = .ok (.iload 4, 2) := by decide +kernel
theorem dX4_trade_138 : decode cX4_trade 138 = .ok (.baload, 1) := by decide +kernel
theorem dX4_trade_139 : decode cX4_trade 139 = .ok (.ifCond .eq 17, 3) := by decide +kernel
theorem dX4_trade_142 : decode cX4_trade 142 = .ok (.aload_n 0, 1) := by decide +kernel
theorem dX4_trade_143 : decode cX4_trade 143 = .ok (.iload 4, 2) := by decide +kernel
theorem dX4_trade_145 : decode cX4_trade 145 = .ok (.invokevirtual 222, 3) := by decide +kernel
theorem dX4_trade_148 : decode cX4_trade 148 = .ok (.ifCond .eq 8, 3) := by decide +kernel
theorem dX4_trade_151 : decode cX4_trade 151 = .ok (.iload 4, 2) := by decide +kernel
theorem dX4_trade_153 : decode cX4_trade 153 = .ok (.goto 4, 3) := by decide +kernel
theorem dX4_trade_156 : decode cX4_trade 156 = .ok (.iload_n 3, 1) := by decide +kernel
theorem dX4_trade_157 : decode cX4_trade 157 = .ok (.istore_n 3, 1) := by decide +kernel
theorem dX4_trade_158 : decode cX4_trade 158 = .ok (.iinc 4 (-1), 3) := by decide +kernel
theorem dX4_trade_161 : decode cX4_trade 161 = .ok (.goto (-34), 3) := by decide +kernel
theorem dX4_trade_164 : decode cX4_trade 164 = .ok (.iload_n 3, 1) := by decide +kernel
theorem dX4_trade_165 : decode cX4_trade 165 = .ok (.istore 4, 2) := by decide +kernel
theorem dX4_trade_167 : decode cX4_trade 167 = .ok (.aload_n 0, 1) := by decide +kernel
theorem dX4_trade_168 : decode cX4_trade 168 = .ok (.getfield 66, 3) := by decide +kernel
theorem dX4_trade_171 : decode cX4_trade 171 = .ok (.iload 4, 2) := by decide +kernel
theorem dX4_trade_173 : decode cX4_trade 173 = .ok (.baload, 1) := by decide +kernel
theorem dX4_trade_174 : decode cX4_trade 174 = .ok (.ifCond .eq 40, 3) := by decide +kernel
theorem dX4_trade_177 : decode cX4_trade 177 = .ok (.aload_n 0, 1) := by decide +kernel
theorem dX4_trade_178 : decode cX4_trade 178 = .ok (.getfield 66, 3) := by decide +kernel
theorem dX4_trade_181 : decode cX4_trade 181 = .ok (.iload 4, 2) := by decide +kernel
theorem dX4_trade_183 : decode cX4_trade 183 = .ok (.iconst 0, 1) := by decide +kernel
theorem dX4_trade_184 : decode cX4_trade 184 = .ok (.bastore, 1) := by decide +kernel
theorem dX4_trade_185 : decode cX4_trade 185 = .ok (.iinc 1 (-1), 3) := by decide +kernel
theorem dX4_trade_188 : decode cX4_trade 188 = .ok (.aload_n 0, 1) := by decide +kernel
theorem dX4_trade_189 : decode cX4_trade 189 = .ok (.getfield 50, 3) := by decide +kernel
theorem dX4_trade_192 : decode cX4_trade 192 = .ok (.iload 4, 2) := by decide +kernel
theorem dX4_trade_194 : decode cX4_trade 194 = .ok (.aload_n 0, 1) := by decide +kernel
theorem dX4_trade_195 : decode cX4_trade 195 = .ok (.getfield 69, 3) := by decide +kernel
theorem dX4_trade_198 : decode cX4_trade 198 = .ok (.iload 4, 2) := by decide +kernel
theorem dX4_trade_200 : decode cX4_trade 200 = .ok (.iaload, 1) := by decide +kernel
theorem dX4_trade_201 : decode cX4_trade 201 = .ok (.iastore, 1) := by decide +kernel
theorem dX4_trade_202 : decode cX4_trade 202 = .ok (.aload_n 0, 1) := by decide +kernel
theorem dX4_trade_203 : decode cX4_trade 203 = .ok (.getfield 69, 3) := by decide +kernel
theorem dX4_trade_206 : decode cX4_trade 206 = .ok (.iload 4, 2) := by decide +kernel
theorem dX4_trade_208 : decode cX4_trade 208 = .ok (.iaload, 1) := by decide +kernel
theorem dX4_trade_209 : decode cX4_trade 209 = .ok (.istore 4, 2) := by decide +kernel
theorem dX4_trade_211 : decode cX4_trade 211 = .ok (.goto (-44), 3) := by decide +kernel
theorem dX4_trade_214 : decode cX4_trade 214 = .ok (.goto (-169), 3) := by decide +kernel
theorem dX4_trade_217 : decode cX4_trade 217 = .ok (.aload_n 0, 1) := by decide +kernel
theorem dX4_trade_218 : decode cX4_trade 218 = .ok (.invokevirtual 167, 3) := by decide +kernel
theorem dX4_trade_221 : decode cX4_trade 221 = .ok (.ireturn, 1) := by decide +kernel
theorem dX4_wouldRather_0 : decode cX4_wouldRather 0 = .ok (.aload_n 0, 1) := by decide +kernel
theorem dX4_wouldRather_1 : decode cX4_wouldRather 1 = .ok (.iload_n 1, 1) := by decide +kernel
theorem dX4_wouldRather_2 : decode cX4_wouldRather 2 = .ok (.invokevirtual 145, 3) := by decide +kernel
theorem dX4_wouldRather_5 : decode cX4_wouldRather 5 = .ok (.ifCond .eq 17, 3) := by decide +kernel
theorem dX4_wouldRather_8 : decode cX4_wouldRather 8 = .ok (.aload_n 0, 1) := by decide +kernel
theorem dX4_wouldRather_9 : decode cX4_wouldRather 9 = .ok (.iload_n 1, 1) := by decide +kernel
theorem dX4_wouldRather_10 : decode cX4_wouldRather 10 = .ok (.aload_n 0, 1) := by decide +kernel
theorem dX4_wouldRather_11 : decode cX4_wouldRather 11 = .ok (.getfield 50, 3) := by decide +kernel
theorem dX4_wouldRather_14 : decode cX4_wouldRather 14 = .ok (.iload_n 1, 1) := by decide +kernel
theorem dX4_wouldRather_15 : decode cX4_wouldRather 15 = .ok (.iaload, 1) := by decide +kernel
theorem dX4_wouldRather_16 : decode cX4_wouldRather 16 = .ok (.invokevirtual 111, 3) := by decide +kernel
theorem dX4_wouldRather_19 : decode cX4_wouldRather 19 = .ok (.goto 4, 3) := by decide +kernel
theorem dX4_wouldRather_22 : decode cX4_wouldRather 22 = .ok (.iconst 0, 1) := by decide +kernel
theorem dX4_wouldRather_23 : decode cX4_wouldRather 23 = .ok (.istore_n 3, 1) := by decide +kernel
theorem dX4_wouldRather_24 : decode cX4_wouldRather 24 = .ok (.aload_n 0, 1) := by decide +kernel
theorem dX4_wouldRather_25 : decode cX4_wouldRather 25 = .ok (.iload_n 1, 1) := by decide +kernel
theorem dX4_wouldRather_26 : decode cX4_wouldRather 26 = .ok (.iload_n 2, 1) := by decide +kernel
theorem dX4_wouldRather_27 : decode cX4_wouldRather 27 = .ok (.invokevirtual 148, 3) := by decide +kernel
theorem dX4_wouldRather_30 : decode cX4_wouldRather 30 = .ok (.ifCond .eq 21, 3) := by decide +kernel
theorem dX4_wouldRather_33 : decode cX4_wouldRather 33 = .ok (.iload_n 3, 1) := by decide +kernel
theorem dX4_wouldRather_34 : decode cX4_wouldRather 34 = .ok (.ifCond .eq 13, 3) := by decide +kernel
theorem dX4_wouldRather_37 : decode cX4_wouldRather 37 = .ok (.aload_n 0, 1) := by decide +kernel
theorem dX4_wouldRather_38 : decode cX4_wouldRather 38 = .ok (.iload_n 1, 1) := by decide +kernel
theorem dX4_wouldRather_39 : decode cX4_wouldRather 39 = .ok (.iload_n 2, 1) := by decide +kernel
theorem dX4_wouldRather_40 : decode cX4_wouldRather 40 = .ok (.invokevirtual 111, 3) := by decide +kernel
theorem dX4_wouldRather_43 : decode cX4_wouldRather 43 = .ok (.iload_n 3, 1) := by decide +kernel
theorem dX4_wouldRather_44 : decode cX4_wouldRather 44 = .ok (.if_icmp .ge 7, 3) := by decide +kernel
theorem dX4_wouldRather_47 : decode cX4_wouldRather 47 = .ok (.iconst 1, 1) := by decide +kernel
theorem dX4_wouldRather_48 : decode cX4_wouldRather 48 = .ok (.goto 4, 3) := by decide +kernel
theorem dX4_wouldRather_51 : decode cX4_wouldRather 51 = .ok (.iconst 0, 1) := by decide +kernel
theorem dX4_wouldRather_52 : decode cX4_wouldRather 52 = .ok (.ireturn, 1) := by decide +kernel
theorem dX4_closes_0 : decode cX4_closes 0 = .ok (.aload_n 0, 1) := by decide +kernel
theorem dX4_closes_1 : decode cX4_closes 1 = .ok (.getfield 75, 3) := by decide +kernel
theorem dX4_closes_4 : decode cX4_closes 4 = .ok (.iload_n 2, 1) := by decide +kernel
theorem dX4_closes_5 : decode cX4_closes 5 = .ok (.iconst 1, 1) := by decide +kernel
theorem dX4_closes_6 : decode cX4_closes 6 = .ok (.isub, 1) := by decide +kernel
theorem dX4_closes_7 : decode cX4_closes 7 = .ok (.iaload, 1) := by decide +kernel
theorem dX4_closes_8 : decode cX4_closes 8 = .ok (.istore 4, 2) := by decide +kernel
theorem dX4_closes_10 : decode cX4_closes 10 = .ok (.iload_n 2, 1) := by decide +kernel
theorem dX4_closes_11 : decode cX4_closes 11 = .ok (.iload_n 1, 1) := by decide +kernel
theorem dX4_closes_12 : decode cX4_closes 12 = .ok (.if_icmp .ne 16, 3) := by decide +kernel
theorem dX4_closes_15 : decode cX4_closes 15 = .ok (.aload_n 0, 1) := by decide +kernel
theorem dX4_closes_16 : decode cX4_closes 16 = .ok (.iload 4, 2) := by decide +kernel
theorem dX4_closes_18 : decode cX4_closes 18 = .ok (.aload_n 0, 1) := by decide +kernel
theorem dX4_closes_19 : decode cX4_closes 19 = .ok (.getfield 75, 3) := by decide +kernel
theorem dX4_closes_22 : decode cX4_closes 22 = .ok (.iconst 0, 1) := by decide +kernel
theorem dX4_closes_23 : decode cX4_closes 23 = .ok (.iaload, 1) := by decide +kernel
theorem dX4_closes_24 : decode cX4_closes 24 = .ok (.invokevirtual 225, 3) := by decide +kernel
theorem dX4_closes_27 : decode cX4_closes 27 = .ok (.ireturn, 1) := by decide +kernel
theorem dX4_closes_28 : decode cX4_closes 28 = .ok (.aload_n 0, 1) := by decide +kernel
theorem dX4_closes_29 : decode cX4_closes 29 = .ok (.getfield 75, 3) := by decide +kernel
theorem dX4_closes_32 : decode cX4_closes 32 = .ok (.iconst 0, 1) := by decide +kernel
theorem dX4_closes_33 : decode cX4_closes 33 = .ok (.iaload, 1) := by decide +kernel
theorem dX4_closes_34 : decode cX4_closes 34 = .ok (.iconst 1, 1) := by decide +kernel
theorem dX4_closes_35 : decode cX4_closes 35 = .ok (.iadd, 1) := by decide +kernel
theorem dX4_closes_36 : decode cX4_closes 36 = .ok (.istore 5, 2) := by decide +kernel
theorem dX4_closes_38 : decode cX4_closes 38 = .ok (.iload 5, 2) := by decide +kernel
theorem dX4_closes_40 : decode cX4_closes 40 = .ok (.aload_n 0, 1) := by decide +kernel
theorem dX4_closes_41 : decode cX4_closes 41 = .ok (.getfield 87, 3) := by decide +kernel
theorem dX4_closes_44 : decode cX4_closes 44 = .ok (.if_icmp .ge 60, 3) := by decide +kernel
theorem dX4_closes_47 : decode cX4_closes 47 = .ok (.iload_n 3, 1) := by decide +kernel
theorem dX4_closes_48 : decode cX4_closes 48 = .ok (.iload 5, 2) := by decide +kernel
theorem dX4_closes_50 : decode cX4_closes 50 = .ok (.ishr, 1) := by decide +kernel
theorem dX4_closes_51 : decode cX4_closes 51 = .ok (.iconst 1, 1) := by decide +kernel
theorem dX4_closes_52 : decode cX4_closes 52 = .ok (.iand, 1) := by decide +kernel
theorem dX4_closes_53 : decode cX4_closes 53 = .ok (.iconst 1, 1) := by decide +kernel
theorem dX4_closes_54 : decode cX4_closes 54 = .ok (.if_icmp .eq 44, 3) := by decide +kernel
theorem dX4_closes_57 : decode cX4_closes 57 = .ok (.aload_n 0, 1) := by decide +kernel
theorem dX4_closes_58 : decode cX4_closes 58 = .ok (.iload 4, 2) := by decide +kernel
theorem dX4_closes_60 : decode cX4_closes 60 = .ok (.iload 5, 2) := by decide +kernel
theorem dX4_closes_62 : decode cX4_closes 62 = .ok (.invokevirtual 225, 3) := by decide +kernel
theorem dX4_closes_65 : decode cX4_closes 65 = .ok (.ifCond .ne 6, 3) := by decide +kernel
theorem dX4_closes_68 : decode cX4_closes 68 = .ok (.goto 30, 3) := by decide +kernel
theorem dX4_closes_71 : decode cX4_closes 71 = .ok (.aload_n 0, 1) := by decide +kernel
theorem dX4_closes_72 : decode cX4_closes 72 = .ok (.getfield 75, 3) := by decide +kernel
theorem dX4_closes_75 : decode cX4_closes 75 = .ok (.iload_n 2, 1) := by decide +kernel
theorem dX4_closes_76 : decode cX4_closes 76 = .ok (.iload 5, 2) := by decide +kernel
theorem dX4_closes_78 : decode cX4_closes 78 = .ok (.iastore, 1) := by decide +kernel
theorem dX4_closes_79 : decode cX4_closes 79 = .ok (.aload_n 0, 1) := by decide +kernel
theorem dX4_closes_80 : decode cX4_closes 80 = .ok (.iload_n 1, 1) := by decide +kernel
theorem dX4_closes_81 : decode cX4_closes 81 = .ok (.iload_n 2, 1) := by decide +kernel
theorem dX4_closes_82 : decode cX4_closes 82 = .ok (.iconst 1, 1) := by decide +kernel
theorem dX4_closes_83 : decode cX4_closes 83 = .ok (.iadd, 1) := by decide +kernel
theorem dX4_closes_84 : decode cX4_closes 84 = .ok (.iload_n 3, 1) := by decide +kernel
theorem dX4_closes_85 : decode cX4_closes 85 = .ok (.iconst 1, 1) := by decide +kernel
theorem dX4_closes_86 : decode cX4_closes 86 = .ok (.iload 5, 2) := by decide +kernel
theorem dX4_closes_88 : decode cX4_closes 88 = .ok (.ishl, 1) := by decide +kernel
theorem dX4_closes_89 : decode cX4_closes 89 = .ok (.ior, 1) := by decide +kernel
theorem dX4_closes_90 : decode cX4_closes 90 = .ok (.invokevirtual 228, 3) := by decide +kernel
theorem dX4_closes_93 : decode cX4_closes 93 = .ok (.ifCond .eq 5, 3) := by decide +kernel
theorem dX4_closes_96 : decode cX4_closes 96 = .ok (.iconst 1, 1) := by decide +kernel
theorem dX4_closes_97 : decode cX4_closes 97 = .ok (.ireturn, 1) := by decide +kernel
theorem dX4_closes_98 : decode cX4_closes 98 = .ok (.iinc 5 1, 3) := by decide +kernel
theorem dX4_closes_101 : decode cX4_closes 101 = .ok (.goto (-63), 3) := by decide +kernel
theorem dX4_closes_104 : decode cX4_closes 104 = .ok (.iconst 0, 1) := by decide +kernel
theorem dX4_closes_105 : decode cX4_closes 105 = .ok (.ireturn, 1) := by decide +kernel
theorem dX4_tells_0 : decode cX4_tells 0 = .ok (.aload_n 0, 1) := by decide +kernel
theorem dX4_tells_1 : decode cX4_tells 1 = .ok (.iload_n 1, 1) := by decide +kernel
theorem dX4_tells_2 : decode cX4_tells 2 = .ok (.putfield 164, 3) := by decide +kernel
theorem dX4_tells_5 : decode cX4_tells 5 = .ok (.iconst 0, 1) := by decide +kernel
theorem dX4_tells_6 : decode cX4_tells 6 = .ok (.istore_n 2, 1) := by decide +kernel
theorem dX4_tells_7 : decode cX4_tells 7 = .ok (.iload_n 2, 1) := by decide +kernel
theorem dX4_tells_8 : decode cX4_tells 8 = .ok (.iload_n 1, 1) := by decide +kernel
theorem dX4_tells_9 : decode cX4_tells 9 = .ok (.if_icmp .ge 21, 3) := by decide +kernel
theorem dX4_tells_12 : decode cX4_tells 12 = .ok (.aload_n 0, 1) := by decide +kernel
theorem dX4_tells_13 : decode cX4_tells 13 = .ok (.getfield 72, 3) := by decide +kernel
theorem dX4_tells_16 : decode cX4_tells 16 = .ok (.iload_n 2, 1) := by decide +kernel
theorem dX4_tells_17 : decode cX4_tells 17 = .ok (.aload_n 0, 1) := by decide +kernel
theorem dX4_tells_18 : decode cX4_tells 18 = .ok (.getfield 75, 3) := by decide +kernel
theorem dX4_tells_21 : decode cX4_tells 21 = .ok (.iload_n 2, 1) := by decide +kernel
theorem dX4_tells_22 : decode cX4_tells 22 = .ok (.iaload, 1) := by decide +kernel
theorem dX4_tells_23 : decode cX4_tells 23 = .ok (.iastore, 1) := by decide +kernel
theorem dX4_tells_24 : decode cX4_tells 24 = .ok (.iinc 2 1, 3) := by decide +kernel
theorem dX4_tells_27 : decode cX4_tells 27 = .ok (.goto (-20), 3) := by decide +kernel
theorem dX4_tells_30 : decode cX4_tells 30 = .ok (.iload_n 1, 1) := by decide +kernel
theorem dX4_tells_31 : decode cX4_tells 31 = .ok (.ireturn, 1) := by decide +kernel
theorem dX4_blocks_0 : decode cX4_blocks 0 = .ok (.aload_n 0, 1) := by decide +kernel
theorem dX4_blocks_1 : decode cX4_blocks 1 = .ok (.iconst 0, 1) := by decide +kernel
theorem dX4_blocks_2 : decode cX4_blocks 2 = .ok (.putfield 84, 3) := by decide +kernel
theorem dX4_blocks_5 : decode cX4_blocks 5 = .ok (.aload_n 0, 1) := by decide +kernel
theorem dX4_blocks_6 : decode cX4_blocks 6 = .ok (.iconst 0, 1) := by decide +kernel
theorem dX4_blocks_7 : decode cX4_blocks 7 = .ok (.putfield 98, 3) := by decide +kernel
theorem dX4_blocks_10 : decode cX4_blocks 10 = .ok (.iconst 2, 1) := by decide +kernel
theorem dX4_blocks_11 : decode cX4_blocks 11 = .ok (.istore_n 1, 1) := by decide +kernel
theorem dX4_blocks_12 : decode cX4_blocks 12 = .ok (.iload_n 1, 1) := by decide +kernel
theorem dX4_blocks_13 : decode cX4_blocks 13 = .ok (.aload_n 0, 1) := by decide +kernel
theorem dX4_blocks_14 : decode cX4_blocks 14 = .ok (.getfield 87, 3) := by decide +kernel
theorem dX4_blocks_17 : decode cX4_blocks 17 = .ok (.if_icmp .gt 50, 3) := by decide +kernel
theorem dX4_blocks_20 : decode cX4_blocks 20 = .ok (.iconst 0, 1) := by decide +kernel
theorem dX4_blocks_21 : decode cX4_blocks 21 = .ok (.istore_n 2, 1) := by decide +kernel
theorem dX4_blocks_22 : decode cX4_blocks 22 = .ok (.iload_n 2, 1) := by decide +kernel
theorem dX4_blocks_23 : decode cX4_blocks 23 = .ok (.aload_n 0, 1) := by decide +kernel
theorem dX4_blocks_24 : decode cX4_blocks 24 = .ok (.getfield 87, 3) := by decide +kernel
theorem dX4_blocks_27 : decode cX4_blocks 27 = .ok (.if_icmp .ge 34, 3) := by decide +kernel
theorem dX4_blocks_30 : decode cX4_blocks 30 = .ok (.aload_n 0, 1) := by decide +kernel
theorem dX4_blocks_31 : decode cX4_blocks 31 = .ok (.getfield 75, 3) := by decide +kernel
theorem dX4_blocks_34 : decode cX4_blocks 34 = .ok (.iconst 0, 1) := by decide +kernel
theorem dX4_blocks_35 : decode cX4_blocks 35 = .ok (.iload_n 2, 1) := by decide +kernel
theorem dX4_blocks_36 : decode cX4_blocks 36 = .ok (.iastore, 1) := by decide +kernel
theorem dX4_blocks_37 : decode cX4_blocks 37 = .ok (.aload_n 0, 1) := by decide +kernel
theorem dX4_blocks_38 : decode cX4_blocks 38 = .ok (.iload_n 1, 1) := by decide +kernel
theorem dX4_blocks_39 : decode cX4_blocks 39 = .ok (.iconst 1, 1) := by decide +kernel
theorem dX4_blocks_40 : decode cX4_blocks 40 = .ok (.iconst 1, 1) := by decide +kernel
theorem dX4_blocks_41 : decode cX4_blocks 41 = .ok (.iload_n 2, 1) := by decide +kernel
theorem dX4_blocks_42 : decode cX4_blocks 42 = .ok (.ishl, 1) := by decide +kernel
theorem dX4_blocks_43 : decode cX4_blocks 43 = .ok (.invokevirtual 228, 3) := by decide +kernel
theorem dX4_blocks_46 : decode cX4_blocks 46 = .ok (.ifCond .eq 9, 3) := by decide +kernel
theorem dX4_blocks_49 : decode cX4_blocks 49 = .ok (.aload_n 0, 1) := by decide +kernel
theorem dX4_blocks_50 : decode cX4_blocks 50 = .ok (.iload_n 1, 1) := by decide +kernel
theorem dX4_blocks_51 : decode cX4_blocks 51 = .ok (.invokevirtual 232, 3) := by decide +kernel
theorem dX4_blocks_54 : decode cX4_blocks 54 = .ok (.ireturn, 1) := by decide +kernel
theorem dX4_blocks_55 : decode cX4_blocks 55 = .ok (.iinc 2 1, 3) := by decide +kernel
theorem dX4_blocks_58 : decode cX4_blocks 58 = .ok (.goto (-36), 3) := by decide +kernel
theorem dX4_blocks_61 : decode cX4_blocks 61 = .ok (.iinc 1 1, 3) := by decide +kernel
theorem dX4_blocks_64 : decode cX4_blocks 64 = .ok (.goto (-52), 3) := by decide +kernel
theorem dX4_blocks_67 : decode cX4_blocks 67 = .ok (.iconst 0, 1) := by decide +kernel
theorem dX4_blocks_68 : decode cX4_blocks 68 = .ok (.ireturn, 1) := by decide +kernel
theorem dX4_ring_0 : decode cX4_ring 0 = .ok (.aload_n 0, 1) := by decide +kernel
theorem dX4_ring_1 : decode cX4_ring 1 = .ok (.iconst 0, 1) := by decide +kernel
theorem dX4_ring_2 : decode cX4_ring 2 = .ok (.putfield 84, 3) := by decide +kernel
theorem dX4_ring_5 : decode cX4_ring 5 = .ok (.aload_n 0, 1) := by decide +kernel
theorem dX4_ring_6 : decode cX4_ring 6 = .ok (.iconst 0, 1) := by decide +kernel
theorem dX4_ring_7 : decode cX4_ring 7 = .ok (.putfield 98, 3) := by decide +kernel
theorem dX4_ring_10 : decode cX4_ring 10 = .ok (.aload_n 0, 1) := by decide +kernel
theorem dX4_ring_11 : decode cX4_ring 11 = .ok (.iload_n 1, 1) := by decide +kernel
theorem dX4_ring_12 : decode cX4_ring 12 = .ok (.invokevirtual 94, 3) := by decide +kernel
theorem dX4_ring_15 : decode cX4_ring 15 = .ok (.ifCond .ne 5, 3) := by decide +kernel
theorem dX4_ring_18 : decode cX4_ring 18 = .ok (.iconst (-1), 1) := by decide +kernel
theorem dX4_ring_19 : decode cX4_ring 19 = .ok (.ireturn, 1) := by decide +kernel
theorem dX4_ring_20 : decode cX4_ring 20 = .ok (.aload_n 0, 1) := by decide +kernel
theorem dX4_ring_21 : decode cX4_ring 21 = .ok (.iload_n 1, 1) := by decide +kernel
end
section
theorem dX4_ring_22 : decode cX4_ring 22 = .ok (.invokevirtual 145, 3) := by decide +kernel
theorem dX4_ring_25 : decode cX4_ring 25 = .ok (.ifCond .eq 10, 3) := by decide +kernel
theorem dX4_ring_28 : decode cX4_ring 28 = .ok (.aload_n 0, 1) := by decide +kernel
theorem dX4_ring_29 : decode cX4_ring 29 = .ok (.invokevirtual 154, 3) := by decide +kernel
theorem dX4_ring_32 : decode cX4_ring 32 = .ok (.ifCond .eq 5, 3) := by decide +kernel
theorem dX4_ring_35 : decode cX4_ring 35 = .ok (.iconst 0, 1) := by decide +kernel
theorem dX4_ring_36 : decode cX4_ring 36 = .ok (.ireturn, 1) := by decide +kernel
theorem dX4_ring_37 : decode cX4_ring 37 = .ok (.iconst 0, 1) := by decide +kernel
theorem dX4_ring_38 : decode cX4_ring 38 = .ok (.istore_n 2, 1) := by decide +kernel
theorem dX4_ring_39 : decode cX4_ring 39 = .ok (.iload_n 1, 1) := by decide +kernel
theorem dX4_ring_40 : decode cX4_ring 40 = .ok (.istore_n 3, 1) := by decide +kernel
theorem dX4_ring_41 : decode cX4_ring 41 = .ok (.iload_n 2, 1) := by decide +kernel
theorem dX4_ring_42 : decode cX4_ring 42 = .ok (.ifCond .eq 8, 3) := by decide +kernel
theorem dX4_ring_45 : decode cX4_ring 45 = .ok (.iload_n 3, 1) := by decide +kernel
theorem dX4_ring_46 : decode cX4_ring 46 = .ok (.iload_n 1, 1) := by decide +kernel
theorem dX4_ring_47 : decode cX4_ring 47 = .ok (.if_icmp .eq 23, 3) := by decide +kernel
theorem dX4_ring_50 : decode cX4_ring 50 = .ok (.aload_n 0, 1) := by decide +kernel
theorem dX4_ring_51 : decode cX4_ring 51 = .ok (.getfield 75, 3) := by decide +kernel
theorem dX4_ring_54 : decode cX4_ring 54 = .ok (.iload_n 2, 1) := by decide +kernel
theorem dX4_ring_55 : decode cX4_ring 55 = .ok (.iload_n 3, 1) := by decide +kernel
theorem dX4_ring_56 : decode cX4_ring 56 = .ok (.iastore, 1) := by decide +kernel
theorem dX4_ring_57 : decode cX4_ring 57 = .ok (.iinc 2 1, 3) := by decide +kernel
theorem dX4_ring_60 : decode cX4_ring 60 = .ok (.aload_n 0, 1) := by decide +kernel
theorem dX4_ring_61 : decode cX4_ring 61 = .ok (.getfield 50, 3) := by decide +kernel
theorem dX4_ring_64 : decode cX4_ring 64 = .ok (.iload_n 3, 1) := by decide +kernel
theorem dX4_ring_65 : decode cX4_ring 65 = .ok (.iaload, 1) := by decide +kernel
theorem dX4_ring_66 : decode cX4_ring 66 = .ok (.istore_n 3, 1) := by decide +kernel
theorem dX4_ring_67 : decode cX4_ring 67 = .ok (.goto (-26), 3) := by decide +kernel
theorem dX4_ring_70 : decode cX4_ring 70 = .ok (.aload_n 0, 1) := by decide +kernel
theorem dX4_ring_71 : decode cX4_ring 71 = .ok (.iload_n 2, 1) := by decide +kernel
theorem dX4_ring_72 : decode cX4_ring 72 = .ok (.invokevirtual 232, 3) := by decide +kernel
theorem dX4_ring_75 : decode cX4_ring 75 = .ok (.ireturn, 1) := by decide +kernel
theorem dX4_goesOn_0 : decode cX4_goesOn 0 = .ok (.iload_n 1, 1) := by decide +kernel
theorem dX4_goesOn_1 : decode cX4_goesOn 1 = .ok (.aload_n 0, 1) := by decide +kernel
theorem dX4_goesOn_2 : decode cX4_goesOn 2 = .ok (.getfield 235, 3) := by decide +kernel
theorem dX4_goesOn_5 : decode cX4_goesOn 5 = .ok (.if_icmp .le 37, 3) := by decide +kernel
theorem dX4_goesOn_8 : decode cX4_goesOn 8 = .ok (.aload_n 0, 1) := by decide +kernel
theorem dX4_goesOn_9 : decode cX4_goesOn 9 = .ok (.iload_n 1, 1) := by decide +kernel
theorem dX4_goesOn_10 : decode cX4_goesOn 10 = .ok (.putfield 235, 3) := by decide +kernel
theorem dX4_goesOn_13 : decode cX4_goesOn 13 = .ok (.iconst 0, 1) := by decide +kernel
theorem dX4_goesOn_14 : decode cX4_goesOn 14 = .ok (.istore 4, 2) := by decide +kernel
theorem dX4_goesOn_16 : decode cX4_goesOn 16 = .ok (.iload 4, 2) := by decide +kernel
theorem dX4_goesOn_18 : decode cX4_goesOn 18 = .ok (.iload_n 1, 1) := by decide +kernel
theorem dX4_goesOn_19 : decode cX4_goesOn 19 = .ok (.if_icmp .ge 23, 3) := by decide +kernel
theorem dX4_goesOn_22 : decode cX4_goesOn 22 = .ok (.aload_n 0, 1) := by decide +kernel
theorem dX4_goesOn_23 : decode cX4_goesOn 23 = .ok (.getfield 78, 3) := by decide +kernel
theorem dX4_goesOn_26 : decode cX4_goesOn 26 = .ok (.iload 4, 2) := by decide +kernel
theorem dX4_goesOn_28 : decode cX4_goesOn 28 = .ok (.aload_n 0, 1) := by decide +kernel
theorem dX4_goesOn_29 : decode cX4_goesOn 29 = .ok (.getfield 75, 3) := by decide +kernel
theorem dX4_goesOn_32 : decode cX4_goesOn 32 = .ok (.iload 4, 2) := by decide +kernel
theorem dX4_goesOn_34 : decode cX4_goesOn 34 = .ok (.iaload, 1) := by decide +kernel
theorem dX4_goesOn_35 : decode cX4_goesOn 35 = .ok (.iastore, 1) := by decide +kernel
theorem dX4_goesOn_36 : decode cX4_goesOn 36 = .ok (.iinc 4 1, 3) := by decide +kernel
theorem dX4_goesOn_39 : decode cX4_goesOn 39 = .ok (.goto (-23), 3) := by decide +kernel
theorem dX4_goesOn_42 : decode cX4_goesOn 42 = .ok (.aload_n 0, 1) := by decide +kernel
theorem dX4_goesOn_43 : decode cX4_goesOn 43 = .ok (.getfield 75, 3) := by decide +kernel
theorem dX4_goesOn_46 : decode cX4_goesOn 46 = .ok (.iload_n 1, 1) := by decide +kernel
theorem dX4_goesOn_47 : decode cX4_goesOn 47 = .ok (.iconst 1, 1) := by decide +kernel
theorem dX4_goesOn_48 : decode cX4_goesOn 48 = .ok (.isub, 1) := by decide +kernel
theorem dX4_goesOn_49 : decode cX4_goesOn 49 = .ok (.iaload, 1) := by decide +kernel
theorem dX4_goesOn_50 : decode cX4_goesOn 50 = .ok (.istore 4, 2) := by decide +kernel
theorem dX4_goesOn_52 : decode cX4_goesOn 52 = .ok (.iconst 0, 1) := by decide +kernel
theorem dX4_goesOn_53 : decode cX4_goesOn 53 = .ok (.istore 5, 2) := by decide +kernel
theorem dX4_goesOn_55 : decode cX4_goesOn 55 = .ok (.iload 5, 2) := by decide +kernel
theorem dX4_goesOn_57 : decode cX4_goesOn 57 = .ok (.aload_n 0, 1) := by decide +kernel
theorem dX4_goesOn_58 : decode cX4_goesOn 58 = .ok (.getfield 87, 3) := by decide +kernel
theorem dX4_goesOn_61 : decode cX4_goesOn 61 = .ok (.if_icmp .ge 102, 3) := by decide +kernel
theorem dX4_goesOn_64 : decode cX4_goesOn 64 = .ok (.iload_n 2, 1) := by decide +kernel
theorem dX4_goesOn_65 : decode cX4_goesOn 65 = .ok (.iload 5, 2) := by decide +kernel
theorem dX4_goesOn_67 : decode cX4_goesOn 67 = .ok (.ishr, 1) := by decide +kernel
theorem dX4_goesOn_68 : decode cX4_goesOn 68 = .ok (.iconst 1, 1) := by decide +kernel
theorem dX4_goesOn_69 : decode cX4_goesOn 69 = .ok (.iand, 1) := by decide +kernel
theorem dX4_goesOn_70 : decode cX4_goesOn 70 = .ok (.iconst 1, 1) := by decide +kernel
theorem dX4_goesOn_71 : decode cX4_goesOn 71 = .ok (.if_icmp .eq 86, 3) := by decide +kernel
theorem dX4_goesOn_74 : decode cX4_goesOn 74 = .ok (.aload_n 0, 1) := by decide +kernel
theorem dX4_goesOn_75 : decode cX4_goesOn 75 = .ok (.iload 5, 2) := by decide +kernel
theorem dX4_goesOn_77 : decode cX4_goesOn 77 = .ok (.invokevirtual 145, 3) := by decide +kernel
theorem dX4_goesOn_80 : decode cX4_goesOn 80 = .ok (.ifCond .ne 77, 3) := by decide +kernel
theorem dX4_goesOn_83 : decode cX4_goesOn 83 = .ok (.aload_n 0, 1) := by decide +kernel
theorem dX4_goesOn_84 : decode cX4_goesOn 84 = .ok (.iload 5, 2) := by decide +kernel
theorem dX4_goesOn_86 : decode cX4_goesOn 86 = .ok (.invokevirtual 151, 3) := by decide +kernel
theorem dX4_goesOn_89 : decode cX4_goesOn 89 = .ok (.ifCond .ge 68, 3) := by decide +kernel
theorem dX4_goesOn_92 : decode cX4_goesOn 92 = .ok (.aload_n 0, 1) := by decide +kernel
theorem dX4_goesOn_93 : decode cX4_goesOn 93 = .ok (.iload 4, 2) := by decide +kernel
theorem dX4_goesOn_95 : decode cX4_goesOn 95 = .ok (.iload 5, 2) := by decide +kernel
theorem dX4_goesOn_97 : decode cX4_goesOn 97 = .ok (.invokevirtual 148, 3) := by decide +kernel
theorem dX4_goesOn_100 : decode cX4_goesOn 100 = .ok (.ifCond .eq 57, 3) := by decide +kernel
theorem dX4_goesOn_103 : decode cX4_goesOn 103 = .ok (.iload_n 3, 1) := by decide +kernel
theorem dX4_goesOn_104 : decode cX4_goesOn 104 = .ok (.aload_n 0, 1) := by decide +kernel
theorem dX4_goesOn_105 : decode cX4_goesOn 105 = .ok (.iload 5, 2) := by decide +kernel
theorem dX4_goesOn_107 : decode cX4_goesOn 107 = .ok (.invokevirtual 178, 3) := by decide +kernel
theorem dX4_goesOn_110 : decode cX4_goesOn 110 = .ok (.isub, 1) := by decide +kernel
theorem dX4_goesOn_111 : decode cX4_goesOn 111 = .ok (.aload_n 0, 1) := by decide +kernel
theorem dX4_goesOn_112 : decode cX4_goesOn 112 = .ok (.getfield 121, 3) := by decide +kernel
theorem dX4_goesOn_115 : decode cX4_goesOn 115 = .ok (.ineg, 1) := by decide +kernel
theorem dX4_goesOn_116 : decode cX4_goesOn 116 = .ok (.if_icmp .ge 6, 3) := by decide +kernel
theorem dX4_goesOn_119 : decode cX4_goesOn 119 = .ok (.goto 38, 3) := by decide +kernel
theorem dX4_goesOn_122 : decode cX4_goesOn 122 = .ok (.aload_n 0, 1) := by decide +kernel
theorem dX4_goesOn_123 : decode cX4_goesOn 123 = .ok (.getfield 75, 3) := by decide +kernel
theorem dX4_goesOn_126 : decode cX4_goesOn 126 = .ok (.iload_n 1, 1) := by decide +kernel
theorem dX4_goesOn_127 : decode cX4_goesOn 127 = .ok (.iload 5, 2) := by decide +kernel
theorem dX4_goesOn_129 : decode cX4_goesOn 129 = .ok (.iastore, 1) := by decide +kernel
theorem dX4_goesOn_130 : decode cX4_goesOn 130 = .ok (.aload_n 0, 1) := by decide +kernel
theorem dX4_goesOn_131 : decode cX4_goesOn 131 = .ok (.iload_n 1, 1) := by decide +kernel
theorem dX4_goesOn_132 : decode cX4_goesOn 132 = .ok (.iconst 1, 1) := by decide +kernel
theorem dX4_goesOn_133 : decode cX4_goesOn 133 = .ok (.iadd, 1) := by decide +kernel
theorem dX4_goesOn_134 : decode cX4_goesOn 134 = .ok (.iload_n 2, 1) := by decide +kernel
theorem dX4_goesOn_135 : decode cX4_goesOn 135 = .ok (.iconst 1, 1) := by decide +kernel
theorem dX4_goesOn_136 : decode cX4_goesOn 136 = .ok (.iload 5, 2) := by decide +kernel
theorem dX4_goesOn_138 : decode cX4_goesOn 138 = .ok (.ishl, 1) := by decide +kernel
theorem dX4_goesOn_139 : decode cX4_goesOn 139 = .ok (.ior, 1) := by decide +kernel
theorem dX4_goesOn_140 : decode cX4_goesOn 140 = .ok (.aload_n 0, 1) := by decide +kernel
theorem dX4_goesOn_141 : decode cX4_goesOn 141 = .ok (.getfield 35, 3) := by decide +kernel
theorem dX4_goesOn_144 : decode cX4_goesOn 144 = .ok (.iload 5, 2) := by decide +kernel
theorem dX4_goesOn_146 : decode cX4_goesOn 146 = .ok (.iaload, 1) := by decide +kernel
theorem dX4_goesOn_147 : decode cX4_goesOn 147 = .ok (.aload_n 0, 1) := by decide +kernel
theorem dX4_goesOn_148 : decode cX4_goesOn 148 = .ok (.iload 5, 2) := by decide +kernel
theorem dX4_goesOn_150 : decode cX4_goesOn 150 = .ok (.invokevirtual 178, 3) := by decide +kernel
theorem dX4_goesOn_153 : decode cX4_goesOn 153 = .ok (.iadd, 1) := by decide +kernel
theorem dX4_goesOn_154 : decode cX4_goesOn 154 = .ok (.invokevirtual 238, 3) := by decide +kernel
theorem dX4_goesOn_157 : decode cX4_goesOn 157 = .ok (.iinc 5 1, 3) := by decide +kernel
theorem dX4_goesOn_160 : decode cX4_goesOn 160 = .ok (.goto (-105), 3) := by decide +kernel
theorem dX4_goesOn_163 : decode cX4_goesOn 163 = .ok (.return_, 1) := by decide +kernel
theorem dX4_chain_0 : decode cX4_chain 0 = .ok (.aload_n 0, 1) := by decide +kernel
theorem dX4_chain_1 : decode cX4_chain 1 = .ok (.iconst 0, 1) := by decide +kernel
theorem dX4_chain_2 : decode cX4_chain 2 = .ok (.putfield 84, 3) := by decide +kernel
theorem dX4_chain_5 : decode cX4_chain 5 = .ok (.aload_n 0, 1) := by decide +kernel
theorem dX4_chain_6 : decode cX4_chain 6 = .ok (.iconst 0, 1) := by decide +kernel
theorem dX4_chain_7 : decode cX4_chain 7 = .ok (.putfield 98, 3) := by decide +kernel
theorem dX4_chain_10 : decode cX4_chain 10 = .ok (.aload_n 0, 1) := by decide +kernel
theorem dX4_chain_11 : decode cX4_chain 11 = .ok (.iload_n 1, 1) := by decide +kernel
theorem dX4_chain_12 : decode cX4_chain 12 = .ok (.invokevirtual 94, 3) := by decide +kernel
theorem dX4_chain_15 : decode cX4_chain 15 = .ok (.ifCond .eq 11, 3) := by decide +kernel
theorem dX4_chain_18 : decode cX4_chain 18 = .ok (.aload_n 0, 1) := by decide +kernel
theorem dX4_chain_19 : decode cX4_chain 19 = .ok (.iload_n 1, 1) := by decide +kernel
theorem dX4_chain_20 : decode cX4_chain 20 = .ok (.invokevirtual 145, 3) := by decide +kernel
theorem dX4_chain_23 : decode cX4_chain 23 = .ok (.ifCond .eq 5, 3) := by decide +kernel
theorem dX4_chain_26 : decode cX4_chain 26 = .ok (.iconst (-1), 1) := by decide +kernel
theorem dX4_chain_27 : decode cX4_chain 27 = .ok (.ireturn, 1) := by decide +kernel
theorem dX4_chain_28 : decode cX4_chain 28 = .ok (.aload_n 0, 1) := by decide +kernel
theorem dX4_chain_29 : decode cX4_chain 29 = .ok (.iconst 0, 1) := by decide +kernel
theorem dX4_chain_30 : decode cX4_chain 30 = .ok (.putfield 235, 3) := by decide +kernel
theorem dX4_chain_33 : decode cX4_chain 33 = .ok (.aload_n 0, 1) := by decide +kernel
theorem dX4_chain_34 : decode cX4_chain 34 = .ok (.getfield 75, 3) := by decide +kernel
theorem dX4_chain_37 : decode cX4_chain 37 = .ok (.iconst 0, 1) := by decide +kernel
theorem dX4_chain_38 : decode cX4_chain 38 = .ok (.iload_n 1, 1) := by decide +kernel
theorem dX4_chain_39 : decode cX4_chain 39 = .ok (.iastore, 1) := by decide +kernel
theorem dX4_chain_40 : decode cX4_chain 40 = .ok (.aload_n 0, 1) := by decide +kernel
theorem dX4_chain_41 : decode cX4_chain 41 = .ok (.iconst 1, 1) := by decide +kernel
theorem dX4_chain_42 : decode cX4_chain 42 = .ok (.iconst 1, 1) := by decide +kernel
theorem dX4_chain_43 : decode cX4_chain 43 = .ok (.iload_n 1, 1) := by decide +kernel
theorem dX4_chain_44 : decode cX4_chain 44 = .ok (.ishl, 1) := by decide +kernel
theorem dX4_chain_45 : decode cX4_chain 45 = .ok (.aload_n 0, 1) := by decide +kernel
theorem dX4_chain_46 : decode cX4_chain 46 = .ok (.getfield 35, 3) := by decide +kernel
theorem dX4_chain_49 : decode cX4_chain 49 = .ok (.iload_n 1, 1) := by decide +kernel
theorem dX4_chain_50 : decode cX4_chain 50 = .ok (.iaload, 1) := by decide +kernel
theorem dX4_chain_51 : decode cX4_chain 51 = .ok (.invokevirtual 238, 3) := by decide +kernel
theorem dX4_chain_54 : decode cX4_chain 54 = .ok (.aload_n 0, 1) := by decide +kernel
theorem dX4_chain_55 : decode cX4_chain 55 = .ok (.getfield 235, 3) := by decide +kernel
theorem dX4_chain_58 : decode cX4_chain 58 = .ok (.iconst 1, 1) := by decide +kernel
theorem dX4_chain_59 : decode cX4_chain 59 = .ok (.if_icmp .ne 5, 3) := by decide +kernel
theorem dX4_chain_62 : decode cX4_chain 62 = .ok (.iconst 0, 1) := by decide +kernel
theorem dX4_chain_63 : decode cX4_chain 63 = .ok (.ireturn, 1) := by decide +kernel
theorem dX4_chain_64 : decode cX4_chain 64 = .ok (.iconst 0, 1) := by decide +kernel
theorem dX4_chain_65 : decode cX4_chain 65 = .ok (.istore_n 2, 1) := by decide +kernel
theorem dX4_chain_66 : decode cX4_chain 66 = .ok (.iload_n 2, 1) := by decide +kernel
theorem dX4_chain_67 : decode cX4_chain 67 = .ok (.aload_n 0, 1) := by decide +kernel
theorem dX4_chain_68 : decode cX4_chain 68 = .ok (.getfield 235, 3) := by decide +kernel
theorem dX4_chain_71 : decode cX4_chain 71 = .ok (.if_icmp .ge 21, 3) := by decide +kernel
theorem dX4_chain_74 : decode cX4_chain 74 = .ok (.aload_n 0, 1) := by decide +kernel
theorem dX4_chain_75 : decode cX4_chain 75 = .ok (.getfield 75, 3) := by decide +kernel
theorem dX4_chain_78 : decode cX4_chain 78 = .ok (.iload_n 2, 1) := by decide +kernel
theorem dX4_chain_79 : decode cX4_chain 79 = .ok (.aload_n 0, 1) := by decide +kernel
theorem dX4_chain_80 : decode cX4_chain 80 = .ok (.getfield 78, 3) := by decide +kernel
theorem dX4_chain_83 : decode cX4_chain 83 = .ok (.iload_n 2, 1) := by decide +kernel
theorem dX4_chain_84 : decode cX4_chain 84 = .ok (.iaload, 1) := by decide +kernel
theorem dX4_chain_85 : decode cX4_chain 85 = .ok (.iastore, 1) := by decide +kernel
theorem dX4_chain_86 : decode cX4_chain 86 = .ok (.iinc 2 1, 3) := by decide +kernel
theorem dX4_chain_89 : decode cX4_chain 89 = .ok (.goto (-23), 3) := by decide +kernel
theorem dX4_chain_92 : decode cX4_chain 92 = .ok (.aload_n 0, 1) := by decide +kernel
theorem dX4_chain_93 : decode cX4_chain 93 = .ok (.aload_n 0, 1) := by decide +kernel
theorem dX4_chain_94 : decode cX4_chain 94 = .ok (.aload_n 0, 1) := by decide +kernel
theorem dX4_chain_95 : decode cX4_chain 95 = .ok (.getfield 235, 3) := by decide +kernel
theorem dX4_chain_98 : decode cX4_chain 98 = .ok (.invokevirtual 232, 3) := by decide +kernel
theorem dX4_chain_101 : decode cX4_chain 101 = .ok (.putfield 98, 3) := by decide +kernel
theorem dX4_chain_104 : decode cX4_chain 104 = .ok (.aload_n 0, 1) := by decide +kernel
theorem dX4_chain_105 : decode cX4_chain 105 = .ok (.getfield 235, 3) := by decide +kernel
theorem dX4_chain_108 : decode cX4_chain 108 = .ok (.iconst 1, 1) := by decide +kernel
theorem dX4_chain_109 : decode cX4_chain 109 = .ok (.isub, 1) := by decide +kernel
theorem dX4_chain_110 : decode cX4_chain 110 = .ok (.ireturn, 1) := by decide +kernel
theorem dX4_travel_0 : decode cX4_travel 0 = .ok (.aload_n 0, 1) := by decide +kernel
theorem dX4_travel_1 : decode cX4_travel 1 = .ok (.iconst 0, 1) := by decide +kernel
theorem dX4_travel_2 : decode cX4_travel 2 = .ok (.putfield 84, 3) := by decide +kernel
theorem dX4_travel_5 : decode cX4_travel 5 = .ok (.aload_n 0, 1) := by decide +kernel
theorem dX4_travel_6 : decode cX4_travel 6 = .ok (.getfield 98, 3) := by decide +kernel
theorem dX4_travel_9 : decode cX4_travel 9 = .ok (.istore_n 1, 1) := by decide +kernel
theorem dX4_travel_10 : decode cX4_travel 10 = .ok (.aload_n 0, 1) := by decide +kernel
theorem dX4_travel_11 : decode cX4_travel 11 = .ok (.iconst 0, 1) := by decide +kernel
theorem dX4_travel_12 : decode cX4_travel 12 = .ok (.putfield 98, 3) := by decide +kernel
theorem dX4_travel_15 : decode cX4_travel 15 = .ok (.iload_n 1, 1) := by decide +kernel
theorem dX4_travel_16 : decode cX4_travel 16 = .ok (.ifCond .ne 5, 3) := by decide +kernel
theorem dX4_travel_19 : decode cX4_travel 19 = .ok (.iconst (-1), 1) := by decide +kernel
theorem dX4_travel_20 : decode cX4_travel 20 = .ok (.ireturn, 1) := by decide +kernel
theorem dX4_travel_21 : decode cX4_travel 21 = .ok (.iconst 0, 1) := by decide +kernel
theorem dX4_travel_22 : decode cX4_travel 22 = .ok (.istore_n 2, 1) := by decide +kernel
theorem dX4_travel_23 : decode cX4_travel 23 = .ok (.iload_n 2, 1) := by decide +kernel
theorem dX4_travel_24 : decode cX4_travel 24 = .ok (.iconst 1, 1) := by decide +kernel
theorem dX4_travel_25 : decode cX4_travel 25 = .ok (.iadd, 1) := by decide +kernel
theorem dX4_travel_26 : decode cX4_travel 26 = .ok (.iload_n 1, 1) := by decide +kernel
theorem dX4_travel_27 : decode cX4_travel 27 = .ok (.if_icmp .ge 63, 3) := by decide +kernel
theorem dX4_travel_30 : decode cX4_travel 30 = .ok (.aload_n 0, 1) := by decide +kernel
theorem dX4_travel_31 : decode cX4_travel 31 = .ok (.getfield 35, 3) := by decide +kernel
theorem dX4_travel_34 : decode cX4_travel 34 = .ok (.aload_n 0, 1) := by decide +kernel
theorem dX4_travel_35 : decode cX4_travel 35 = .ok (.getfield 72, 3) := by decide +kernel
theorem dX4_travel_38 : decode cX4_travel 38 = .ok (.iload_n 2, 1) := by decide +kernel
theorem dX4_travel_39 : decode cX4_travel 39 = .ok (.iaload, 1) := by decide +kernel
theorem dX4_travel_40 : decode cX4_travel 40 = .ok (.dup2, 1) := by decide +kernel
theorem dX4_travel_41 : decode cX4_travel 41 = .ok (.iaload, 1) := by decide +kernel
theorem dX4_travel_42 : decode cX4_travel 42 = .ok (.aload_n 0, 1) := by decide +kernel
theorem dX4_travel_43 : decode cX4_travel 43 = .ok (.aload_n 0, 1) := by decide +kernel
theorem dX4_travel_44 : decode cX4_travel 44 = .ok (.getfield 72, 3) := by decide +kernel
theorem dX4_travel_47 : decode cX4_travel 47 = .ok (.iload_n 2, 1) := by decide +kernel
theorem dX4_travel_48 : decode cX4_travel 48 = .ok (.iconst 1, 1) := by decide +kernel
theorem dX4_travel_49 : decode cX4_travel 49 = .ok (.iadd, 1) := by decide +kernel
theorem dX4_travel_50 : decode cX4_travel 50 = .ok (.iaload, 1) := by decide +kernel
theorem dX4_travel_51 : decode cX4_travel 51 = .ok (.invokevirtual 178, 3) := by decide +kernel
theorem dX4_travel_54 : decode cX4_travel 54 = .ok (.isub, 1) := by decide +kernel
theorem dX4_travel_55 : decode cX4_travel 55 = .ok (.iastore, 1) := by decide +kernel
theorem dX4_travel_56 : decode cX4_travel 56 = .ok (.aload_n 0, 1) := by decide +kernel
theorem dX4_travel_57 : decode cX4_travel 57 = .ok (.getfield 35, 3) := by decide +kernel
theorem dX4_travel_60 : decode cX4_travel 60 = .ok (.aload_n 0, 1) := by decide +kernel
theorem dX4_travel_61 : decode cX4_travel 61 = .ok (.getfield 72, 3) := by decide +kernel
theorem dX4_travel_64 : decode cX4_travel 64 = .ok (.iload_n 2, 1) := by decide +kernel
theorem dX4_travel_65 : decode cX4_travel 65 = .ok (.iconst 1, 1) := by decide +kernel
theorem dX4_travel_66 : decode cX4_travel 66 = .ok (.iadd, 1) := by decide +kernel
theorem dX4_travel_67 : decode cX4_travel 67 = .ok (.iaload, 1) := by decide +kernel
theorem dX4_travel_68 : decode cX4_travel 68 = .ok (.dup2, 1) := by decide +kernel
theorem dX4_travel_69 : decode cX4_travel 69 = .ok (.iaload, 1) := by decide +kernel
theorem dX4_travel_70 : decode cX4_travel 70 = .ok (.aload_n 0, 1) := by decide +kernel
theorem dX4_travel_71 : decode cX4_travel 71 = .ok (.aload_n 0, 1) := by decide +kernel
theorem dX4_travel_72 : decode cX4_travel 72 = .ok (.getfield 72, 3) := by decide +kernel
theorem dX4_travel_75 : decode cX4_travel 75 = .ok (.iload_n 2, 1) := by decide +kernel
theorem dX4_travel_76 : decode cX4_travel 76 = .ok (.iconst 1, 1) := by decide +kernel
theorem dX4_travel_77 : decode cX4_travel 77 = .ok (.iadd, 1) := by decide +kernel
theorem dX4_travel_78 : decode cX4_travel 78 = .ok (.iaload, 1) := by decide +kernel
theorem dX4_travel_79 : decode cX4_travel 79 = .ok (.invokevirtual 178, 3) := by decide +kernel
theorem dX4_travel_82 : decode cX4_travel 82 = .ok (.iadd, 1) := by decide +kernel
theorem dX4_travel_83 : decode cX4_travel 83 = .ok (.iastore, 1) := by decide +kernel
theorem dX4_travel_84 : decode cX4_travel 84 = .ok (.iinc 2 1, 3) := by decide +kernel
theorem dX4_travel_87 : decode cX4_travel 87 = .ok (.goto (-64), 3) := by decide +kernel
theorem dX4_travel_90 : decode cX4_travel 90 = .ok (.iload_n 1, 1) := by decide +kernel
theorem dX4_travel_91 : decode cX4_travel 91 = .ok (.iconst 1, 1) := by decide +kernel
theorem dX4_travel_92 : decode cX4_travel 92 = .ok (.isub, 1) := by decide +kernel
theorem dX4_travel_93 : decode cX4_travel 93 = .ok (.ireturn, 1) := by decide +kernel
theorem dX4_book_0 : decode cX4_book 0 = .ok (.aload_n 0, 1) := by decide +kernel
theorem dX4_book_1 : decode cX4_book 1 = .ok (.iconst 0, 1) := by decide +kernel
theorem dX4_book_2 : decode cX4_book 2 = .ok (.putfield 84, 3) := by decide +kernel
theorem dX4_book_5 : decode cX4_book 5 = .ok (.aload_n 0, 1) := by decide +kernel
theorem dX4_book_6 : decode cX4_book 6 = .ok (.iconst 0, 1) := by decide +kernel
theorem dX4_book_7 : decode cX4_book 7 = .ok (.putfield 98, 3) := by decide +kernel
theorem dX4_book_10 : decode cX4_book 10 = .ok (.aload_n 0, 1) := by decide +kernel
theorem dX4_book_11 : decode cX4_book 11 = .ok (.getfield 161, 3) := by decide +kernel
theorem dX4_book_14 : decode cX4_book 14 = .ok (.bipush 60, 2) := by decide +kernel
theorem dX4_book_16 : decode cX4_book 16 = .ok (.if_icmp .eq 10, 3) := by decide +kernel
theorem dX4_book_19 : decode cX4_book 19 = .ok (.aload_n 0, 1) := by decide +kernel
theorem dX4_book_20 : decode cX4_book 20 = .ok (.invokevirtual 154, 3) := by decide +kernel
theorem dX4_book_23 : decode cX4_book 23 = .ok (.ifCond .eq 5, 3) := by decide +kernel
theorem dX4_book_26 : decode cX4_book 26 = .ok (.iconst (-1), 1) := by decide +kernel
theorem dX4_book_27 : decode cX4_book 27 = .ok (.ireturn, 1) := by decide +kernel
theorem dX4_book_28 : decode cX4_book 28 = .ok (.aload_n 0, 1) := by decide +kernel
theorem dX4_book_29 : decode cX4_book 29 = .ok (.invokevirtual 167, 3) := by decide +kernel
theorem dX4_book_32 : decode cX4_book 32 = .ok (.istore_n 1, 1) := by decide +kernel
theorem dX4_book_33 : decode cX4_book 33 = .ok (.iconst 0, 1) := by decide +kernel
theorem dX4_book_34 : decode cX4_book 34 = .ok (.istore_n 2, 1) := by decide +kernel
theorem dX4_book_35 : decode cX4_book 35 = .ok (.iload_n 2, 1) := by decide +kernel
theorem dX4_book_36 : decode cX4_book 36 = .ok (.bipush 10, 2) := by decide +kernel
theorem dX4_book_38 : decode cX4_book 38 = .ok (.if_icmp .ge 41, 3) := by decide +kernel
theorem dX4_book_41 : decode cX4_book 41 = .ok (.aload_n 0, 1) := by decide +kernel
theorem dX4_book_42 : decode cX4_book 42 = .ok (.getfield 81, 3) := by decide +kernel
theorem dX4_book_45 : decode cX4_book 45 = .ok (.bipush 10, 2) := by decide +kernel
theorem dX4_book_47 : decode cX4_book 47 = .ok (.aload_n 0, 1) := by decide +kernel
theorem dX4_book_48 : decode cX4_book 48 = .ok (.getfield 161, 3) := by decide +kernel
theorem dX4_book_51 : decode cX4_book 51 = .ok (.imul, 1) := by decide +kernel
theorem dX4_book_52 : decode cX4_book 52 = .ok (.iload_n 2, 1) := by decide +kernel
theorem dX4_book_53 : decode cX4_book 53 = .ok (.iadd, 1) := by decide +kernel
theorem dX4_book_54 : decode cX4_book 54 = .ok (.iload_n 2, 1) := by decide +kernel
theorem dX4_book_55 : decode cX4_book 55 = .ok (.aload_n 0, 1) := by decide +kernel
theorem dX4_book_56 : decode cX4_book 56 = .ok (.getfield 87, 3) := by decide +kernel
theorem dX4_book_59 : decode cX4_book 59 = .ok (.if_icmp .ge 12, 3) := by decide +kernel
theorem dX4_book_62 : decode cX4_book 62 = .ok (.aload_n 0, 1) := by decide +kernel
theorem dX4_book_63 : decode cX4_book 63 = .ok (.getfield 50, 3) := by decide +kernel
theorem dX4_book_66 : decode cX4_book 66 = .ok (.iload_n 2, 1) := by decide +kernel
theorem dX4_book_67 : decode cX4_book 67 = .ok (.iaload, 1) := by decide +kernel
theorem dX4_book_68 : decode cX4_book 68 = .ok (.goto 4, 3) := by decide +kernel
theorem dX4_book_71 : decode cX4_book 71 = .ok (.iconst (-1), 1) := by decide +kernel
theorem dX4_book_72 : decode cX4_book 72 = .ok (.iastore, 1) := by decide +kernel
theorem dX4_book_73 : decode cX4_book 73 = .ok (.iinc 2 1, 3) := by decide +kernel
theorem dX4_book_76 : decode cX4_book 76 = .ok (.goto (-41), 3) := by decide +kernel
theorem dX4_book_79 : decode cX4_book 79 = .ok (.aload_n 0, 1) := by decide +kernel
theorem dX4_book_80 : decode cX4_book 80 = .ok (.aload_n 0, 1) := by decide +kernel
theorem dX4_book_81 : decode cX4_book 81 = .ok (.getfield 161, 3) := by decide +kernel
theorem dX4_book_84 : decode cX4_book 84 = .ok (.iconst 1, 1) := by decide +kernel
theorem dX4_book_85 : decode cX4_book 85 = .ok (.invokevirtual 241, 3) := by decide +kernel
theorem dX4_book_88 : decode cX4_book 88 = .ok (.iconst 0, 1) := by decide +kernel
theorem dX4_book_89 : decode cX4_book 89 = .ok (.istore_n 2, 1) := by decide +kernel
theorem dX4_book_90 : decode cX4_book 90 = .ok (.iload_n 2, 1) := by decide +kernel
theorem dX4_book_91 : decode cX4_book 91 = .ok (.aload_n 0, 1) := by decide +kernel
theorem dX4_book_92 : decode cX4_book 92 = .ok (.getfield 87, 3) := by decide +kernel
theorem dX4_book_95 : decode cX4_book 95 = .ok (.if_icmp .ge 16, 3) := by decide +kernel
theorem dX4_book_98 : decode cX4_book 98 = .ok (.aload_n 0, 1) := by decide +kernel
theorem dX4_book_99 : decode cX4_book 99 = .ok (.getfield 50, 3) := by decide +kernel
theorem dX4_book_102 : decode cX4_book 102 = .ok (.iload_n 2, 1) := by decide +kernel
theorem dX4_book_103 : decode cX4_book 103 = .ok (.iconst (-1), 1) := by decide +kernel
theorem dX4_book_104 : decode cX4_book 104 = .ok (.iastore, 1) := by decide +kernel
theorem dX4_book_105 : decode cX4_book 105 = .ok (.iinc 2 1, 3) := by decide +kernel
theorem dX4_book_108 : decode cX4_book 108 = .ok (.goto (-18), 3) := by decide +kernel
theorem dX4_book_111 : decode cX4_book 111 = .ok (.aload_n 0, 1) := by decide +kernel
theorem dX4_book_112 : decode cX4_book 112 = .ok (.dup, 1) := by decide +kernel
theorem dX4_book_113 : decode cX4_book 113 = .ok (.getfield 161, 3) := by decide +kernel
theorem dX4_book_116 : decode cX4_book 116 = .ok (.iconst 1, 1) := by decide +kernel
theorem dX4_book_117 : decode cX4_book 117 = .ok (.iadd, 1) := by decide +kernel
theorem dX4_book_118 : decode cX4_book 118 = .ok (.putfield 161, 3) := by decide +kernel
theorem dX4_book_121 : decode cX4_book 121 = .ok (.iload_n 1, 1) := by decide +kernel
theorem dX4_book_122 : decode cX4_book 122 = .ok (.ireturn, 1) := by decide +kernel
theorem dX4_pays_0 : decode cX4_pays 0 = .ok (.iconst 0, 1) := by decide +kernel
theorem dX4_pays_1 : decode cX4_pays 1 = .ok (.istore_n 3, 1) := by decide +kernel
theorem dX4_pays_2 : decode cX4_pays 2 = .ok (.iload_n 3, 1) := by decide +kernel
theorem dX4_pays_3 : decode cX4_pays 3 = .ok (.bipush 10, 2) := by decide +kernel
theorem dX4_pays_5 : decode cX4_pays 5 = .ok (.if_icmp .ge 62, 3) := by decide +kernel
theorem dX4_pays_8 : decode cX4_pays 8 = .ok (.aload_n 0, 1) := by decide +kernel
theorem dX4_pays_9 : decode cX4_pays 9 = .ok (.getfield 81, 3) := by decide +kernel
theorem dX4_pays_12 : decode cX4_pays 12 = .ok (.bipush 10, 2) := by decide +kernel
theorem dX4_pays_14 : decode cX4_pays 14 = .ok (.iload_n 1, 1) := by decide +kernel
theorem dX4_pays_15 : decode cX4_pays 15 = .ok (.imul, 1) := by decide +kernel
theorem dX4_pays_16 : decode cX4_pays 16 = .ok (.iload_n 3, 1) := by decide +kernel
theorem dX4_pays_17 : decode cX4_pays 17 = .ok (.iadd, 1) := by decide +kernel
theorem dX4_pays_18 : decode cX4_pays 18 = .ok (.iaload, 1) := by decide +kernel
theorem dX4_pays_19 : decode cX4_pays 19 = .ok (.istore 4, 2) := by decide +kernel
theorem dX4_pays_21 : decode cX4_pays 21 = .ok (.iload 4, 2) := by decide +kernel
theorem dX4_pays_23 : decode cX4_pays 23 = .ok (.ifCond .lt 38, 3) := by decide +kernel
theorem dX4_pays_26 : decode cX4_pays 26 = .ok (.aload_n 0, 1) := by decide +kernel
theorem dX4_pays_27 : decode cX4_pays 27 = .ok (.getfield 35, 3) := by decide +kernel
theorem dX4_pays_30 : decode cX4_pays 30 = .ok (.iload_n 3, 1) := by decide +kernel
theorem dX4_pays_31 : decode cX4_pays 31 = .ok (.dup2, 1) := by decide +kernel
theorem dX4_pays_32 : decode cX4_pays 32 = .ok (.iaload, 1) := by decide +kernel
theorem dX4_pays_33 : decode cX4_pays 33 = .ok (.iload_n 2, 1) := by decide +kernel
theorem dX4_pays_34 : decode cX4_pays 34 = .ok (.aload_n 0, 1) := by decide +kernel
theorem dX4_pays_35 : decode cX4_pays 35 = .ok (.iload 4, 2) := by decide +kernel
theorem dX4_pays_37 : decode cX4_pays 37 = .ok (.invokevirtual 178, 3) := by decide +kernel
theorem dX4_pays_40 : decode cX4_pays 40 = .ok (.imul, 1) := by decide +kernel
theorem dX4_pays_41 : decode cX4_pays 41 = .ok (.isub, 1) := by decide +kernel
theorem dX4_pays_42 : decode cX4_pays 42 = .ok (.iastore, 1) := by decide +kernel
theorem dX4_pays_43 : decode cX4_pays 43 = .ok (.aload_n 0, 1) := by decide +kernel
theorem dX4_pays_44 : decode cX4_pays 44 = .ok (.getfield 35, 3) := by decide +kernel
theorem dX4_pays_47 : decode cX4_pays 47 = .ok (.iload 4, 2) := by decide +kernel
theorem dX4_pays_49 : decode cX4_pays 49 = .ok (.dup2, 1) := by decide +kernel
theorem dX4_pays_50 : decode cX4_pays 50 = .ok (.iaload, 1) := by decide +kernel
theorem dX4_pays_51 : decode cX4_pays 51 = .ok (.iload_n 2, 1) := by decide +kernel
theorem dX4_pays_52 : decode cX4_pays 52 = .ok (.aload_n 0, 1) := by decide +kernel
theorem dX4_pays_53 : decode cX4_pays 53 = .ok (.iload 4, 2) := by decide +kernel
theorem dX4_pays_55 : decode cX4_pays 55 = .ok (.invokevirtual 178, 3) := by decide +kernel
theorem dX4_pays_58 : decode cX4_pays 58 = .ok (.imul, 1) := by decide +kernel
theorem dX4_pays_59 : decode cX4_pays 59 = .ok (.iadd, 1) := by decide +kernel
theorem dX4_pays_60 : decode cX4_pays 60 = .ok (.iastore, 1) := by decide +kernel
theorem dX4_pays_61 : decode cX4_pays 61 = .ok (.iinc 3 1, 3) := by decide +kernel
theorem dX4_pays_64 : decode cX4_pays 64 = .ok (.goto (-62), 3) := by decide +kernel
theorem dX4_pays_67 : decode cX4_pays 67 = .ok (.return_, 1) := by decide +kernel
theorem dX4_went_0 : decode cX4_went 0 = .ok (.aload_n 0, 1) := by decide +kernel
theorem dX4_went_1 : decode cX4_went 1 = .ok (.iconst 0, 1) := by decide +kernel
theorem dX4_went_2 : decode cX4_went 2 = .ok (.putfield 84, 3) := by decide +kernel
theorem dX4_went_5 : decode cX4_went 5 = .ok (.iload_n 1, 1) := by decide +kernel
theorem dX4_went_6 : decode cX4_went 6 = .ok (.i2l, 1) := by decide +kernel
theorem dX4_went_7 : decode cX4_went 7 = .ok (.lconst 0, 1) := by decide +kernel
theorem dX4_went_8 : decode cX4_went 8 = .ok (.aload_n 0, 1) := by decide +kernel
theorem dX4_went_9 : decode cX4_went 9 = .ok (.getfield 161, 3) := by decide +kernel
theorem dX4_went_12 : decode cX4_went 12 = .ok (.iconst 1, 1) := by decide +kernel
theorem dX4_went_13 : decode cX4_went 13 = .ok (.isub, 1) := by decide +kernel
theorem dX4_went_14 : decode cX4_went 14 = .ok (.i2l, 1) := by decide +kernel
theorem dX4_went_15 : decode cX4_went 15 = .ok (.invokestatic 90, 3) := by decide +kernel
theorem dX4_went_18 : decode cX4_went 18 = .ok (.ifCond .eq 25, 3) := by decide +kernel
theorem dX4_went_21 : decode cX4_went 21 = .ok (.aload_n 0, 1) := by decide +kernel
theorem dX4_went_22 : decode cX4_went 22 = .ok (.iload_n 2, 1) := by decide +kernel
theorem dX4_went_23 : decode cX4_went 23 = .ok (.invokevirtual 94, 3) := by decide +kernel
theorem dX4_went_26 : decode cX4_went 26 = .ok (.ifCond .eq 17, 3) := by decide +kernel
theorem dX4_went_29 : decode cX4_went 29 = .ok (.aload_n 0, 1) := by decide +kernel
theorem dX4_went_30 : decode cX4_went 30 = .ok (.getfield 81, 3) := by decide +kernel
theorem dX4_went_33 : decode cX4_went 33 = .ok (.bipush 10, 2) := by decide +kernel
theorem dX4_went_35 : decode cX4_went 35 = .ok (.iload_n 1, 1) := by decide +kernel
theorem dX4_went_36 : decode cX4_went 36 = .ok (.imul, 1) := by decide +kernel
theorem dX4_went_37 : decode cX4_went 37 = .ok (.iload_n 2, 1) := by decide +kernel
theorem dX4_went_38 : decode cX4_went 38 = .ok (.iadd, 1) := by decide +kernel
theorem dX4_went_39 : decode cX4_went 39 = .ok (.iaload, 1) := by decide +kernel
theorem dX4_went_40 : decode cX4_went 40 = .ok (.goto 4, 3) := by decide +kernel
theorem dX4_went_43 : decode cX4_went 43 = .ok (.iconst (-1), 1) := by decide +kernel
theorem dX4_went_44 : decode cX4_went 44 = .ok (.ireturn, 1) := by decide +kernel
theorem dX4_undo_0 : decode cX4_undo 0 = .ok (.aload_n 0, 1) := by decide +kernel
theorem dX4_undo_1 : decode cX4_undo 1 = .ok (.iconst 0, 1) := by decide +kernel
theorem dX4_undo_2 : decode cX4_undo 2 = .ok (.putfield 84, 3) := by decide +kernel
theorem dX4_undo_5 : decode cX4_undo 5 = .ok (.aload_n 0, 1) := by decide +kernel
theorem dX4_undo_6 : decode cX4_undo 6 = .ok (.iconst 0, 1) := by decide +kernel
theorem dX4_undo_7 : decode cX4_undo 7 = .ok (.putfield 98, 3) := by decide +kernel
theorem dX4_undo_10 : decode cX4_undo 10 = .ok (.aload_n 0, 1) := by decide +kernel
theorem dX4_undo_11 : decode cX4_undo 11 = .ok (.getfield 161, 3) := by decide +kernel
theorem dX4_undo_14 : decode cX4_undo 14 = .ok (.ifCond .ne 5, 3) := by decide +kernel
theorem dX4_undo_17 : decode cX4_undo 17 = .ok (.iconst (-1), 1) := by decide +kernel
theorem dX4_undo_18 : decode cX4_undo 18 = .ok (.ireturn, 1) := by decide +kernel
theorem dX4_undo_19 : decode cX4_undo 19 = .ok (.aload_n 0, 1) := by decide +kernel
theorem dX4_undo_20 : decode cX4_undo 20 = .ok (.dup, 1) := by decide +kernel
theorem dX4_undo_21 : decode cX4_undo 21 = .ok (.getfield 161, 3) := by decide +kernel
theorem dX4_undo_24 : decode cX4_undo 24 = .ok (.iconst 1, 1) := by decide +kernel
theorem dX4_undo_25 : decode cX4_undo 25 = .ok (.isub, 1) := by decide +kernel
theorem dX4_undo_26 : decode cX4_undo 26 = .ok (.putfield 161, 3) := by decide +kernel
theorem dX4_undo_29 : decode cX4_undo 29 = .ok (.aload_n 0, 1) := by decide +kernel
theorem dX4_undo_30 : decode cX4_undo 30 = .ok (.aload_n 0, 1) := by decide +kernel
theorem dX4_undo_31 : decode cX4_undo 31 = .ok (.getfield 161, 3) := by decide +kernel
theorem dX4_undo_34 : decode cX4_undo 34 = .ok (.iconst (-1), 1) := by decide +kernel
theorem dX4_undo_35 : decode cX4_undo 35 = .ok (.invokevirtual 241, 3) := by decide +kernel
theorem dX4_undo_38 : decode cX4_undo 38 = .ok (.iconst 0, 1) := by decide +kernel
theorem dX4_undo_39 : decode cX4_undo 39 = .ok (.istore_n 1, 1) := by decide +kernel
theorem dX4_undo_40 : decode cX4_undo 40 = .ok (.iload_n 1, 1) := by decide +kernel
theorem dX4_undo_41 : decode cX4_undo 41 = .ok (.aload_n 0, 1) := by decide +kernel
theorem dX4_undo_42 : decode cX4_undo 42 = .ok (.getfield 87, 3) := by decide +kernel
theorem dX4_undo_45 : decode cX4_undo 45 = .ok (.if_icmp .ge 29, 3) := by decide +kernel
theorem dX4_undo_48 : decode cX4_undo 48 = .ok (.aload_n 0, 1) := by decide +kernel
theorem dX4_undo_49 : decode cX4_undo 49 = .ok (.getfield 50, 3) := by decide +kernel
theorem dX4_undo_52 : decode cX4_undo 52 = .ok (.iload_n 1, 1) := by decide +kernel
theorem dX4_undo_53 : decode cX4_undo 53 = .ok (.aload_n 0, 1) := by decide +kernel
theorem dX4_undo_54 : decode cX4_undo 54 = .ok (.getfield 81, 3) := by decide +kernel
theorem dX4_undo_57 : decode cX4_undo 57 = .ok (.bipush 10, 2) := by decide +kernel
theorem dX4_undo_59 : decode cX4_undo 59 = .ok (.aload_n 0, 1) := by decide +kernel
theorem dX4_undo_60 : decode cX4_undo 60 = .ok (.getfield 161, 3) := by decide +kernel
theorem dX4_undo_63 : decode cX4_undo 63 = .ok (.imul, 1) := by decide +kernel
theorem dX4_undo_64 : decode cX4_undo 64 = .ok (.iload_n 1, 1) := by decide +kernel
theorem dX4_undo_65 : decode cX4_undo 65 = .ok (.iadd, 1) := by decide +kernel
theorem dX4_undo_66 : decode cX4_undo 66 = .ok (.iaload, 1) := by decide +kernel
theorem dX4_undo_67 : decode cX4_undo 67 = .ok (.iastore, 1) := by decide +kernel
theorem dX4_undo_68 : decode cX4_undo 68 = .ok (.iinc 1 1, 3) := by decide +kernel
theorem dX4_undo_71 : decode cX4_undo 71 = .ok (.goto (-31), 3) := by decide +kernel
theorem dX4_undo_74 : decode cX4_undo 74 = .ok (.aload_n 0, 1) := by decide +kernel
theorem dX4_undo_75 : decode cX4_undo 75 = .ok (.getfield 161, 3) := by decide +kernel
theorem dX4_undo_78 : decode cX4_undo 78 = .ok (.ireturn, 1) := by decide +kernel
theorem dX4_row_0 : decode cX4_row 0 = .ok (.aload_n 0, 1) := by decide +kernel
theorem dX4_row_1 : decode cX4_row 1 = .ok (.iconst 0, 1) := by decide +kernel
theorem dX4_row_2 : decode cX4_row 2 = .ok (.putfield 84, 3) := by decide +kernel
theorem dX4_row_5 : decode cX4_row 5 = .ok (.iload_n 1, 1) := by decide +kernel
theorem dX4_row_6 : decode cX4_row 6 = .ok (.i2l, 1) := by decide +kernel
theorem dX4_row_7 : decode cX4_row 7 = .ok (.lconst 0, 1) := by decide +kernel
theorem dX4_row_8 : decode cX4_row 8 = .ok (.aload_n 0, 1) := by decide +kernel
theorem dX4_row_9 : decode cX4_row 9 = .ok (.getfield 164, 3) := by decide +kernel
theorem dX4_row_12 : decode cX4_row 12 = .ok (.iconst 1, 1) := by decide +kernel
theorem dX4_row_13 : decode cX4_row 13 = .ok (.isub, 1) := by decide +kernel
theorem dX4_row_14 : decode cX4_row 14 = .ok (.i2l, 1) := by decide +kernel
theorem dX4_row_15 : decode cX4_row 15 = .ok (.invokestatic 90, 3) := by decide +kernel
theorem dX4_row_18 : decode cX4_row 18 = .ok (.ifCond .eq 12, 3) := by decide +kernel
theorem dX4_row_21 : decode cX4_row 21 = .ok (.aload_n 0, 1) := by decide +kernel
theorem dX4_row_22 : decode cX4_row 22 = .ok (.getfield 72, 3) := by decide +kernel
theorem dX4_row_25 : decode cX4_row 25 = .ok (.iload_n 1, 1) := by decide +kernel
theorem dX4_row_26 : decode cX4_row 26 = .ok (.iaload, 1) := by decide +kernel
theorem dX4_row_27 : decode cX4_row 27 = .ok (.goto 7, 3) := by decide +kernel
theorem dX4_row_30 : decode cX4_row 30 = .ok (.aload_n 0, 1) := by decide +kernel
theorem dX4_row_31 : decode cX4_row 31 = .ok (.invokevirtual 175, 3) := by decide +kernel
theorem dX4_row_34 : decode cX4_row 34 = .ok (.ireturn, 1) := by decide +kernel
theorem dJ6_bitCount_0f7a4_0 : decode cJ6_bitCount_0f7a4 0 = .ok (.iload_n 0, 1) := by decide +kernel
theorem dJ6_bitCount_0f7a4_1 : decode cJ6_bitCount_0f7a4 1 = .ok (.iload_n 0, 1) := by decide +kernel
theorem dJ6_bitCount_0f7a4_2 : decode cJ6_bitCount_0f7a4 2 = .ok (.iconst 1, 1) := by decide +kernel
theorem dJ6_bitCount_0f7a4_3 : decode cJ6_bitCount_0f7a4 3 = .ok (.iushr, 1) := by decide +kernel
theorem dJ6_bitCount_0f7a4_4 : decode cJ6_bitCount_0f7a4 4 = .ok (.ldc_w 265, 3) := by decide +kernel
theorem dJ6_bitCount_0f7a4_7 : decode cJ6_bitCount_0f7a4 7 = .ok (.iand, 1) := by decide +kernel
theorem dJ6_bitCount_0f7a4_8 : decode cJ6_bitCount_0f7a4 8 = .ok (.isub, 1) := by decide +kernel
theorem dJ6_bitCount_0f7a4_9 : decode cJ6_bitCount_0f7a4 9 = .ok (.istore_n 0, 1) := by decide +kernel
theorem dJ6_bitCount_0f7a4_10 : decode cJ6_bitCount_0f7a4 10 = .ok (.iload_n 0, 1) := by decide +kernel
theorem dJ6_bitCount_0f7a4_11 : decode cJ6_bitCount_0f7a4 11 = .ok (.ldc_w 266, 3) := by decide +kernel
theorem dJ6_bitCount_0f7a4_14 : decode cJ6_bitCount_0f7a4 14 = .ok (.iand, 1) := by decide +kernel
theorem dJ6_bitCount_0f7a4_15 : decode cJ6_bitCount_0f7a4 15 = .ok (.iload_n 0, 1) := by decide +kernel
theorem dJ6_bitCount_0f7a4_16 : decode cJ6_bitCount_0f7a4 16 = .ok (.iconst 2, 1) := by decide +kernel
theorem dJ6_bitCount_0f7a4_17 : decode cJ6_bitCount_0f7a4 17 = .ok (.iushr, 1) := by decide +kernel
theorem dJ6_bitCount_0f7a4_18 : decode cJ6_bitCount_0f7a4 18 = .ok (.ldc_w 266, 3) := by decide +kernel
theorem dJ6_bitCount_0f7a4_21 : decode cJ6_bitCount_0f7a4 21 = .ok (.iand, 1) := by decide +kernel
theorem dJ6_bitCount_0f7a4_22 : decode cJ6_bitCount_0f7a4 22 = .ok (.iadd, 1) := by decide +kernel
theorem dJ6_bitCount_0f7a4_23 : decode cJ6_bitCount_0f7a4 23 = .ok (.istore_n 0, 1) := by decide +kernel
theorem dJ6_bitCount_0f7a4_24 : decode cJ6_bitCount_0f7a4 24 = .ok (.iload_n 0, 1) := by decide +kernel
theorem dJ6_bitCount_0f7a4_25 : decode cJ6_bitCount_0f7a4 25 = .ok (.iload_n 0, 1) := by decide +kernel
theorem dJ6_bitCount_0f7a4_26 : decode cJ6_bitCount_0f7a4 26 = .ok (.iconst 4, 1) := by decide +kernel
theorem dJ6_bitCount_0f7a4_27 : decode cJ6_bitCount_0f7a4 27 = .ok (.iushr, 1) := by decide +kernel
theorem dJ6_bitCount_0f7a4_28 : decode cJ6_bitCount_0f7a4 28 = .ok (.iadd, 1) := by decide +kernel
theorem dJ6_bitCount_0f7a4_29 : decode cJ6_bitCount_0f7a4 29 = .ok (.ldc_w 267, 3) := by decide +kernel
theorem dJ6_bitCount_0f7a4_32 : decode cJ6_bitCount_0f7a4 32 = .ok (.iand, 1) := by decide +kernel
theorem dJ6_bitCount_0f7a4_33 : decode cJ6_bitCount_0f7a4 33 = .ok (.istore_n 0, 1) := by decide +kernel
theorem dJ6_bitCount_0f7a4_34 : decode cJ6_bitCount_0f7a4 34 = .ok (.iload_n 0, 1) := by decide +kernel
theorem dJ6_bitCount_0f7a4_35 : decode cJ6_bitCount_0f7a4 35 = .ok (.iload_n 0, 1) := by decide +kernel
theorem dJ6_bitCount_0f7a4_36 : decode cJ6_bitCount_0f7a4 36 = .ok (.bipush 8, 2) := by decide +kernel
theorem dJ6_bitCount_0f7a4_38 : decode cJ6_bitCount_0f7a4 38 = .ok (.iushr, 1) := by decide +kernel
theorem dJ6_bitCount_0f7a4_39 : decode cJ6_bitCount_0f7a4 39 = .ok (.iadd, 1) := by decide +kernel
theorem dJ6_bitCount_0f7a4_40 : decode cJ6_bitCount_0f7a4 40 = .ok (.istore_n 0, 1) := by decide +kernel
theorem dJ6_bitCount_0f7a4_41 : decode cJ6_bitCount_0f7a4 41 = .ok (.iload_n 0, 1) := by decide +kernel
theorem dJ6_bitCount_0f7a4_42 : decode cJ6_bitCount_0f7a4 42 = .ok (.iload_n 0, 1) := by decide +kernel
theorem dJ6_bitCount_0f7a4_43 : decode cJ6_bitCount_0f7a4 43 = .ok (.bipush 16, 2) := by decide +kernel
theorem dJ6_bitCount_0f7a4_45 : decode cJ6_bitCount_0f7a4 45 = .ok (.iushr, 1) := by decide +kernel
theorem dJ6_bitCount_0f7a4_46 : decode cJ6_bitCount_0f7a4 46 = .ok (.iadd, 1) := by decide +kernel
theorem dJ6_bitCount_0f7a4_47 : decode cJ6_bitCount_0f7a4 47 = .ok (.istore_n 0, 1) := by decide +kernel
theorem dJ6_bitCount_0f7a4_48 : decode cJ6_bitCount_0f7a4 48 = .ok (.iload_n 0, 1) := by decide +kernel
theorem dJ6_bitCount_0f7a4_49 : decode cJ6_bitCount_0f7a4 49 = .ok (.bipush 63, 2) := by decide +kernel
theorem dJ6_bitCount_0f7a4_51 : decode cJ6_bitCount_0f7a4 51 = .ok (.iand, 1) := by decide +kernel
theorem dJ6_bitCount_0f7a4_52 : decode cJ6_bitCount_0f7a4 52 = .ok (.ireturn, 1) := by decide +kernel
theorem dJ9_floorMod_f86c9_0 : decode cJ9_floorMod_f86c9 0 = .ok (.lload_n 0, 1) := by decide +kernel
theorem dJ9_floorMod_f86c9_1 : decode cJ9_floorMod_f86c9 1 = .ok (.lload_n 2, 1) := by decide +kernel
theorem dJ9_floorMod_f86c9_2 : decode cJ9_floorMod_f86c9 2 = .ok (.lrem, 1) := by decide +kernel
theorem dJ9_floorMod_f86c9_3 : decode cJ9_floorMod_f86c9 3 = .ok (.lstore 4, 2) := by decide +kernel
theorem dJ9_floorMod_f86c9_5 : decode cJ9_floorMod_f86c9 5 = .ok (.lload_n 0, 1) := by decide +kernel
theorem dJ9_floorMod_f86c9_6 : decode cJ9_floorMod_f86c9 6 = .ok (.lload_n 2, 1) := by decide +kernel
theorem dJ9_floorMod_f86c9_7 : decode cJ9_floorMod_f86c9 7 = .ok (.lxor, 1) := by decide +kernel
theorem dJ9_floorMod_f86c9_8 : decode cJ9_floorMod_f86c9 8 = .ok (.lconst 0, 1) := by decide +kernel
theorem dJ9_floorMod_f86c9_9 : decode cJ9_floorMod_f86c9 9 = .ok (.lcmp, 1) := by decide +kernel
theorem dJ9_floorMod_f86c9_10 : decode cJ9_floorMod_f86c9 10 = .ok (.ifCond .ge 15, 3) := by decide +kernel
theorem dJ9_floorMod_f86c9_13 : decode cJ9_floorMod_f86c9 13 = .ok (.lload 4, 2) := by decide +kernel
theorem dJ9_floorMod_f86c9_15 : decode cJ9_floorMod_f86c9 15 = .ok (.lconst 0, 1) := by decide +kernel
theorem dJ9_floorMod_f86c9_16 : decode cJ9_floorMod_f86c9 16 = .ok (.lcmp, 1) := by decide +kernel
theorem dJ9_floorMod_f86c9_17 : decode cJ9_floorMod_f86c9 17 = .ok (.ifCond .eq 8, 3) := by decide +kernel
theorem dJ9_floorMod_f86c9_20 : decode cJ9_floorMod_f86c9 20 = .ok (.lload 4, 2) := by decide +kernel
theorem dJ9_floorMod_f86c9_22 : decode cJ9_floorMod_f86c9 22 = .ok (.lload_n 2, 1) := by decide +kernel
theorem dJ9_floorMod_f86c9_23 : decode cJ9_floorMod_f86c9 23 = .ok (.ladd, 1) := by decide +kernel
theorem dJ9_floorMod_f86c9_24 : decode cJ9_floorMod_f86c9 24 = .ok (.lreturn, 1) := by decide +kernel
theorem dJ9_floorMod_f86c9_25 : decode cJ9_floorMod_f86c9 25 = .ok (.lload 4, 2) := by decide +kernel
theorem dJ9_floorMod_f86c9_27 : decode cJ9_floorMod_f86c9 27 = .ok (.lreturn, 1) := by decide +kernel
theorem dJ9_max_7cf53_0 : decode cJ9_max_7cf53 0 = .ok (.iload_n 0, 1) := by decide +kernel
theorem dJ9_max_7cf53_1 : decode cJ9_max_7cf53 1 = .ok (.iload_n 1, 1) := by decide +kernel
theorem dJ9_max_7cf53_2 : decode cJ9_max_7cf53 2 = .ok (.if_icmp .lt 7, 3) := by decide +kernel
theorem dJ9_max_7cf53_5 : decode cJ9_max_7cf53 5 = .ok (.iload_n 0, 1) := by decide +kernel
theorem dJ9_max_7cf53_6 : decode cJ9_max_7cf53 6 = .ok (.goto 4, 3) := by decide +kernel
theorem dJ9_max_7cf53_9 : decode cJ9_max_7cf53 9 = .ok (.iload_n 1, 1) := by decide +kernel
theorem dJ9_max_7cf53_10 : decode cJ9_max_7cf53 10 = .ok (.ireturn, 1) := by decide +kernel
theorem dJ9_max_f86c9_0 : decode cJ9_max_f86c9 0 = .ok (.lload_n 0, 1) := by decide +kernel
theorem dJ9_max_f86c9_1 : decode cJ9_max_f86c9 1 = .ok (.lload_n 2, 1) := by decide +kernel
theorem dJ9_max_f86c9_2 : decode cJ9_max_f86c9 2 = .ok (.lcmp, 1) := by decide +kernel
theorem dJ9_max_f86c9_3 : decode cJ9_max_f86c9 3 = .ok (.ifCond .lt 7, 3) := by decide +kernel
theorem dJ9_max_f86c9_6 : decode cJ9_max_f86c9 6 = .ok (.lload_n 0, 1) := by decide +kernel
theorem dJ9_max_f86c9_7 : decode cJ9_max_f86c9 7 = .ok (.goto 4, 3) := by decide +kernel
theorem dJ9_max_f86c9_10 : decode cJ9_max_f86c9 10 = .ok (.lload_n 2, 1) := by decide +kernel
theorem dJ9_max_f86c9_11 : decode cJ9_max_f86c9 11 = .ok (.lreturn, 1) := by decide +kernel
theorem dJ9_min_7cf53_0 : decode cJ9_min_7cf53 0 = .ok (.iload_n 0, 1) := by decide +kernel
theorem dJ9_min_7cf53_1 : decode cJ9_min_7cf53 1 = .ok (.iload_n 1, 1) := by decide +kernel
theorem dJ9_min_7cf53_2 : decode cJ9_min_7cf53 2 = .ok (.if_icmp .gt 7, 3) := by decide +kernel
theorem dJ9_min_7cf53_5 : decode cJ9_min_7cf53 5 = .ok (.iload_n 0, 1) := by decide +kernel
theorem dJ9_min_7cf53_6 : decode cJ9_min_7cf53 6 = .ok (.goto 4, 3) := by decide +kernel
theorem dJ9_min_7cf53_9 : decode cJ9_min_7cf53 9 = .ok (.iload_n 1, 1) := by decide +kernel
theorem dJ9_min_7cf53_10 : decode cJ9_min_7cf53 10 = .ok (.ireturn, 1) := by decide +kernel
theorem dL_of_0 : decode cL_of 0 = .ok (.aload_n 3, 1) := by decide +kernel
theorem dL_of_1 : decode cL_of 1 = .ok (.iconst 0, 1) := by decide +kernel
theorem dL_of_2 : decode cL_of 2 = .ok (.aload_n 0, 1) := by decide +kernel
theorem dL_of_3 : decode cL_of 3 = .ok (.iload_n 1, 1) := by decide +kernel
theorem dL_of_4 : decode cL_of 4 = .ok (.iload_n 2, 1) := by decide +kernel
theorem dL_of_5 : decode cL_of 5 = .ok (.invokevirtual 7, 3) := by decide +kernel
theorem dL_of_8 : decode cL_of 8 = .ok (.i2l, 1) := by decide +kernel
theorem dL_of_9 : decode cL_of 9 = .ok (.lastore, 1) := by decide +kernel
theorem dL_of_10 : decode cL_of 10 = .ok (.goto 7, 3) := by decide +kernel
theorem dL_of_13 : decode cL_of 13 = .ok (.astore 4, 2) := by decide +kernel
theorem dL_of_15 : decode cL_of 15 = .ok (.iconst 1, 1) := by decide +kernel
theorem dL_of_16 : decode cL_of 16 = .ok (.ireturn, 1) := by decide +kernel
theorem dL_of_17 : decode cL_of 17 = .ok (.iconst 0, 1) := by decide +kernel
theorem dL_of_18 : decode cL_of 18 = .ok (.ireturn, 1) := by decide +kernel
theorem dL_row_0 : decode cL_row 0 = .ok (.aload_n 2, 1) := by decide +kernel
theorem dL_row_1 : decode cL_row 1 = .ok (.iconst 0, 1) := by decide +kernel
theorem dL_row_2 : decode cL_row 2 = .ok (.aload_n 0, 1) := by decide +kernel
theorem dL_row_3 : decode cL_row 3 = .ok (.iload_n 1, 1) := by decide +kernel
theorem dL_row_4 : decode cL_row 4 = .ok (.invokevirtual 15, 3) := by decide +kernel
theorem dL_row_7 : decode cL_row 7 = .ok (.i2l, 1) := by decide +kernel
theorem dL_row_8 : decode cL_row 8 = .ok (.lastore, 1) := by decide +kernel
theorem dL_row_9 : decode cL_row 9 = .ok (.goto 6, 3) := by decide +kernel
theorem dL_row_12 : decode cL_row 12 = .ok (.astore_n 3, 1) := by decide +kernel
theorem dL_row_13 : decode cL_row 13 = .ok (.iconst 1, 1) := by decide +kernel
theorem dL_row_14 : decode cL_row 14 = .ok (.ireturn, 1) := by decide +kernel
theorem dL_row_15 : decode cL_row 15 = .ok (.iconst 0, 1) := by decide +kernel
theorem dL_row_16 : decode cL_row 16 = .ok (.ireturn, 1) := by decide +kernel
theorem dL_law_0 : decode cL_law 0 = .ok (.new 8, 3) := by decide +kernel
theorem dL_law_3 : decode cL_law 3 = .ok (.dup, 1) := by decide +kernel
theorem dL_law_4 : decode cL_law 4 = .ok (.invokespecial 19, 3) := by decide +kernel
theorem dL_law_7 : decode cL_law 7 = .ok (.astore_n 1, 1) := by decide +kernel
theorem dL_law_8 : decode cL_law 8 = .ok (.new 20, 3) := by decide +kernel
theorem dL_law_11 : decode cL_law 11 = .ok (.dup, 1) := by decide +kernel
theorem dL_law_12 : decode cL_law 12 = .ok (.invokespecial 22, 3) := by decide +kernel
theorem dL_law_15 : decode cL_law 15 = .ok (.astore_n 2, 1) := by decide +kernel
theorem dL_law_16 : decode cL_law 16 = .ok (.iconst 1, 1) := by decide +kernel
theorem dL_law_17 : decode cL_law 17 = .ok (.newarray .long, 2) := by decide +kernel
theorem dL_law_19 : decode cL_law 19 = .ok (.astore_n 3, 1) := by decide +kernel
theorem dL_law_20 : decode cL_law 20 = .ok (.iconst 0, 1) := by decide +kernel
theorem dL_law_21 : decode cL_law 21 = .ok (.istore 4, 2) := by decide +kernel
theorem dL_law_23 : decode cL_law 23 = .ok (.iload 4, 2) := by decide +kernel
theorem dL_law_25 : decode cL_law 25 = .ok (.aload_n 0, 1) := by decide +kernel
theorem dL_law_26 : decode cL_law 26 = .ok (.arraylength, 1) := by decide +kernel
theorem dL_law_27 : decode cL_law 27 = .ok (.bipush 6, 2) := by decide +kernel
theorem dL_law_29 : decode cL_law 29 = .ok (.isub, 1) := by decide +kernel
theorem dL_law_30 : decode cL_law 30 = .ok (.if_icmp .gt 1023, 3) := by decide +kernel
theorem dL_law_33 : decode cL_law 33 = .ok (.aload_n 0, 1) := by decide +kernel
theorem dL_law_34 : decode cL_law 34 = .ok (.iload 4, 2) := by decide +kernel
theorem dL_law_36 : decode cL_law 36 = .ok (.iaload, 1) := by decide +kernel
theorem dL_law_37 : decode cL_law 37 = .ok (.bipush 31, 2) := by decide +kernel
theorem dL_law_39 : decode cL_law 39 = .ok (.iand, 1) := by decide +kernel
theorem dL_law_40 : decode cL_law 40 = .ok (.tableswitch 1007 0 24 #[116, 193, 254, 291, 364, 429, 482, 519, 544, 612, 649, 686, 723, 760, 773, 786, 799, 812, 825, 850, 875, 888, 901, 938, 951], 116) := by decide +kernel
theorem dL_law_156 : decode cL_law 156 = .ok (.aload_n 1, 1) := by decide +kernel
theorem dL_law_157 : decode cL_law 157 = .ok (.aload_n 0, 1) := by decide +kernel
theorem dL_law_158 : decode cL_law 158 = .ok (.iload 4, 2) := by decide +kernel
theorem dL_law_160 : decode cL_law 160 = .ok (.iconst 1, 1) := by decide +kernel
theorem dL_law_161 : decode cL_law 161 = .ok (.iadd, 1) := by decide +kernel
theorem dL_law_162 : decode cL_law 162 = .ok (.iaload, 1) := by decide +kernel
theorem dL_law_163 : decode cL_law 163 = .ok (.aload_n 0, 1) := by decide +kernel
theorem dL_law_164 : decode cL_law 164 = .ok (.iload 4, 2) := by decide +kernel
theorem dL_law_166 : decode cL_law 166 = .ok (.iconst 2, 1) := by decide +kernel
theorem dL_law_167 : decode cL_law 167 = .ok (.iadd, 1) := by decide +kernel
theorem dL_law_168 : decode cL_law 168 = .ok (.iaload, 1) := by decide +kernel
theorem dL_law_169 : decode cL_law 169 = .ok (.aload_n 0, 1) := by decide +kernel
theorem dL_law_170 : decode cL_law 170 = .ok (.iload 4, 2) := by decide +kernel
theorem dL_law_172 : decode cL_law 172 = .ok (.iconst 3, 1) := by decide +kernel
theorem dL_law_173 : decode cL_law 173 = .ok (.iadd, 1) := by decide +kernel
theorem dL_law_174 : decode cL_law 174 = .ok (.iaload, 1) := by decide +kernel
theorem dL_law_175 : decode cL_law 175 = .ok (.aload_n 0, 1) := by decide +kernel
theorem dL_law_176 : decode cL_law 176 = .ok (.iload 4, 2) := by decide +kernel
theorem dL_law_178 : decode cL_law 178 = .ok (.iconst 4, 1) := by decide +kernel
theorem dL_law_179 : decode cL_law 179 = .ok (.iadd, 1) := by decide +kernel
theorem dL_law_180 : decode cL_law 180 = .ok (.iaload, 1) := by decide +kernel
theorem dL_law_181 : decode cL_law 181 = .ok (.ifCond .eq 7, 3) := by decide +kernel
theorem dL_law_184 : decode cL_law 184 = .ok (.iconst 1, 1) := by decide +kernel
theorem dL_law_185 : decode cL_law 185 = .ok (.goto 4, 3) := by decide +kernel
theorem dL_law_188 : decode cL_law 188 = .ok (.iconst 0, 1) := by decide +kernel
theorem dL_law_189 : decode cL_law 189 = .ok (.invokevirtual 23, 3) := by decide +kernel
theorem dL_law_192 : decode cL_law 192 = .ok (.aload_n 2, 1) := by decide +kernel
theorem dL_law_193 : decode cL_law 193 = .ok (.aload_n 0, 1) := by decide +kernel
theorem dL_law_194 : decode cL_law 194 = .ok (.iload 4, 2) := by decide +kernel
theorem dL_law_196 : decode cL_law 196 = .ok (.iconst 1, 1) := by decide +kernel
theorem dL_law_197 : decode cL_law 197 = .ok (.iadd, 1) := by decide +kernel
theorem dL_law_198 : decode cL_law 198 = .ok (.iaload, 1) := by decide +kernel
theorem dL_law_199 : decode cL_law 199 = .ok (.aload_n 0, 1) := by decide +kernel
theorem dL_law_200 : decode cL_law 200 = .ok (.iload 4, 2) := by decide +kernel
theorem dL_law_202 : decode cL_law 202 = .ok (.iconst 2, 1) := by decide +kernel
theorem dL_law_203 : decode cL_law 203 = .ok (.iadd, 1) := by decide +kernel
theorem dL_law_204 : decode cL_law 204 = .ok (.iaload, 1) := by decide +kernel
theorem dL_law_205 : decode cL_law 205 = .ok (.aload_n 0, 1) := by decide +kernel
theorem dL_law_206 : decode cL_law 206 = .ok (.iload 4, 2) := by decide +kernel
theorem dL_law_208 : decode cL_law 208 = .ok (.iconst 3, 1) := by decide +kernel
theorem dL_law_209 : decode cL_law 209 = .ok (.iadd, 1) := by decide +kernel
theorem dL_law_210 : decode cL_law 210 = .ok (.iaload, 1) := by decide +kernel
theorem dL_law_211 : decode cL_law 211 = .ok (.aload_n 0, 1) := by decide +kernel
theorem dL_law_212 : decode cL_law 212 = .ok (.iload 4, 2) := by decide +kernel
theorem dL_law_214 : decode cL_law 214 = .ok (.iconst 4, 1) := by decide +kernel
theorem dL_law_215 : decode cL_law 215 = .ok (.iadd, 1) := by decide +kernel
theorem dL_law_216 : decode cL_law 216 = .ok (.iaload, 1) := by decide +kernel
theorem dL_law_217 : decode cL_law 217 = .ok (.ifCond .eq 7, 3) := by decide +kernel
theorem dL_law_220 : decode cL_law 220 = .ok (.iconst 1, 1) := by decide +kernel
theorem dL_law_221 : decode cL_law 221 = .ok (.goto 4, 3) := by decide +kernel
theorem dL_law_224 : decode cL_law 224 = .ok (.iconst 0, 1) := by decide +kernel
theorem dL_law_225 : decode cL_law 225 = .ok (.invokevirtual 27, 3) := by decide +kernel
theorem dL_law_228 : decode cL_law 228 = .ok (.if_icmp .eq 819, 3) := by decide +kernel
theorem dL_law_231 : decode cL_law 231 = .ok (.iconst 0, 1) := by decide +kernel
theorem dL_law_232 : decode cL_law 232 = .ok (.ireturn, 1) := by decide +kernel
theorem dL_law_233 : decode cL_law 233 = .ok (.aload_n 1, 1) := by decide +kernel
theorem dL_law_234 : decode cL_law 234 = .ok (.aload_n 0, 1) := by decide +kernel
theorem dL_law_235 : decode cL_law 235 = .ok (.iload 4, 2) := by decide +kernel
theorem dL_law_237 : decode cL_law 237 = .ok (.iconst 1, 1) := by decide +kernel
theorem dL_law_238 : decode cL_law 238 = .ok (.iadd, 1) := by decide +kernel
theorem dL_law_239 : decode cL_law 239 = .ok (.iaload, 1) := by decide +kernel
theorem dL_law_240 : decode cL_law 240 = .ok (.aload_n 0, 1) := by decide +kernel
theorem dL_law_241 : decode cL_law 241 = .ok (.iload 4, 2) := by decide +kernel
theorem dL_law_243 : decode cL_law 243 = .ok (.iconst 2, 1) := by decide +kernel
theorem dL_law_244 : decode cL_law 244 = .ok (.iadd, 1) := by decide +kernel
theorem dL_law_245 : decode cL_law 245 = .ok (.iaload, 1) := by decide +kernel
theorem dL_law_246 : decode cL_law 246 = .ok (.aload_n 0, 1) := by decide +kernel
theorem dL_law_247 : decode cL_law 247 = .ok (.iload 4, 2) := by decide +kernel
theorem dL_law_249 : decode cL_law 249 = .ok (.iconst 3, 1) := by decide +kernel
theorem dL_law_250 : decode cL_law 250 = .ok (.iadd, 1) := by decide +kernel
theorem dL_law_251 : decode cL_law 251 = .ok (.iaload, 1) := by decide +kernel
theorem dL_law_252 : decode cL_law 252 = .ok (.aload_n 0, 1) := by decide +kernel
theorem dL_law_253 : decode cL_law 253 = .ok (.iload 4, 2) := by decide +kernel
theorem dL_law_255 : decode cL_law 255 = .ok (.iconst 4, 1) := by decide +kernel
theorem dL_law_256 : decode cL_law 256 = .ok (.iadd, 1) := by decide +kernel
theorem dL_law_257 : decode cL_law 257 = .ok (.iaload, 1) := by decide +kernel
theorem dL_law_258 : decode cL_law 258 = .ok (.invokevirtual 28, 3) := by decide +kernel
theorem dL_law_261 : decode cL_law 261 = .ok (.aload_n 2, 1) := by decide +kernel
theorem dL_law_262 : decode cL_law 262 = .ok (.aload_n 0, 1) := by decide +kernel
theorem dL_law_263 : decode cL_law 263 = .ok (.iload 4, 2) := by decide +kernel
theorem dL_law_265 : decode cL_law 265 = .ok (.iconst 1, 1) := by decide +kernel
theorem dL_law_266 : decode cL_law 266 = .ok (.iadd, 1) := by decide +kernel
theorem dL_law_267 : decode cL_law 267 = .ok (.iaload, 1) := by decide +kernel
theorem dL_law_268 : decode cL_law 268 = .ok (.aload_n 0, 1) := by decide +kernel
theorem dL_law_269 : decode cL_law 269 = .ok (.iload 4, 2) := by decide +kernel
theorem dL_law_271 : decode cL_law 271 = .ok (.iconst 2, 1) := by decide +kernel
theorem dL_law_272 : decode cL_law 272 = .ok (.iadd, 1) := by decide +kernel
theorem dL_law_273 : decode cL_law 273 = .ok (.iaload, 1) := by decide +kernel
theorem dL_law_274 : decode cL_law 274 = .ok (.aload_n 0, 1) := by decide +kernel
theorem dL_law_275 : decode cL_law 275 = .ok (.iload 4, 2) := by decide +kernel
theorem dL_law_277 : decode cL_law 277 = .ok (.iconst 3, 1) := by decide +kernel
theorem dL_law_278 : decode cL_law 278 = .ok (.iadd, 1) := by decide +kernel
theorem dL_law_279 : decode cL_law 279 = .ok (.iaload, 1) := by decide +kernel
theorem dL_law_280 : decode cL_law 280 = .ok (.aload_n 0, 1) := by decide +kernel
theorem dL_law_281 : decode cL_law 281 = .ok (.iload 4, 2) := by decide +kernel
theorem dL_law_283 : decode cL_law 283 = .ok (.iconst 4, 1) := by decide +kernel
theorem dL_law_284 : decode cL_law 284 = .ok (.iadd, 1) := by decide +kernel
theorem dL_law_285 : decode cL_law 285 = .ok (.iaload, 1) := by decide +kernel
theorem dL_law_286 : decode cL_law 286 = .ok (.invokevirtual 32, 3) := by decide +kernel
theorem dL_law_289 : decode cL_law 289 = .ok (.if_icmp .eq 758, 3) := by decide +kernel
theorem dL_law_292 : decode cL_law 292 = .ok (.iconst 0, 1) := by decide +kernel
theorem dL_law_293 : decode cL_law 293 = .ok (.ireturn, 1) := by decide +kernel
theorem dL_law_294 : decode cL_law 294 = .ok (.aload_n 1, 1) := by decide +kernel
theorem dL_law_295 : decode cL_law 295 = .ok (.aload_n 0, 1) := by decide +kernel
theorem dL_law_296 : decode cL_law 296 = .ok (.iload 4, 2) := by decide +kernel
theorem dL_law_298 : decode cL_law 298 = .ok (.iconst 1, 1) := by decide +kernel
theorem dL_law_299 : decode cL_law 299 = .ok (.iadd, 1) := by decide +kernel
theorem dL_law_300 : decode cL_law 300 = .ok (.iaload, 1) := by decide +kernel
theorem dL_law_301 : decode cL_law 301 = .ok (.aload_n 0, 1) := by decide +kernel
theorem dL_law_302 : decode cL_law 302 = .ok (.iload 4, 2) := by decide +kernel
theorem dL_law_304 : decode cL_law 304 = .ok (.iconst 2, 1) := by decide +kernel
theorem dL_law_305 : decode cL_law 305 = .ok (.iadd, 1) := by decide +kernel
theorem dL_law_306 : decode cL_law 306 = .ok (.iaload, 1) := by decide +kernel
theorem dL_law_307 : decode cL_law 307 = .ok (.invokevirtual 33, 3) := by decide +kernel
theorem dL_law_310 : decode cL_law 310 = .ok (.aload_n 2, 1) := by decide +kernel
theorem dL_law_311 : decode cL_law 311 = .ok (.aload_n 0, 1) := by decide +kernel
theorem dL_law_312 : decode cL_law 312 = .ok (.iload 4, 2) := by decide +kernel
theorem dL_law_314 : decode cL_law 314 = .ok (.iconst 1, 1) := by decide +kernel
theorem dL_law_315 : decode cL_law 315 = .ok (.iadd, 1) := by decide +kernel
theorem dL_law_316 : decode cL_law 316 = .ok (.iaload, 1) := by decide +kernel
theorem dL_law_317 : decode cL_law 317 = .ok (.aload_n 0, 1) := by decide +kernel
theorem dL_law_318 : decode cL_law 318 = .ok (.iload 4, 2) := by decide +kernel
theorem dL_law_320 : decode cL_law 320 = .ok (.iconst 2, 1) := by decide +kernel
theorem dL_law_321 : decode cL_law 321 = .ok (.iadd, 1) := by decide +kernel
theorem dL_law_322 : decode cL_law 322 = .ok (.iaload, 1) := by decide +kernel
theorem dL_law_323 : decode cL_law 323 = .ok (.invokevirtual 36, 3) := by decide +kernel
theorem dL_law_326 : decode cL_law 326 = .ok (.if_icmp .eq 721, 3) := by decide +kernel
theorem dL_law_329 : decode cL_law 329 = .ok (.iconst 0, 1) := by decide +kernel
theorem dL_law_330 : decode cL_law 330 = .ok (.ireturn, 1) := by decide +kernel
theorem dL_law_331 : decode cL_law 331 = .ok (.aload_n 1, 1) := by decide +kernel
theorem dL_law_332 : decode cL_law 332 = .ok (.aload_n 0, 1) := by decide +kernel
theorem dL_law_333 : decode cL_law 333 = .ok (.iload 4, 2) := by decide +kernel
theorem dL_law_335 : decode cL_law 335 = .ok (.iconst 1, 1) := by decide +kernel
theorem dL_law_336 : decode cL_law 336 = .ok (.iadd, 1) := by decide +kernel
theorem dL_law_337 : decode cL_law 337 = .ok (.iaload, 1) := by decide +kernel
theorem dL_law_338 : decode cL_law 338 = .ok (.aload_n 0, 1) := by decide +kernel
theorem dL_law_339 : decode cL_law 339 = .ok (.iload 4, 2) := by decide +kernel
theorem dL_law_341 : decode cL_law 341 = .ok (.iconst 2, 1) := by decide +kernel
theorem dL_law_342 : decode cL_law 342 = .ok (.iadd, 1) := by decide +kernel
theorem dL_law_343 : decode cL_law 343 = .ok (.iaload, 1) := by decide +kernel
theorem dL_law_344 : decode cL_law 344 = .ok (.aload_n 0, 1) := by decide +kernel
theorem dL_law_345 : decode cL_law 345 = .ok (.iload 4, 2) := by decide +kernel
theorem dL_law_347 : decode cL_law 347 = .ok (.iconst 3, 1) := by decide +kernel
theorem dL_law_348 : decode cL_law 348 = .ok (.iadd, 1) := by decide +kernel
theorem dL_law_349 : decode cL_law 349 = .ok (.iaload, 1) := by decide +kernel
theorem dL_law_350 : decode cL_law 350 = .ok (.aload_n 0, 1) := by decide +kernel
theorem dL_law_351 : decode cL_law 351 = .ok (.iload 4, 2) := by decide +kernel
theorem dL_law_353 : decode cL_law 353 = .ok (.iconst 4, 1) := by decide +kernel
theorem dL_law_354 : decode cL_law 354 = .ok (.iadd, 1) := by decide +kernel
theorem dL_law_355 : decode cL_law 355 = .ok (.iaload, 1) := by decide +kernel
theorem dL_law_356 : decode cL_law 356 = .ok (.aload_n 0, 1) := by decide +kernel
theorem dL_law_357 : decode cL_law 357 = .ok (.iload 4, 2) := by decide +kernel
theorem dL_law_359 : decode cL_law 359 = .ok (.iconst 5, 1) := by decide +kernel
theorem dL_law_360 : decode cL_law 360 = .ok (.iadd, 1) := by decide +kernel
theorem dL_law_361 : decode cL_law 361 = .ok (.iaload, 1) := by decide +kernel
theorem dL_law_362 : decode cL_law 362 = .ok (.invokevirtual 37, 3) := by decide +kernel
theorem dL_law_365 : decode cL_law 365 = .ok (.aload_n 2, 1) := by decide +kernel
theorem dL_law_366 : decode cL_law 366 = .ok (.aload_n 0, 1) := by decide +kernel
theorem dL_law_367 : decode cL_law 367 = .ok (.iload 4, 2) := by decide +kernel
theorem dL_law_369 : decode cL_law 369 = .ok (.iconst 1, 1) := by decide +kernel
theorem dL_law_370 : decode cL_law 370 = .ok (.iadd, 1) := by decide +kernel
theorem dL_law_371 : decode cL_law 371 = .ok (.iaload, 1) := by decide +kernel
theorem dL_law_372 : decode cL_law 372 = .ok (.aload_n 0, 1) := by decide +kernel
theorem dL_law_373 : decode cL_law 373 = .ok (.iload 4, 2) := by decide +kernel
theorem dL_law_375 : decode cL_law 375 = .ok (.iconst 2, 1) := by decide +kernel
theorem dL_law_376 : decode cL_law 376 = .ok (.iadd, 1) := by decide +kernel
theorem dL_law_377 : decode cL_law 377 = .ok (.iaload, 1) := by decide +kernel
theorem dL_law_378 : decode cL_law 378 = .ok (.aload_n 0, 1) := by decide +kernel
theorem dL_law_379 : decode cL_law 379 = .ok (.iload 4, 2) := by decide +kernel
theorem dL_law_381 : decode cL_law 381 = .ok (.iconst 3, 1) := by decide +kernel
theorem dL_law_382 : decode cL_law 382 = .ok (.iadd, 1) := by decide +kernel
theorem dL_law_383 : decode cL_law 383 = .ok (.iaload, 1) := by decide +kernel
theorem dL_law_384 : decode cL_law 384 = .ok (.aload_n 0, 1) := by decide +kernel
theorem dL_law_385 : decode cL_law 385 = .ok (.iload 4, 2) := by decide +kernel
theorem dL_law_387 : decode cL_law 387 = .ok (.iconst 4, 1) := by decide +kernel
theorem dL_law_388 : decode cL_law 388 = .ok (.iadd, 1) := by decide +kernel
theorem dL_law_389 : decode cL_law 389 = .ok (.iaload, 1) := by decide +kernel
theorem dL_law_390 : decode cL_law 390 = .ok (.aload_n 0, 1) := by decide +kernel
theorem dL_law_391 : decode cL_law 391 = .ok (.iload 4, 2) := by decide +kernel
theorem dL_law_393 : decode cL_law 393 = .ok (.iconst 5, 1) := by decide +kernel
theorem dL_law_394 : decode cL_law 394 = .ok (.iadd, 1) := by decide +kernel
theorem dL_law_395 : decode cL_law 395 = .ok (.iaload, 1) := by decide +kernel
theorem dL_law_396 : decode cL_law 396 = .ok (.invokevirtual 41, 3) := by decide +kernel
theorem dL_law_399 : decode cL_law 399 = .ok (.if_icmp .eq 648, 3) := by decide +kernel
theorem dL_law_402 : decode cL_law 402 = .ok (.iconst 0, 1) := by decide +kernel
theorem dL_law_403 : decode cL_law 403 = .ok (.ireturn, 1) := by decide +kernel
theorem dL_law_404 : decode cL_law 404 = .ok (.aload_n 1, 1) := by decide +kernel
theorem dL_law_405 : decode cL_law 405 = .ok (.aload_n 0, 1) := by decide +kernel
theorem dL_law_406 : decode cL_law 406 = .ok (.iload 4, 2) := by decide +kernel
theorem dL_law_408 : decode cL_law 408 = .ok (.iconst 1, 1) := by decide +kernel
theorem dL_law_409 : decode cL_law 409 = .ok (.iadd, 1) := by decide +kernel
theorem dL_law_410 : decode cL_law 410 = .ok (.iaload, 1) := by decide +kernel
theorem dL_law_411 : decode cL_law 411 = .ok (.aload_n 0, 1) := by decide +kernel
theorem dL_law_412 : decode cL_law 412 = .ok (.iload 4, 2) := by decide +kernel
theorem dL_law_414 : decode cL_law 414 = .ok (.iconst 2, 1) := by decide +kernel
theorem dL_law_415 : decode cL_law 415 = .ok (.iadd, 1) := by decide +kernel
theorem dL_law_416 : decode cL_law 416 = .ok (.iaload, 1) := by decide +kernel
theorem dL_law_417 : decode cL_law 417 = .ok (.aload_n 0, 1) := by decide +kernel
theorem dL_law_418 : decode cL_law 418 = .ok (.iload 4, 2) := by decide +kernel
theorem dL_law_420 : decode cL_law 420 = .ok (.iconst 3, 1) := by decide +kernel
theorem dL_law_421 : decode cL_law 421 = .ok (.iadd, 1) := by decide +kernel
theorem dL_law_422 : decode cL_law 422 = .ok (.iaload, 1) := by decide +kernel
theorem dL_law_423 : decode cL_law 423 = .ok (.ifCond .eq 7, 3) := by decide +kernel
theorem dL_law_426 : decode cL_law 426 = .ok (.iconst 1, 1) := by decide +kernel
theorem dL_law_427 : decode cL_law 427 = .ok (.goto 4, 3) := by decide +kernel
theorem dL_law_430 : decode cL_law 430 = .ok (.iconst 0, 1) := by decide +kernel
theorem dL_law_431 : decode cL_law 431 = .ok (.invokevirtual 42, 3) := by decide +kernel
theorem dL_law_434 : decode cL_law 434 = .ok (.aload_n 2, 1) := by decide +kernel
theorem dL_law_435 : decode cL_law 435 = .ok (.aload_n 0, 1) := by decide +kernel
theorem dL_law_436 : decode cL_law 436 = .ok (.iload 4, 2) := by decide +kernel
theorem dL_law_438 : decode cL_law 438 = .ok (.iconst 1, 1) := by decide +kernel
theorem dL_law_439 : decode cL_law 439 = .ok (.iadd, 1) := by decide +kernel
theorem dL_law_440 : decode cL_law 440 = .ok (.iaload, 1) := by decide +kernel
theorem dL_law_441 : decode cL_law 441 = .ok (.aload_n 0, 1) := by decide +kernel
theorem dL_law_442 : decode cL_law 442 = .ok (.iload 4, 2) := by decide +kernel
theorem dL_law_444 : decode cL_law 444 = .ok (.iconst 2, 1) := by decide +kernel
theorem dL_law_445 : decode cL_law 445 = .ok (.iadd, 1) := by decide +kernel
theorem dL_law_446 : decode cL_law 446 = .ok (.iaload, 1) := by decide +kernel
theorem dL_law_447 : decode cL_law 447 = .ok (.aload_n 0, 1) := by decide +kernel
theorem dL_law_448 : decode cL_law 448 = .ok (.iload 4, 2) := by decide +kernel
theorem dL_law_450 : decode cL_law 450 = .ok (.iconst 3, 1) := by decide +kernel
theorem dL_law_451 : decode cL_law 451 = .ok (.iadd, 1) := by decide +kernel
theorem dL_law_452 : decode cL_law 452 = .ok (.iaload, 1) := by decide +kernel
theorem dL_law_453 : decode cL_law 453 = .ok (.ifCond .eq 7, 3) := by decide +kernel
theorem dL_law_456 : decode cL_law 456 = .ok (.iconst 1, 1) := by decide +kernel
theorem dL_law_457 : decode cL_law 457 = .ok (.goto 4, 3) := by decide +kernel
theorem dL_law_460 : decode cL_law 460 = .ok (.iconst 0, 1) := by decide +kernel
theorem dL_law_461 : decode cL_law 461 = .ok (.invokevirtual 46, 3) := by decide +kernel
theorem dL_law_464 : decode cL_law 464 = .ok (.if_icmp .eq 583, 3) := by decide +kernel
theorem dL_law_467 : decode cL_law 467 = .ok (.iconst 0, 1) := by decide +kernel
theorem dL_law_468 : decode cL_law 468 = .ok (.ireturn, 1) := by decide +kernel
theorem dL_law_469 : decode cL_law 469 = .ok (.aload_n 1, 1) := by decide +kernel
theorem dL_law_470 : decode cL_law 470 = .ok (.aload_n 0, 1) := by decide +kernel
theorem dL_law_471 : decode cL_law 471 = .ok (.iload 4, 2) := by decide +kernel
theorem dL_law_473 : decode cL_law 473 = .ok (.iconst 1, 1) := by decide +kernel
theorem dL_law_474 : decode cL_law 474 = .ok (.iadd, 1) := by decide +kernel
theorem dL_law_475 : decode cL_law 475 = .ok (.iaload, 1) := by decide +kernel
theorem dL_law_476 : decode cL_law 476 = .ok (.aload_n 0, 1) := by decide +kernel
theorem dL_law_477 : decode cL_law 477 = .ok (.iload 4, 2) := by decide +kernel
theorem dL_law_479 : decode cL_law 479 = .ok (.iconst 2, 1) := by decide +kernel
theorem dL_law_480 : decode cL_law 480 = .ok (.iadd, 1) := by decide +kernel
theorem dL_law_481 : decode cL_law 481 = .ok (.iaload, 1) := by decide +kernel
theorem dL_law_482 : decode cL_law 482 = .ok (.ifCond .eq 7, 3) := by decide +kernel
theorem dL_law_485 : decode cL_law 485 = .ok (.iconst 1, 1) := by decide +kernel
theorem dL_law_486 : decode cL_law 486 = .ok (.goto 4, 3) := by decide +kernel
theorem dL_law_489 : decode cL_law 489 = .ok (.iconst 0, 1) := by decide +kernel
theorem dL_law_490 : decode cL_law 490 = .ok (.invokevirtual 47, 3) := by decide +kernel
theorem dL_law_493 : decode cL_law 493 = .ok (.aload_n 2, 1) := by decide +kernel
theorem dL_law_494 : decode cL_law 494 = .ok (.aload_n 0, 1) := by decide +kernel
theorem dL_law_495 : decode cL_law 495 = .ok (.iload 4, 2) := by decide +kernel
theorem dL_law_497 : decode cL_law 497 = .ok (.iconst 1, 1) := by decide +kernel
theorem dL_law_498 : decode cL_law 498 = .ok (.iadd, 1) := by decide +kernel
theorem dL_law_499 : decode cL_law 499 = .ok (.iaload, 1) := by decide +kernel
theorem dL_law_500 : decode cL_law 500 = .ok (.aload_n 0, 1) := by decide +kernel
theorem dL_law_501 : decode cL_law 501 = .ok (.iload 4, 2) := by decide +kernel
theorem dL_law_503 : decode cL_law 503 = .ok (.iconst 2, 1) := by decide +kernel
theorem dL_law_504 : decode cL_law 504 = .ok (.iadd, 1) := by decide +kernel
theorem dL_law_505 : decode cL_law 505 = .ok (.iaload, 1) := by decide +kernel
theorem dL_law_506 : decode cL_law 506 = .ok (.ifCond .eq 7, 3) := by decide +kernel
theorem dL_law_509 : decode cL_law 509 = .ok (.iconst 1, 1) := by decide +kernel
theorem dL_law_510 : decode cL_law 510 = .ok (.goto 4, 3) := by decide +kernel
theorem dL_law_513 : decode cL_law 513 = .ok (.iconst 0, 1) := by decide +kernel
theorem dL_law_514 : decode cL_law 514 = .ok (.invokevirtual 51, 3) := by decide +kernel
theorem dL_law_517 : decode cL_law 517 = .ok (.if_icmp .eq 530, 3) := by decide +kernel
theorem dL_law_520 : decode cL_law 520 = .ok (.iconst 0, 1) := by decide +kernel
theorem dL_law_521 : decode cL_law 521 = .ok (.ireturn, 1) := by decide +kernel
theorem dL_law_522 : decode cL_law 522 = .ok (.aload_n 1, 1) := by decide +kernel
theorem dL_law_523 : decode cL_law 523 = .ok (.aload_n 0, 1) := by decide +kernel
theorem dL_law_524 : decode cL_law 524 = .ok (.iload 4, 2) := by decide +kernel
theorem dL_law_526 : decode cL_law 526 = .ok (.iconst 1, 1) := by decide +kernel
theorem dL_law_527 : decode cL_law 527 = .ok (.iadd, 1) := by decide +kernel
theorem dL_law_528 : decode cL_law 528 = .ok (.iaload, 1) := by decide +kernel
theorem dL_law_529 : decode cL_law 529 = .ok (.aload_n 0, 1) := by decide +kernel
theorem dL_law_530 : decode cL_law 530 = .ok (.iload 4, 2) := by decide +kernel
theorem dL_law_532 : decode cL_law 532 = .ok (.iconst 2, 1) := by decide +kernel
theorem dL_law_533 : decode cL_law 533 = .ok (.iadd, 1) := by decide +kernel
theorem dL_law_534 : decode cL_law 534 = .ok (.iaload, 1) := by decide +kernel
theorem dL_law_535 : decode cL_law 535 = .ok (.invokevirtual 52, 3) := by decide +kernel
theorem dL_law_538 : decode cL_law 538 = .ok (.aload_n 2, 1) := by decide +kernel
theorem dL_law_539 : decode cL_law 539 = .ok (.aload_n 0, 1) := by decide +kernel
theorem dL_law_540 : decode cL_law 540 = .ok (.iload 4, 2) := by decide +kernel
theorem dL_law_542 : decode cL_law 542 = .ok (.iconst 1, 1) := by decide +kernel
theorem dL_law_543 : decode cL_law 543 = .ok (.iadd, 1) := by decide +kernel
theorem dL_law_544 : decode cL_law 544 = .ok (.iaload, 1) := by decide +kernel
theorem dL_law_545 : decode cL_law 545 = .ok (.aload_n 0, 1) := by decide +kernel
theorem dL_law_546 : decode cL_law 546 = .ok (.iload 4, 2) := by decide +kernel
theorem dL_law_548 : decode cL_law 548 = .ok (.iconst 2, 1) := by decide +kernel
theorem dL_law_549 : decode cL_law 549 = .ok (.iadd, 1) := by decide +kernel
theorem dL_law_550 : decode cL_law 550 = .ok (.iaload, 1) := by decide +kernel
theorem dL_law_551 : decode cL_law 551 = .ok (.invokevirtual 55, 3) := by decide +kernel
theorem dL_law_554 : decode cL_law 554 = .ok (.if_icmp .eq 493, 3) := by decide +kernel
theorem dL_law_557 : decode cL_law 557 = .ok (.iconst 0, 1) := by decide +kernel
theorem dL_law_558 : decode cL_law 558 = .ok (.ireturn, 1) := by decide +kernel
theorem dL_law_559 : decode cL_law 559 = .ok (.aload_n 1, 1) := by decide +kernel
theorem dL_law_560 : decode cL_law 560 = .ok (.aload_n 0, 1) := by decide +kernel
theorem dL_law_561 : decode cL_law 561 = .ok (.iload 4, 2) := by decide +kernel
theorem dL_law_563 : decode cL_law 563 = .ok (.iconst 1, 1) := by decide +kernel
theorem dL_law_564 : decode cL_law 564 = .ok (.iadd, 1) := by decide +kernel
theorem dL_law_565 : decode cL_law 565 = .ok (.iaload, 1) := by decide +kernel
theorem dL_law_566 : decode cL_law 566 = .ok (.invokevirtual 56, 3) := by decide +kernel
theorem dL_law_569 : decode cL_law 569 = .ok (.aload_n 2, 1) := by decide +kernel
theorem dL_law_570 : decode cL_law 570 = .ok (.aload_n 0, 1) := by decide +kernel
theorem dL_law_571 : decode cL_law 571 = .ok (.iload 4, 2) := by decide +kernel
theorem dL_law_573 : decode cL_law 573 = .ok (.iconst 1, 1) := by decide +kernel
theorem dL_law_574 : decode cL_law 574 = .ok (.iadd, 1) := by decide +kernel
theorem dL_law_575 : decode cL_law 575 = .ok (.iaload, 1) := by decide +kernel
theorem dL_law_576 : decode cL_law 576 = .ok (.invokevirtual 59, 3) := by decide +kernel
theorem dL_law_579 : decode cL_law 579 = .ok (.if_icmp .eq 468, 3) := by decide +kernel
theorem dL_law_582 : decode cL_law 582 = .ok (.iconst 0, 1) := by decide +kernel
theorem dL_law_583 : decode cL_law 583 = .ok (.ireturn, 1) := by decide +kernel
theorem dL_law_584 : decode cL_law 584 = .ok (.aload_n 1, 1) := by decide +kernel
theorem dL_law_585 : decode cL_law 585 = .ok (.aload_n 0, 1) := by decide +kernel
theorem dL_law_586 : decode cL_law 586 = .ok (.iload 4, 2) := by decide +kernel
theorem dL_law_588 : decode cL_law 588 = .ok (.iconst 1, 1) := by decide +kernel
theorem dL_law_589 : decode cL_law 589 = .ok (.iadd, 1) := by decide +kernel
theorem dL_law_590 : decode cL_law 590 = .ok (.iaload, 1) := by decide +kernel
theorem dL_law_591 : decode cL_law 591 = .ok (.aload_n 0, 1) := by decide +kernel
theorem dL_law_592 : decode cL_law 592 = .ok (.iload 4, 2) := by decide +kernel
theorem dL_law_594 : decode cL_law 594 = .ok (.iconst 2, 1) := by decide +kernel
theorem dL_law_595 : decode cL_law 595 = .ok (.iadd, 1) := by decide +kernel
theorem dL_law_596 : decode cL_law 596 = .ok (.iaload, 1) := by decide +kernel
theorem dL_law_597 : decode cL_law 597 = .ok (.aload_n 3, 1) := by decide +kernel
theorem dL_law_598 : decode cL_law 598 = .ok (.invokestatic 60, 3) := by decide +kernel
theorem dL_law_601 : decode cL_law 601 = .ok (.istore 5, 2) := by decide +kernel
theorem dL_law_603 : decode cL_law 603 = .ok (.aload_n 2, 1) := by decide +kernel
theorem dL_law_604 : decode cL_law 604 = .ok (.aload_n 0, 1) := by decide +kernel
theorem dL_law_605 : decode cL_law 605 = .ok (.iload 4, 2) := by decide +kernel
theorem dL_law_607 : decode cL_law 607 = .ok (.iconst 1, 1) := by decide +kernel
theorem dL_law_608 : decode cL_law 608 = .ok (.iadd, 1) := by decide +kernel
theorem dL_law_609 : decode cL_law 609 = .ok (.iaload, 1) := by decide +kernel
theorem dL_law_610 : decode cL_law 610 = .ok (.aload_n 0, 1) := by decide +kernel
theorem dL_law_611 : decode cL_law 611 = .ok (.iload 4, 2) := by decide +kernel
theorem dL_law_613 : decode cL_law 613 = .ok (.iconst 2, 1) := by decide +kernel
theorem dL_law_614 : decode cL_law 614 = .ok (.iadd, 1) := by decide +kernel
theorem dL_law_615 : decode cL_law 615 = .ok (.iaload, 1) := by decide +kernel
theorem dL_law_616 : decode cL_law 616 = .ok (.invokevirtual 65, 3) := by decide +kernel
theorem dL_law_619 : decode cL_law 619 = .ok (.istore 6, 2) := by decide +kernel
theorem dL_law_621 : decode cL_law 621 = .ok (.aload_n 2, 1) := by decide +kernel
theorem dL_law_622 : decode cL_law 622 = .ok (.invokevirtual 66, 3) := by decide +kernel
theorem dL_law_625 : decode cL_law 625 = .ok (.iload 5, 2) := by decide +kernel
theorem dL_law_627 : decode cL_law 627 = .ok (.if_icmp .eq 5, 3) := by decide +kernel
theorem dL_law_630 : decode cL_law 630 = .ok (.iconst 0, 1) := by decide +kernel
theorem dL_law_631 : decode cL_law 631 = .ok (.ireturn, 1) := by decide +kernel
theorem dL_law_632 : decode cL_law 632 = .ok (.iload 5, 2) := by decide +kernel
theorem dL_law_634 : decode cL_law 634 = .ok (.ifCond .ne 15, 3) := by decide +kernel
theorem dL_law_637 : decode cL_law 637 = .ok (.aload_n 3, 1) := by decide +kernel
theorem dL_law_638 : decode cL_law 638 = .ok (.iconst 0, 1) := by decide +kernel
theorem dL_law_639 : decode cL_law 639 = .ok (.laload, 1) := by decide +kernel
theorem dL_law_640 : decode cL_law 640 = .ok (.iload 6, 2) := by decide +kernel
theorem dL_law_642 : decode cL_law 642 = .ok (.i2l, 1) := by decide +kernel
theorem dL_law_643 : decode cL_law 643 = .ok (.lcmp, 1) := by decide +kernel
theorem dL_law_644 : decode cL_law 644 = .ok (.ifCond .eq 5, 3) := by decide +kernel
theorem dL_law_647 : decode cL_law 647 = .ok (.iconst 0, 1) := by decide +kernel
theorem dL_law_648 : decode cL_law 648 = .ok (.ireturn, 1) := by decide +kernel
theorem dL_law_649 : decode cL_law 649 = .ok (.goto 398, 3) := by decide +kernel
theorem dL_law_652 : decode cL_law 652 = .ok (.aload_n 1, 1) := by decide +kernel
theorem dL_law_653 : decode cL_law 653 = .ok (.aload_n 0, 1) := by decide +kernel
theorem dL_law_654 : decode cL_law 654 = .ok (.iload 4, 2) := by decide +kernel
theorem dL_law_656 : decode cL_law 656 = .ok (.iconst 1, 1) := by decide +kernel
theorem dL_law_657 : decode cL_law 657 = .ok (.iadd, 1) := by decide +kernel
theorem dL_law_658 : decode cL_law 658 = .ok (.iaload, 1) := by decide +kernel
theorem dL_law_659 : decode cL_law 659 = .ok (.aload_n 0, 1) := by decide +kernel
theorem dL_law_660 : decode cL_law 660 = .ok (.iload 4, 2) := by decide +kernel
theorem dL_law_662 : decode cL_law 662 = .ok (.iconst 2, 1) := by decide +kernel
theorem dL_law_663 : decode cL_law 663 = .ok (.iadd, 1) := by decide +kernel
theorem dL_law_664 : decode cL_law 664 = .ok (.iaload, 1) := by decide +kernel
theorem dL_law_665 : decode cL_law 665 = .ok (.invokevirtual 70, 3) := by decide +kernel
theorem dL_law_668 : decode cL_law 668 = .ok (.aload_n 2, 1) := by decide +kernel
theorem dL_law_669 : decode cL_law 669 = .ok (.aload_n 0, 1) := by decide +kernel
theorem dL_law_670 : decode cL_law 670 = .ok (.iload 4, 2) := by decide +kernel
theorem dL_law_672 : decode cL_law 672 = .ok (.iconst 1, 1) := by decide +kernel
theorem dL_law_673 : decode cL_law 673 = .ok (.iadd, 1) := by decide +kernel
theorem dL_law_674 : decode cL_law 674 = .ok (.iaload, 1) := by decide +kernel
theorem dL_law_675 : decode cL_law 675 = .ok (.aload_n 0, 1) := by decide +kernel
theorem dL_law_676 : decode cL_law 676 = .ok (.iload 4, 2) := by decide +kernel
theorem dL_law_678 : decode cL_law 678 = .ok (.iconst 2, 1) := by decide +kernel
theorem dL_law_679 : decode cL_law 679 = .ok (.iadd, 1) := by decide +kernel
theorem dL_law_680 : decode cL_law 680 = .ok (.iaload, 1) := by decide +kernel
theorem dL_law_681 : decode cL_law 681 = .ok (.invokevirtual 73, 3) := by decide +kernel
theorem dL_law_684 : decode cL_law 684 = .ok (.if_icmp .eq 363, 3) := by decide +kernel
theorem dL_law_687 : decode cL_law 687 = .ok (.iconst 0, 1) := by decide +kernel
theorem dL_law_688 : decode cL_law 688 = .ok (.ireturn, 1) := by decide +kernel
theorem dL_law_689 : decode cL_law 689 = .ok (.aload_n 1, 1) := by decide +kernel
theorem dL_law_690 : decode cL_law 690 = .ok (.aload_n 0, 1) := by decide +kernel
theorem dL_law_691 : decode cL_law 691 = .ok (.iload 4, 2) := by decide +kernel
theorem dL_law_693 : decode cL_law 693 = .ok (.iconst 1, 1) := by decide +kernel
theorem dL_law_694 : decode cL_law 694 = .ok (.iadd, 1) := by decide +kernel
theorem dL_law_695 : decode cL_law 695 = .ok (.iaload, 1) := by decide +kernel
theorem dL_law_696 : decode cL_law 696 = .ok (.aload_n 0, 1) := by decide +kernel
theorem dL_law_697 : decode cL_law 697 = .ok (.iload 4, 2) := by decide +kernel
theorem dL_law_699 : decode cL_law 699 = .ok (.iconst 2, 1) := by decide +kernel
theorem dL_law_700 : decode cL_law 700 = .ok (.iadd, 1) := by decide +kernel
theorem dL_law_701 : decode cL_law 701 = .ok (.iaload, 1) := by decide +kernel
theorem dL_law_702 : decode cL_law 702 = .ok (.invokevirtual 74, 3) := by decide +kernel
theorem dL_law_705 : decode cL_law 705 = .ok (.aload_n 2, 1) := by decide +kernel
theorem dL_law_706 : decode cL_law 706 = .ok (.aload_n 0, 1) := by decide +kernel
theorem dL_law_707 : decode cL_law 707 = .ok (.iload 4, 2) := by decide +kernel
theorem dL_law_709 : decode cL_law 709 = .ok (.iconst 1, 1) := by decide +kernel
theorem dL_law_710 : decode cL_law 710 = .ok (.iadd, 1) := by decide +kernel
theorem dL_law_711 : decode cL_law 711 = .ok (.iaload, 1) := by decide +kernel
theorem dL_law_712 : decode cL_law 712 = .ok (.aload_n 0, 1) := by decide +kernel
theorem dL_law_713 : decode cL_law 713 = .ok (.iload 4, 2) := by decide +kernel
theorem dL_law_715 : decode cL_law 715 = .ok (.iconst 2, 1) := by decide +kernel
theorem dL_law_716 : decode cL_law 716 = .ok (.iadd, 1) := by decide +kernel
theorem dL_law_717 : decode cL_law 717 = .ok (.iaload, 1) := by decide +kernel
theorem dL_law_718 : decode cL_law 718 = .ok (.invokevirtual 77, 3) := by decide +kernel
theorem dL_law_721 : decode cL_law 721 = .ok (.if_icmp .eq 326, 3) := by decide +kernel
theorem dL_law_724 : decode cL_law 724 = .ok (.iconst 0, 1) := by decide +kernel
theorem dL_law_725 : decode cL_law 725 = .ok (.ireturn, 1) := by decide +kernel
theorem dL_law_726 : decode cL_law 726 = .ok (.aload_n 1, 1) := by decide +kernel
theorem dL_law_727 : decode cL_law 727 = .ok (.aload_n 0, 1) := by decide +kernel
theorem dL_law_728 : decode cL_law 728 = .ok (.iload 4, 2) := by decide +kernel
theorem dL_law_730 : decode cL_law 730 = .ok (.iconst 1, 1) := by decide +kernel
theorem dL_law_731 : decode cL_law 731 = .ok (.iadd, 1) := by decide +kernel
theorem dL_law_732 : decode cL_law 732 = .ok (.iaload, 1) := by decide +kernel
theorem dL_law_733 : decode cL_law 733 = .ok (.aload_n 0, 1) := by decide +kernel
theorem dL_law_734 : decode cL_law 734 = .ok (.iload 4, 2) := by decide +kernel
theorem dL_law_736 : decode cL_law 736 = .ok (.iconst 2, 1) := by decide +kernel
theorem dL_law_737 : decode cL_law 737 = .ok (.iadd, 1) := by decide +kernel
theorem dL_law_738 : decode cL_law 738 = .ok (.iaload, 1) := by decide +kernel
theorem dL_law_739 : decode cL_law 739 = .ok (.invokevirtual 78, 3) := by decide +kernel
theorem dL_law_742 : decode cL_law 742 = .ok (.aload_n 2, 1) := by decide +kernel
theorem dL_law_743 : decode cL_law 743 = .ok (.aload_n 0, 1) := by decide +kernel
theorem dL_law_744 : decode cL_law 744 = .ok (.iload 4, 2) := by decide +kernel
theorem dL_law_746 : decode cL_law 746 = .ok (.iconst 1, 1) := by decide +kernel
theorem dL_law_747 : decode cL_law 747 = .ok (.iadd, 1) := by decide +kernel
theorem dL_law_748 : decode cL_law 748 = .ok (.iaload, 1) := by decide +kernel
theorem dL_law_749 : decode cL_law 749 = .ok (.aload_n 0, 1) := by decide +kernel
theorem dL_law_750 : decode cL_law 750 = .ok (.iload 4, 2) := by decide +kernel
theorem dL_law_752 : decode cL_law 752 = .ok (.iconst 2, 1) := by decide +kernel
theorem dL_law_753 : decode cL_law 753 = .ok (.iadd, 1) := by decide +kernel
theorem dL_law_754 : decode cL_law 754 = .ok (.iaload, 1) := by decide +kernel
theorem dL_law_755 : decode cL_law 755 = .ok (.invokevirtual 81, 3) := by decide +kernel
theorem dL_law_758 : decode cL_law 758 = .ok (.if_icmp .eq 289, 3) := by decide +kernel
theorem dL_law_761 : decode cL_law 761 = .ok (.iconst 0, 1) := by decide +kernel
theorem dL_law_762 : decode cL_law 762 = .ok (.ireturn, 1) := by decide +kernel
theorem dL_law_763 : decode cL_law 763 = .ok (.aload_n 1, 1) := by decide +kernel
theorem dL_law_764 : decode cL_law 764 = .ok (.aload_n 0, 1) := by decide +kernel
theorem dL_law_765 : decode cL_law 765 = .ok (.iload 4, 2) := by decide +kernel
theorem dL_law_767 : decode cL_law 767 = .ok (.iconst 1, 1) := by decide +kernel
theorem dL_law_768 : decode cL_law 768 = .ok (.iadd, 1) := by decide +kernel
theorem dL_law_769 : decode cL_law 769 = .ok (.iaload, 1) := by decide +kernel
theorem dL_law_770 : decode cL_law 770 = .ok (.aload_n 0, 1) := by decide +kernel
theorem dL_law_771 : decode cL_law 771 = .ok (.iload 4, 2) := by decide +kernel
theorem dL_law_773 : decode cL_law 773 = .ok (.iconst 2, 1) := by decide +kernel
theorem dL_law_774 : decode cL_law 774 = .ok (.iadd, 1) := by decide +kernel
theorem dL_law_775 : decode cL_law 775 = .ok (.iaload, 1) := by decide +kernel
theorem dL_law_776 : decode cL_law 776 = .ok (.invokevirtual 82, 3) := by decide +kernel
theorem dL_law_779 : decode cL_law 779 = .ok (.aload_n 2, 1) := by decide +kernel
theorem dL_law_780 : decode cL_law 780 = .ok (.aload_n 0, 1) := by decide +kernel
theorem dL_law_781 : decode cL_law 781 = .ok (.iload 4, 2) := by decide +kernel
theorem dL_law_783 : decode cL_law 783 = .ok (.iconst 1, 1) := by decide +kernel
theorem dL_law_784 : decode cL_law 784 = .ok (.iadd, 1) := by decide +kernel
theorem dL_law_785 : decode cL_law 785 = .ok (.iaload, 1) := by decide +kernel
theorem dL_law_786 : decode cL_law 786 = .ok (.aload_n 0, 1) := by decide +kernel
theorem dL_law_787 : decode cL_law 787 = .ok (.iload 4, 2) := by decide +kernel
theorem dL_law_789 : decode cL_law 789 = .ok (.iconst 2, 1) := by decide +kernel
theorem dL_law_790 : decode cL_law 790 = .ok (.iadd, 1) := by decide +kernel
theorem dL_law_791 : decode cL_law 791 = .ok (.iaload, 1) := by decide +kernel
theorem dL_law_792 : decode cL_law 792 = .ok (.invokevirtual 86, 3) := by decide +kernel
theorem dL_law_795 : decode cL_law 795 = .ok (.if_icmp .eq 252, 3) := by decide +kernel
theorem dL_law_798 : decode cL_law 798 = .ok (.iconst 0, 1) := by decide +kernel
theorem dL_law_799 : decode cL_law 799 = .ok (.ireturn, 1) := by decide +kernel
theorem dL_law_800 : decode cL_law 800 = .ok (.aload_n 1, 1) := by decide +kernel
theorem dL_law_801 : decode cL_law 801 = .ok (.invokevirtual 87, 3) := by decide +kernel
theorem dL_law_804 : decode cL_law 804 = .ok (.aload_n 2, 1) := by decide +kernel
theorem dL_law_805 : decode cL_law 805 = .ok (.invokevirtual 90, 3) := by decide +kernel
theorem dL_law_808 : decode cL_law 808 = .ok (.if_icmp .eq 239, 3) := by decide +kernel
theorem dL_law_811 : decode cL_law 811 = .ok (.iconst 0, 1) := by decide +kernel
theorem dL_law_812 : decode cL_law 812 = .ok (.ireturn, 1) := by decide +kernel
theorem dL_law_813 : decode cL_law 813 = .ok (.aload_n 1, 1) := by decide +kernel
theorem dL_law_814 : decode cL_law 814 = .ok (.invokevirtual 91, 3) := by decide +kernel
theorem dL_law_817 : decode cL_law 817 = .ok (.aload_n 2, 1) := by decide +kernel
theorem dL_law_818 : decode cL_law 818 = .ok (.invokevirtual 94, 3) := by decide +kernel
theorem dL_law_821 : decode cL_law 821 = .ok (.if_icmp .eq 226, 3) := by decide +kernel
theorem dL_law_824 : decode cL_law 824 = .ok (.iconst 0, 1) := by decide +kernel
theorem dL_law_825 : decode cL_law 825 = .ok (.ireturn, 1) := by decide +kernel
theorem dL_law_826 : decode cL_law 826 = .ok (.aload_n 1, 1) := by decide +kernel
theorem dL_law_827 : decode cL_law 827 = .ok (.invokevirtual 95, 3) := by decide +kernel
theorem dL_law_830 : decode cL_law 830 = .ok (.aload_n 2, 1) := by decide +kernel
theorem dL_law_831 : decode cL_law 831 = .ok (.invokevirtual 98, 3) := by decide +kernel
theorem dL_law_834 : decode cL_law 834 = .ok (.if_icmp .eq 213, 3) := by decide +kernel
theorem dL_law_837 : decode cL_law 837 = .ok (.iconst 0, 1) := by decide +kernel
theorem dL_law_838 : decode cL_law 838 = .ok (.ireturn, 1) := by decide +kernel
theorem dL_law_839 : decode cL_law 839 = .ok (.aload_n 1, 1) := by decide +kernel
theorem dL_law_840 : decode cL_law 840 = .ok (.invokevirtual 99, 3) := by decide +kernel
theorem dL_law_843 : decode cL_law 843 = .ok (.aload_n 2, 1) := by decide +kernel
theorem dL_law_844 : decode cL_law 844 = .ok (.invokevirtual 102, 3) := by decide +kernel
theorem dL_law_847 : decode cL_law 847 = .ok (.if_icmp .eq 200, 3) := by decide +kernel
theorem dL_law_850 : decode cL_law 850 = .ok (.iconst 0, 1) := by decide +kernel
theorem dL_law_851 : decode cL_law 851 = .ok (.ireturn, 1) := by decide +kernel
theorem dL_law_852 : decode cL_law 852 = .ok (.aload_n 1, 1) := by decide +kernel
theorem dL_law_853 : decode cL_law 853 = .ok (.invokevirtual 103, 3) := by decide +kernel
theorem dL_law_856 : decode cL_law 856 = .ok (.aload_n 2, 1) := by decide +kernel
theorem dL_law_857 : decode cL_law 857 = .ok (.invokevirtual 106, 3) := by decide +kernel
theorem dL_law_860 : decode cL_law 860 = .ok (.if_icmp .eq 187, 3) := by decide +kernel
theorem dL_law_863 : decode cL_law 863 = .ok (.iconst 0, 1) := by decide +kernel
theorem dL_law_864 : decode cL_law 864 = .ok (.ireturn, 1) := by decide +kernel
theorem dL_law_865 : decode cL_law 865 = .ok (.aload_n 1, 1) := by decide +kernel
theorem dL_law_866 : decode cL_law 866 = .ok (.aload_n 0, 1) := by decide +kernel
theorem dL_law_867 : decode cL_law 867 = .ok (.iload 4, 2) := by decide +kernel
theorem dL_law_869 : decode cL_law 869 = .ok (.iconst 1, 1) := by decide +kernel
theorem dL_law_870 : decode cL_law 870 = .ok (.iadd, 1) := by decide +kernel
theorem dL_law_871 : decode cL_law 871 = .ok (.iaload, 1) := by decide +kernel
theorem dL_law_872 : decode cL_law 872 = .ok (.invokevirtual 107, 3) := by decide +kernel
theorem dL_law_875 : decode cL_law 875 = .ok (.aload_n 2, 1) := by decide +kernel
theorem dL_law_876 : decode cL_law 876 = .ok (.aload_n 0, 1) := by decide +kernel
theorem dL_law_877 : decode cL_law 877 = .ok (.iload 4, 2) := by decide +kernel
theorem dL_law_879 : decode cL_law 879 = .ok (.iconst 1, 1) := by decide +kernel
theorem dL_law_880 : decode cL_law 880 = .ok (.iadd, 1) := by decide +kernel
theorem dL_law_881 : decode cL_law 881 = .ok (.iaload, 1) := by decide +kernel
theorem dL_law_882 : decode cL_law 882 = .ok (.invokevirtual 110, 3) := by decide +kernel
theorem dL_law_885 : decode cL_law 885 = .ok (.if_icmp .eq 162, 3) := by decide +kernel
theorem dL_law_888 : decode cL_law 888 = .ok (.iconst 0, 1) := by decide +kernel
theorem dL_law_889 : decode cL_law 889 = .ok (.ireturn, 1) := by decide +kernel
theorem dL_law_890 : decode cL_law 890 = .ok (.aload_n 1, 1) := by decide +kernel
theorem dL_law_891 : decode cL_law 891 = .ok (.aload_n 0, 1) := by decide +kernel
theorem dL_law_892 : decode cL_law 892 = .ok (.iload 4, 2) := by decide +kernel
theorem dL_law_894 : decode cL_law 894 = .ok (.iconst 1, 1) := by decide +kernel
theorem dL_law_895 : decode cL_law 895 = .ok (.iadd, 1) := by decide +kernel
theorem dL_law_896 : decode cL_law 896 = .ok (.iaload, 1) := by decide +kernel
theorem dL_law_897 : decode cL_law 897 = .ok (.invokevirtual 111, 3) := by decide +kernel
theorem dL_law_900 : decode cL_law 900 = .ok (.aload_n 2, 1) := by decide +kernel
theorem dL_law_901 : decode cL_law 901 = .ok (.aload_n 0, 1) := by decide +kernel
theorem dL_law_902 : decode cL_law 902 = .ok (.iload 4, 2) := by decide +kernel
theorem dL_law_904 : decode cL_law 904 = .ok (.iconst 1, 1) := by decide +kernel
theorem dL_law_905 : decode cL_law 905 = .ok (.iadd, 1) := by decide +kernel
theorem dL_law_906 : decode cL_law 906 = .ok (.iaload, 1) := by decide +kernel
theorem dL_law_907 : decode cL_law 907 = .ok (.invokevirtual 114, 3) := by decide +kernel
theorem dL_law_910 : decode cL_law 910 = .ok (.if_icmp .eq 137, 3) := by decide +kernel
theorem dL_law_913 : decode cL_law 913 = .ok (.iconst 0, 1) := by decide +kernel
theorem dL_law_914 : decode cL_law 914 = .ok (.ireturn, 1) := by decide +kernel
theorem dL_law_915 : decode cL_law 915 = .ok (.aload_n 1, 1) := by decide +kernel
theorem dL_law_916 : decode cL_law 916 = .ok (.invokevirtual 115, 3) := by decide +kernel
theorem dL_law_919 : decode cL_law 919 = .ok (.aload_n 2, 1) := by decide +kernel
theorem dL_law_920 : decode cL_law 920 = .ok (.invokevirtual 118, 3) := by decide +kernel
theorem dL_law_923 : decode cL_law 923 = .ok (.if_icmp .eq 124, 3) := by decide +kernel
theorem dL_law_926 : decode cL_law 926 = .ok (.iconst 0, 1) := by decide +kernel
theorem dL_law_927 : decode cL_law 927 = .ok (.ireturn, 1) := by decide +kernel
theorem dL_law_928 : decode cL_law 928 = .ok (.aload_n 1, 1) := by decide +kernel
theorem dL_law_929 : decode cL_law 929 = .ok (.invokevirtual 119, 3) := by decide +kernel
theorem dL_law_932 : decode cL_law 932 = .ok (.aload_n 2, 1) := by decide +kernel
theorem dL_law_933 : decode cL_law 933 = .ok (.invokevirtual 122, 3) := by decide +kernel
theorem dL_law_936 : decode cL_law 936 = .ok (.if_icmp .eq 111, 3) := by decide +kernel
theorem dL_law_939 : decode cL_law 939 = .ok (.iconst 0, 1) := by decide +kernel
theorem dL_law_940 : decode cL_law 940 = .ok (.ireturn, 1) := by decide +kernel
theorem dL_law_941 : decode cL_law 941 = .ok (.aload_n 1, 1) := by decide +kernel
theorem dL_law_942 : decode cL_law 942 = .ok (.aload_n 0, 1) := by decide +kernel
theorem dL_law_943 : decode cL_law 943 = .ok (.iload 4, 2) := by decide +kernel
theorem dL_law_945 : decode cL_law 945 = .ok (.iconst 1, 1) := by decide +kernel
theorem dL_law_946 : decode cL_law 946 = .ok (.iadd, 1) := by decide +kernel
theorem dL_law_947 : decode cL_law 947 = .ok (.iaload, 1) := by decide +kernel
theorem dL_law_948 : decode cL_law 948 = .ok (.aload_n 0, 1) := by decide +kernel
theorem dL_law_949 : decode cL_law 949 = .ok (.iload 4, 2) := by decide +kernel
theorem dL_law_951 : decode cL_law 951 = .ok (.iconst 2, 1) := by decide +kernel
theorem dL_law_952 : decode cL_law 952 = .ok (.iadd, 1) := by decide +kernel
theorem dL_law_953 : decode cL_law 953 = .ok (.iaload, 1) := by decide +kernel
theorem dL_law_954 : decode cL_law 954 = .ok (.invokevirtual 123, 3) := by decide +kernel
theorem dL_law_957 : decode cL_law 957 = .ok (.aload_n 2, 1) := by decide +kernel
theorem dL_law_958 : decode cL_law 958 = .ok (.aload_n 0, 1) := by decide +kernel
theorem dL_law_959 : decode cL_law 959 = .ok (.iload 4, 2) := by decide +kernel
theorem dL_law_961 : decode cL_law 961 = .ok (.iconst 1, 1) := by decide +kernel
theorem dL_law_962 : decode cL_law 962 = .ok (.iadd, 1) := by decide +kernel
theorem dL_law_963 : decode cL_law 963 = .ok (.iaload, 1) := by decide +kernel
theorem dL_law_964 : decode cL_law 964 = .ok (.aload_n 0, 1) := by decide +kernel
theorem dL_law_965 : decode cL_law 965 = .ok (.iload 4, 2) := by decide +kernel
theorem dL_law_967 : decode cL_law 967 = .ok (.iconst 2, 1) := by decide +kernel
theorem dL_law_968 : decode cL_law 968 = .ok (.iadd, 1) := by decide +kernel
theorem dL_law_969 : decode cL_law 969 = .ok (.iaload, 1) := by decide +kernel
theorem dL_law_970 : decode cL_law 970 = .ok (.invokevirtual 126, 3) := by decide +kernel
theorem dL_law_973 : decode cL_law 973 = .ok (.if_icmp .eq 74, 3) := by decide +kernel
theorem dL_law_976 : decode cL_law 976 = .ok (.iconst 0, 1) := by decide +kernel
theorem dL_law_977 : decode cL_law 977 = .ok (.ireturn, 1) := by decide +kernel
theorem dL_law_978 : decode cL_law 978 = .ok (.aload_n 1, 1) := by decide +kernel
theorem dL_law_979 : decode cL_law 979 = .ok (.invokevirtual 127, 3) := by decide +kernel
theorem dL_law_982 : decode cL_law 982 = .ok (.aload_n 2, 1) := by decide +kernel
theorem dL_law_983 : decode cL_law 983 = .ok (.invokevirtual 130, 3) := by decide +kernel
theorem dL_law_986 : decode cL_law 986 = .ok (.if_icmp .eq 61, 3) := by decide +kernel
theorem dL_law_989 : decode cL_law 989 = .ok (.iconst 0, 1) := by decide +kernel
theorem dL_law_990 : decode cL_law 990 = .ok (.ireturn, 1) := by decide +kernel
theorem dL_law_991 : decode cL_law 991 = .ok (.aload_n 1, 1) := by decide +kernel
theorem dL_law_992 : decode cL_law 992 = .ok (.aload_n 0, 1) := by decide +kernel
theorem dL_law_993 : decode cL_law 993 = .ok (.iload 4, 2) := by decide +kernel
theorem dL_law_995 : decode cL_law 995 = .ok (.iconst 1, 1) := by decide +kernel
theorem dL_law_996 : decode cL_law 996 = .ok (.iadd, 1) := by decide +kernel
theorem dL_law_997 : decode cL_law 997 = .ok (.iaload, 1) := by decide +kernel
theorem dL_law_998 : decode cL_law 998 = .ok (.aload_n 3, 1) := by decide +kernel
theorem dL_law_999 : decode cL_law 999 = .ok (.invokestatic 131, 3) := by decide +kernel
theorem dL_law_1002 : decode cL_law 1002 = .ok (.istore 5, 2) := by decide +kernel
theorem dL_law_1004 : decode cL_law 1004 = .ok (.aload_n 2, 1) := by decide +kernel
theorem dL_law_1005 : decode cL_law 1005 = .ok (.aload_n 0, 1) := by decide +kernel
theorem dL_law_1006 : decode cL_law 1006 = .ok (.iload 4, 2) := by decide +kernel
theorem dL_law_1008 : decode cL_law 1008 = .ok (.iconst 1, 1) := by decide +kernel
theorem dL_law_1009 : decode cL_law 1009 = .ok (.iadd, 1) := by decide +kernel
theorem dL_law_1010 : decode cL_law 1010 = .ok (.iaload, 1) := by decide +kernel
theorem dL_law_1011 : decode cL_law 1011 = .ok (.invokevirtual 134, 3) := by decide +kernel
theorem dL_law_1014 : decode cL_law 1014 = .ok (.istore 6, 2) := by decide +kernel
theorem dL_law_1016 : decode cL_law 1016 = .ok (.aload_n 2, 1) := by decide +kernel
theorem dL_law_1017 : decode cL_law 1017 = .ok (.invokevirtual 66, 3) := by decide +kernel
theorem dL_law_1020 : decode cL_law 1020 = .ok (.iload 5, 2) := by decide +kernel
theorem dL_law_1022 : decode cL_law 1022 = .ok (.if_icmp .eq 5, 3) := by decide +kernel
theorem dL_law_1025 : decode cL_law 1025 = .ok (.iconst 0, 1) := by decide +kernel
theorem dL_law_1026 : decode cL_law 1026 = .ok (.ireturn, 1) := by decide +kernel
theorem dL_law_1027 : decode cL_law 1027 = .ok (.iload 5, 2) := by decide +kernel
theorem dL_law_1029 : decode cL_law 1029 = .ok (.ifCond .ne 15, 3) := by decide +kernel
theorem dL_law_1032 : decode cL_law 1032 = .ok (.aload_n 3, 1) := by decide +kernel
theorem dL_law_1033 : decode cL_law 1033 = .ok (.iconst 0, 1) := by decide +kernel
theorem dL_law_1034 : decode cL_law 1034 = .ok (.laload, 1) := by decide +kernel
theorem dL_law_1035 : decode cL_law 1035 = .ok (.iload 6, 2) := by decide +kernel
theorem dL_law_1037 : decode cL_law 1037 = .ok (.i2l, 1) := by decide +kernel
theorem dL_law_1038 : decode cL_law 1038 = .ok (.lcmp, 1) := by decide +kernel
theorem dL_law_1039 : decode cL_law 1039 = .ok (.ifCond .eq 5, 3) := by decide +kernel
theorem dL_law_1042 : decode cL_law 1042 = .ok (.iconst 0, 1) := by decide +kernel
theorem dL_law_1043 : decode cL_law 1043 = .ok (.ireturn, 1) := by decide +kernel
theorem dL_law_1044 : decode cL_law 1044 = .ok (.goto 3, 3) := by decide +kernel
theorem dL_law_1047 : decode cL_law 1047 = .ok (.iinc 4 6, 3) := by decide +kernel
theorem dL_law_1050 : decode cL_law 1050 = .ok (.goto (-1027), 3) := by decide +kernel
theorem dL_law_1053 : decode cL_law 1053 = .ok (.iconst 1, 1) := by decide +kernel
theorem dL_law_1054 : decode cL_law 1054 = .ok (.ireturn, 1) := by decide +kernel
end
section
/-! The frame. A world: the addresses L, the shape Sh of each (an object of a class with its references; an array of ints, booleans or longs; an array of objects), the ints M (fields and cells), the longs J. EE: from this frame the method comes to its end with Post. Cn: the contract of a method at a world. -/
abbrev Shp : Type := (Nat × (Nat → Option Nat)) ⊕ ((Nat × Nat) ⊕ (Nat × (Nat → Option Nat)))
abbrev Mem : Type := Nat → Nat → Int32
abbrev Mej : Type := Nat → Nat → Int64
abbrev LV : Type := List (Nat × Value)
abbrev MI : Type := MethodName × ByteArray × Nat × Option FieldType
abbrev PST : Type := Option Value → List Nat → (Nat → Shp) → Mem → Mej → Prop
def fr_nf (ci : Nat) : Nat := match ci with
  | 0 => 13
  | 1 => 6
  | 2 => 4
  | 3 => 14
  | _ => 36
def fr_isR (ci k : Nat) : Bool := match ci with
  | 0 => k == 0
  | 1 => decide (k < 5)
  | 2 => decide (k < 3)
  | 3 => decide (k < 7)
  | _ => (decide (2 ≤ k) && decide (k ≤ 15)) || (k == 20 || (k == 21 || (k == 27 || (k == 28 || (k == 30 || (k == 31 || (k == 33 || k == 35)))))))
def fr_F (ci : Nat) (rf : Nat → Option Nat) (g : Nat → Int32) : List Value := (List.range (fr_nf ci)).map (fun k => if fr_isR ci k = true then va_rf (rf k) else .int (g k))
theorem fr_F_len (ci : Nat) (rf : Nat → Option Nat) (g : Nat → Int32) : (fr_F ci rf g).length = fr_nf ci := by simp [fr_F]
theorem fr_F_get {ci k : Nat} (rf : Nat → Option Nat) (g : Nat → Int32) (h : k < fr_nf ci) : (fr_F ci rf g)[k]? = some (if fr_isR ci k = true then va_rf (rf k) else .int (g k)) := by simp [fr_F, h]
theorem fr_F_seti {ci k : Nat} (rf : Nat → Option Nat) (g : Nat → Int32) (v : Int32) (h : fr_isR ci k = false) : (fr_F ci rf g).set k (.int v) = fr_F ci rf (upd g k v) := by
  apply List.ext_getElem?
  intro j
  by_cases hj : j < fr_nf ci
  · rw [fr_F_get _ _ hj]
    by_cases hk : j = k
    · subst hk
      rw [List.getElem?_set_self (by rw [fr_F_len]; exact hj)]
      simp [h, upd]
    · rw [List.getElem?_set_ne (Ne.symm hk), fr_F_get _ _ hj]
      simp [upd, hk]
  · rw [List.getElem?_eq_none (by rw [List.length_set, fr_F_len]; omega), List.getElem?_eq_none (by rw [fr_F_len]; omega)]
theorem fr_F_setr {ci k : Nat} (rf : Nat → Option Nat) (g : Nat → Int32) (v : Option Nat) (h : fr_isR ci k = true) : (fr_F ci rf g).set k (va_rf v) = fr_F ci (va_up rf k v) g := by
  apply List.ext_getElem?
  intro j
  by_cases hj : j < fr_nf ci
  · rw [fr_F_get _ _ hj]
    by_cases hk : j = k
    · subst hk
      rw [List.getElem?_set_self (by rw [fr_F_len]; exact hj)]
      simp [h, va_up]
    · rw [List.getElem?_set_ne (Ne.symm hk), fr_F_get _ _ hj]
      simp [va_up, hk]
  · rw [List.getElem?_eq_none (by rw [List.length_set, fr_F_len]; omega), List.getElem?_eq_none (by rw [fr_F_len]; omega)]
def fr_E (cy : Nat → ClassId) (Sh : Nat → Shp) (M : Mem) (J : Mej) (a : Nat) : va_E := match Sh a with
  | .inl o => .inr (o.1, fr_F o.1 o.2 (M a))
  | .inr (.inl o) => if o.1 = 2 then .inl (cy 2, o.2, .inr (.inl (J a))) else .inl (cy o.1, o.2, .inl (M a))
  | .inr (.inr o) => .inl (cy 3, o.1, .inr (.inr (.inr (.inr o.2))))
def sM (M : Mem) (a k : Nat) (v : Int32) : Mem := va_up M a (upd (M a) k v)
def sJ (J : Mej) (a k : Nat) (v : Int64) : Mej := va_up J a (vp_updL (J a) k v)
def sR (Sh : Nat → Shp) (a : Nat) (x : Shp) : Nat → Shp := va_up Sh a x
theorem sM_at (M : Mem) (a k : Nat) (v : Int32) (b j : Nat) : sM M a k v b j = if b = a ∧ j = k then v else M b j := by
  by_cases h : b = a
  · subst h
    by_cases h2 : j = k <;> simp [sM, va_up, upd, h2]
  · simp [sM, va_up, h]
theorem sM_eq (M : Mem) (a k : Nat) (v : Int32) : sM M a k v a k = v := by simp [sM_at]
theorem sM_ne {M : Mem} {a k : Nat} {v : Int32} {b j : Nat} (h : b ≠ a ∨ j ≠ k) : sM M a k v b j = M b j := by
  rw [sM_at, if_neg]
  intro q
  rcases h with h | h
  · exact h q.1
  · exact h q.2
theorem sJ_at (J : Mej) (a k : Nat) (v : Int64) (b j : Nat) : sJ J a k v b j = if b = a ∧ j = k then v else J b j := by
  by_cases h : b = a
  · subst h
    by_cases h2 : j = k <;> simp [sJ, va_up, vp_updL, h2]
  · simp [sJ, va_up, h]
theorem fr_E_obj {cy : Nat → ClassId} {Sh : Nat → Shp} {M : Mem} {J : Mej} {a ci : Nat} {rf : Nat → Option Nat} (h : Sh a = .inl (ci, rf)) : fr_E cy Sh M J a = .inr (ci, fr_F ci rf (M a)) := by simp [fr_E, h]
theorem fr_E_i {cy : Nat → ClassId} {Sh : Nat → Shp} {M : Mem} {J : Mej} {a kd n : Nat} (h : Sh a = .inr (.inl (kd, n))) (h2 : kd ≠ 2) : fr_E cy Sh M J a = .inl (cy kd, n, .inl (M a)) := by simp [fr_E, h, h2]
theorem fr_E_j {cy : Nat → ClassId} {Sh : Nat → Shp} {M : Mem} {J : Mej} {a n : Nat} (h : Sh a = .inr (.inl (2, n))) : fr_E cy Sh M J a = .inl (cy 2, n, .inr (.inl (J a))) := by simp [fr_E, h]
theorem fr_E_a {cy : Nat → ClassId} {Sh : Nat → Shp} {M : Mem} {J : Mej} {a n : Nat} {rf : Nat → Option Nat} (h : Sh a = .inr (.inr (n, rf))) : fr_E cy Sh M J a = .inl (cy 3, n, .inr (.inr (.inr (.inr rf)))) := by simp [fr_E, h]
theorem fr_U_obj {cy : Nat → ClassId} {Sh : Nat → Shp} {M : Mem} {J : Mej} {a ci k : Nat} {rf : Nat → Option Nat} {v : Int32} (h : Sh a = .inl (ci, rf)) (h2 : fr_isR ci k = false) : va_up (fr_E cy Sh M J) a (.inr (ci, (fr_F ci rf (M a)).set k (.int v))) = fr_E cy Sh (sM M a k v) J := by
  funext b
  by_cases hb : b = a
  · subst hb
    rw [va_up_self, fr_E_obj h, fr_F_seti _ _ _ h2]
    simp [sM, va_up]
  · rw [va_up_ne _ _ hb]
    simp [fr_E, sM, va_up, hb]
theorem fr_U_ref {cy : Nat → ClassId} {Sh : Nat → Shp} {M : Mem} {J : Mej} {a ci k : Nat} {rf : Nat → Option Nat} {v : Option Nat} (h : Sh a = .inl (ci, rf)) (h2 : fr_isR ci k = true) : va_up (fr_E cy Sh M J) a (.inr (ci, (fr_F ci rf (M a)).set k (va_rf v))) = fr_E cy (sR Sh a (.inl (ci, va_up rf k v))) M J := by
  funext b
  by_cases hb : b = a
  · subst hb
    rw [va_up_self, fr_E_obj (rf := va_up rf k v) (ci := ci) (by simp [sR, va_up]), fr_F_setr _ _ _ h2]
  · rw [va_up_ne _ _ hb]
    simp [fr_E, sR, va_up, hb]
theorem fr_U_i {cy : Nat → ClassId} {Sh : Nat → Shp} {M : Mem} {J : Mej} {a kd n k : Nat} {v : Int32} (h : Sh a = .inr (.inl (kd, n))) (h2 : kd ≠ 2) : va_up (fr_E cy Sh M J) a (.inl (cy kd, n, .inl (upd (M a) k v))) = fr_E cy Sh (sM M a k v) J := by
  funext b
  by_cases hb : b = a
  · subst hb
    rw [va_up_self, fr_E_i h h2]
    simp [sM, va_up]
  · rw [va_up_ne _ _ hb]
    simp [fr_E, sM, va_up, hb]
theorem fr_U_j {cy : Nat → ClassId} {Sh : Nat → Shp} {M : Mem} {J : Mej} {a n k : Nat} {v : Int64} (h : Sh a = .inr (.inl (2, n))) : va_up (fr_E cy Sh M J) a (.inl (cy 2, n, .inr (.inl (vp_updL (J a) k v)))) = fr_E cy Sh M (sJ J a k v) := by
  funext b
  by_cases hb : b = a
  · subst hb
    rw [va_up_self, fr_E_j h]
    simp [sJ, va_up]
  · rw [va_up_ne _ _ hb]
    simp [fr_E, sJ, va_up, hb]
theorem fr_U_a {cy : Nat → ClassId} {Sh : Nat → Shp} {M : Mem} {J : Mej} {a n k : Nat} {rf : Nat → Option Nat} {v : Option Nat} (h : Sh a = .inr (.inr (n, rf))) : va_up (fr_E cy Sh M J) a (.inl (cy 3, n, .inr (.inr (.inr (.inr (va_up rf k v)))))) = fr_E cy (sR Sh a (.inr (.inr (n, va_up rf k v)))) M J := by
  funext b
  by_cases hb : b = a
  · subst hb
    rw [va_up_self, fr_E_a (n := n) (rf := va_up rf k v) (by simp [sR, va_up])]
  · rw [va_up_ne _ _ hb]
    simp [fr_E, sR, va_up, hb]
/-- a method's words: its code, and all good words of the tables -/
def lwg : List Cond := lw_tbl.filter goodWord
def fr_ws (mi : MI) : List Cond := .code mi.1 mi.2.1 mi.2.2.1 mi.2.2.2 :: lwg
theorem lwg_of {w : Cond} (h : w ∈ lw_tbl) (g : goodWord w = true) : w ∈ lwg := List.mem_filter.mpr ⟨h, g⟩
theorem lwg_in {w : Cond} (h : w ∈ lwg) : w ∈ lw_tbl := (List.mem_filter.mp h).1
theorem lwg_good {w : Cond} (h : w ∈ lwg) : goodWord w = true := (List.mem_filter.mp h).2
theorem lwg_ws {w : Cond} (mi : MI) (h : w ∈ lwg) : w ∈ fr_ws mi := List.mem_cons_of_mem _ h
theorem fr_good {mi mj : MI} (h : Cond.code mj.1 mj.2.1 mj.2.2.1 mj.2.2.2 ∈ lwg) : GoodIn (fr_ws mi) (fr_ws mj) := by
  intro w hw
  have h2 : w ∈ lwg := by
    rcases List.mem_cons.mp hw with e | e
    · rw [e]; exact h
    · exact e
  exact ⟨lwg_ws mi h2, good_of_word (lwg_good h2)⟩
def fr_rm (d mc ms : Nat) : Room := { frames := d, cells := mc, slots := ms, locals := 100 * d }
abbrev NF : Type := String × Nat × String × String × String × String
def fr_nF : List NF := [("HomeRings", 155, "HomeRings$Household", "ranks", "[I", "HomeRings"), ("HomeRings", 97, "HomeRings$Household", "wishCount", "I", "HomeRings"), ("HomeRings", 227, "HomeRings$Household", "persons", "I", "HomeRings"), ("HomeRings", 230, "HomeRings$Household", "pet", "Z", "HomeRings"), ("HomeRings", 114, "HomeRings$Household", "present", "Z", "HomeRings"), ("HomeRings", 77, "HomeRings$Household", "freeFrom", "I", "HomeRings"), ("HomeRings", 80, "HomeRings$Household", "freeTo", "I", "HomeRings"), ("HomeRings", 83, "HomeRings$Household", "tripFrom", "I", "HomeRings"), ("HomeRings", 86, "HomeRings$Household", "tripTo", "I", "HomeRings"), ("HomeRings", 143, "HomeRings$Household", "points", "I", "HomeRings")]
def fr_nM : List (String × Nat × MethodName × String) := [("HomeRings", 37, ⟨"HomeRings$Ways", "<init>", "()V"⟩, "HomeRings"), ("HomeRings", 65, ⟨"HomeRings$Household", "<init>", "()V"⟩, "HomeRings")]
abbrev fr_cF (q : NF) : Cond := .fieldLinkNest q.1 q.2.1 q.2.2.1 q.2.2.2.1 q.2.2.2.2.1 q.2.2.2.2.2
abbrev fr_cM (q : String × Nat × MethodName × String) : Cond := .methodLinkNest q.1 q.2.1 q.2.2.1 q.2.2.2
def fr_NW (s : State) : Prop := (∀ q ∈ fr_nF, va_Nw (fr_cF q) s) ∧ (∀ q ∈ fr_nM, va_Nw (fr_cM q) s) ∧ va_AO RX0 s
theorem fr_NW.warm {s U : State} (hW : s.WarmedH U.vm) (h : fr_NW s) : fr_NW U := ⟨fun q hq => va_Nw.warmF hW (h.1 q hq), fun q hq => va_Nw.warmM hW (h.2.1 q hq), h.2.2.moved hW.alike⟩
theorem fr_NW.same {s U : State} (hv : s.vm = U.vm) (h : fr_NW s) : fr_NW U := ⟨fun q hq => va_Nw.same rfl hv (h.1 q hq), fun q hq => va_Nw.same rfl hv (h.2.1 q hq), h.2.2.moved (by rw [← hv]; exact Vm.Alike.refl s.vm)⟩
def fr_T (cy : Nat → ClassId) : List (ClassId × FieldType) := [(cy 0, .int), (cy 1, .boolean), (cy 2, .long), (cy 3, .object "HomeRings$Household")]
def fr_Pc (D : va_G) (cy : Nat → ClassId) (args : List Value) (L : List Nat) (Sh : Nat → Shp) (M : Mem) (J : Mej) (sz : Nat) : Array Value → State → Prop := va_Pc args (fun U => U.heap.size = sz ∧ va_P D vwCl (va_pl L (fr_E cy Sh M J)) U.heap ∧ va_K D vwCl (fr_T cy) U ∧ va_D (fun _ => True) (va_pl L (fr_E cy Sh M J)) ∧ fr_NW U)
def fr_Q (D : va_G) (cy : Nat → ClassId) (Post : PST) (A : Nat → Prop) : Array Value → State → Outcome → State → Prop := fun _ st oc t => (∃ (r : Option Value) (L : List Nat) (Sh : Nat → Shp) (M : Mem) (J : Mej), oc = .returned r ∧ Post r L Sh M J ∧ va_P D vwCl (va_pl L (fr_E cy Sh M J)) t.heap ∧ va_K D vwCl (fr_T cy) t ∧ va_D A (va_pl L (fr_E cy Sh M J))) ∧ va_F A st t
/-- the contract of a method at a world -/
def Cn (l : Launch) (D : va_G) (cy : Nat → ClassId) (d mc ms : Nat) (mi : MI) (args : List Value) (L : List Nat) (Sh : Nat → Shp) (M : Mem) (J : Mej) (Post : PST) : Prop :=
  ∀ sz, Met l mi.1 (fr_ws mi) (fr_rm d mc ms) (fr_Pc D cy args L Sh M J sz) (fr_Q D cy Post (va_A (va_pl L (fr_E cy Sh M J)) sz)) mc ms (va_A (va_pl L (fr_E cy Sh M J)) sz)
/-- what holds all along a method -/
def fr_X (D : va_G) (cy : Nat → ClassId) (mi : MI) (A : Nat → Prop) (p : Program) (s : State) (m : MethodId) (args : Array Value) (meth : Method) (c : Code) : Prop :=
  p.tables.exec = Jvm.exec ∧ c.code = mi.2.1 ∧ meth.sig.returnType = mi.2.2.2 ∧ c.maxLocals = mi.2.2.1 ∧ (∀ w ∈ fr_ws mi, w.before args s = true) ∧ s.vm.findClass mi.1.cls = some m.cls ∧ meth.locks = false ∧ meth.name = mi.1.name ∧ va_K D vwCl (fr_T cy) s ∧ fr_NW s ∧ ∀ q, s.heap.size ≤ q → A q
def EE (l : Launch) (D : va_G) (cy : Nat → ClassId) (d mc ms : Nat) (mi : MI) (A : Nat → Prop) (Post : PST) (cells slots pc : Nat) (lv : LV) (st : List Value) (L : List Nat) (Sh : Nat → Shp) (M : Mem) (J : Mej) : Prop :=
  ∀ (p : Program) (e : Env) (s : State) (m : MethodId) (args : Array Value) (below : List Frame) (meth : Method) (c : Code) (H : Heap) (locs : List Loc) (ls : Array Slot), fr_X D cy mi A p s m args meth c → va_P D vwCl (va_pl L (fr_E cy Sh M J)) H → va_D A (va_pl L (fr_E cy Sh M J)) → va_S A s.heap H locs → lv_has ls mi.2.2.1 lv →
    W p l e (fr_rm d mc ms) s m args below meth c H locs cells slots (MQ below (fr_Q D cy Post A) args s mc ms A) (F0 m pc ls st)
theorem Met.ofWF {l : Launch} {y : MethodName} {ws ws' : List Cond} {rm : Room} {Pc : Array Value → State → Prop} {Qc : Array Value → State → Outcome → State → Prop} {mc ms : Nat} {free : Addr → Prop} {cc : ByteArray} {maxL : Nat} {ret : Option FieldType}
    (hy : plainFor y = true) (hw : ws = Cond.code y cc maxL ret :: ws')
    (body : ∀ p e s m args below meth c s₁, BodyLoose p l y (headSpec ws rm) cc maxL ret e s m args below meth c s₁ → c.maxLocals = maxL → Pc args s →
      W p l e (headSpec ws rm).room s m args below meth c s.heap [] 0 0 (MQ below Qc args s mc ms free) (entryFrame m args maxL)) : Met l y ws rm Pc Qc mc ms free := by
  refine MetFree.of_bodySF (code := cc) (maxLocals := maxL) (ret := ret) hy ?_ ?_
  · intro args s m h hn
    obtain ⟨meth, c, h1, h2, h3, h4, h5, h6, -, -⟩ := Cond.code_spec hn (atoms_spec (ws := ws) h _ (by rw [hw]; exact List.mem_cons_self))
    exact ⟨meth, c, h1, h2, h3, h4, h5, h6⟩
  · intro p e s m args below meth c s₁ B hml hP _
    have hh0 : s₁.heap = s.heap := by rw [B.state]; rfl
    obtain ⟨t, a1, o, b1, b2, b3⟩ := body p e s m args below meth c s₁ B hml hP s₁ hh0 (Stand.of_body B)
    exact ⟨t, o, a1, b1, b2, ⟨b3.1, b3.2⟩⟩
theorem Cn.start {l : Launch} {D : va_G} {cy : Nat → ClassId} {d mc ms : Nat} {mi : MI} {args : List Value} {L : List Nat} {Sh : Nat → Shp} {M : Mem} {J : Mej} {Post : PST} (lv : LV) (hy : plainFor mi.1 = true) (hlen : (lg_sl args).length ≤ mi.2.2.1) (hlv : lv_args 0 args = lv)
    (k : ∀ A, EE l D cy d mc ms mi A Post 0 0 0 lv [] L Sh M J) : Cn l D cy d mc ms mi args L Sh M J Post := by
  intro sz
  refine Met.ofWF (cc := mi.2.1) (maxL := mi.2.2.1) (ret := mi.2.2.2) hy rfl ?_
  intro p e s m args' below meth c s₁ B hml hv
  obtain ⟨rfl, hsz, hP, hK, hD0, hN⟩ := hv
  have hx := B.exec
  have hb := B.bytes
  have hr := B.returns
  have hts := atoms_spec (ws := fr_ws mi) B.pre
  have hown : s.vm.findClass mi.1.cls = some m.cls := findClass_of_methodNamed B.named
  have hlocks := B.notSynchronized
  have hin : meth.name = mi.1.name := (name_of_methodNamed B.named B.method).1
  subst hsz
  have hD := hD0.self (sz := s.heap.size)
  have hl := lv_entry args (n := mi.2.2.1) hlen
  rw [hlv] at hl
  rw [lg_entry_eq]
  exact k _ p e s m args.toArray below meth c s.heap [] _ ⟨hx, hb, hr, hml, hts, hown, hlocks, hin, hK, hN, fun q h => Or.inr h⟩ hP hD va_S.rf hl
def lv_put (i : Nat) (v : Value) : LV → LV
  | [] => [(i, v)]
  | q :: r => cond (Nat.blt q.1 i) (q :: lv_put i v r) ((i, v) :: q :: r)
theorem lv_put_mem {i : Nat} {v : Value} : ∀ {lv : LV} {q : Nat × Value}, q ∈ lv_put i v lv → q = (i, v) ∨ q ∈ lv
  | [], q, h => Or.inl (by simpa [lv_put] using h)
  | a :: r, q, h => by
    unfold lv_put at h
    cases hb : Nat.blt a.1 i <;> rw [hb] at h
    rotate_left
    · rcases List.mem_cons.mp h with e | e
      · exact Or.inr (by rw [e]; exact List.mem_cons_self)
      · rcases lv_put_mem e with e | e
        · exact Or.inl e
        · exact Or.inr (List.mem_cons_of_mem _ e)
    · rcases List.mem_cons.mp h with e | e
      · exact Or.inl e
      · exact Or.inr e
def lvS1 (i : Nat) (v : Value) (lv : LV) : LV := lv_put i v (lv.filter (fun q => !(q.1 == i) && !(q.1 + 1 == i && q.2.category == 2)))
def lvS2 (i : Nat) (v : Value) (lv : LV) : LV := lv_put i v (lv.filter (fun q => !(q.1 == i) && (!(q.1 == i + 1) && !(q.1 + 1 == i && q.2.category == 2))))
theorem lv_has.mono {ls : Array Slot} {n : Nat} {lv lv' : LV} (h : lv_has ls n lv) (hs : ∀ q ∈ lv', q ∈ lv) : lv_has ls n lv' := ⟨h.1, h.2.1, fun q hq => h.2.2 q (hs q hq)⟩
theorem lvS_mem {i : Nat} {v : Value} {lv : LV} {q : Nat × Value} (h : q ∈ lv_put i v lv) : q ∈ (i, v) :: lv := by
  rcases lv_put_mem h with e | e
  · rw [e]; exact List.mem_cons_self
  · exact List.mem_cons_of_mem _ e
def lvG (i : Nat) : LV → Option Value
  | [] => none
  | q :: r => cond (Nat.beq q.1 i) (some q.2) (lvG i r)
theorem lvG_mem {i : Nat} {v : Value} : ∀ {lv : LV}, lvG i lv = some v → (i, v) ∈ lv
  | [], h => by simp [lvG] at h
  | a :: r, h => by
    unfold lvG at h
    cases hb : Nat.beq a.1 i <;> rw [hb] at h
    · exact List.mem_cons_of_mem _ (lvG_mem h)
    · have e : a.1 = i := Nat.eq_of_beq_eq_true hb
      have h2 : a.2 = v := Option.some.inj h
      rw [← e, ← h2]
      exact List.mem_cons_self
theorem lvG_at {ls : Array Slot} {n i : Nat} {lv : LV} {v : Value} (h : lv_has ls n lv) (hg : lvG i lv = some v) : ls[i]? = some (.val v) := h.2.2 (i, v) (lvG_mem hg)
section ROWS
variable {l : Launch} {D : va_G} {cy : Nat → ClassId} {d mc ms : Nat} {mi : MI} {A : Nat → Prop} {Post : PST} {cells slots pc n : Nat} {lv : LV} {st rest : List Value} {L : List Nat} {Sh : Nat → Shp} {M : Mem} {J : Mej}

theorem E_iadd {x y : Int32} (hd : decode mi.2.1 pc = .ok (.iadd, 1))  (hn : pc + 1 = n) (k : EE l D cy d mc ms mi A Post cells slots n lv (.int (x + y) :: rest) L Sh M J) : EE l D cy d mc ms mi A Post cells slots pc lv (.int y :: .int x :: rest) L Sh M J := by
  subst hn
  intro p e s m args below meth c H locs ls X hP hD hS hl
  exact lv_iadd X.1 X.2.1 hd (k _ _ _ _ _ _ _ _ _ _ _ X hP hD hS hl)
theorem E_isub {x y : Int32} (hd : decode mi.2.1 pc = .ok (.isub, 1))  (hn : pc + 1 = n) (k : EE l D cy d mc ms mi A Post cells slots n lv (.int (x - y) :: rest) L Sh M J) : EE l D cy d mc ms mi A Post cells slots pc lv (.int y :: .int x :: rest) L Sh M J := by
  subst hn
  intro p e s m args below meth c H locs ls X hP hD hS hl
  exact lv_isub X.1 X.2.1 hd (k _ _ _ _ _ _ _ _ _ _ _ X hP hD hS hl)
theorem E_imul {x y : Int32} (hd : decode mi.2.1 pc = .ok (.imul, 1))  (hn : pc + 1 = n) (k : EE l D cy d mc ms mi A Post cells slots n lv (.int (x * y) :: rest) L Sh M J) : EE l D cy d mc ms mi A Post cells slots pc lv (.int y :: .int x :: rest) L Sh M J := by
  subst hn
  intro p e s m args below meth c H locs ls X hP hD hS hl
  exact lv_imul X.1 X.2.1 hd (k _ _ _ _ _ _ _ _ _ _ _ X hP hD hS hl)
theorem E_iand {x y : Int32} (hd : decode mi.2.1 pc = .ok (.iand, 1))  (hn : pc + 1 = n) (k : EE l D cy d mc ms mi A Post cells slots n lv (.int (x &&& y) :: rest) L Sh M J) : EE l D cy d mc ms mi A Post cells slots pc lv (.int y :: .int x :: rest) L Sh M J := by
  subst hn
  intro p e s m args below meth c H locs ls X hP hD hS hl
  exact lv_iand X.1 X.2.1 hd (k _ _ _ _ _ _ _ _ _ _ _ X hP hD hS hl)
theorem E_ior {x y : Int32} (hd : decode mi.2.1 pc = .ok (.ior, 1))  (hn : pc + 1 = n) (k : EE l D cy d mc ms mi A Post cells slots n lv (.int (x ||| y) :: rest) L Sh M J) : EE l D cy d mc ms mi A Post cells slots pc lv (.int y :: .int x :: rest) L Sh M J := by
  subst hn
  intro p e s m args below meth c H locs ls X hP hD hS hl
  exact lv_ior X.1 X.2.1 hd (k _ _ _ _ _ _ _ _ _ _ _ X hP hD hS hl)
theorem E_ixor {x y : Int32} (hd : decode mi.2.1 pc = .ok (.ixor, 1))  (hn : pc + 1 = n) (k : EE l D cy d mc ms mi A Post cells slots n lv (.int (x ^^^ y) :: rest) L Sh M J) : EE l D cy d mc ms mi A Post cells slots pc lv (.int y :: .int x :: rest) L Sh M J := by
  subst hn
  intro p e s m args below meth c H locs ls X hP hD hS hl
  exact lv_ixor X.1 X.2.1 hd (k _ _ _ _ _ _ _ _ _ _ _ X hP hD hS hl)
theorem E_ladd {x y : Int64} (hd : decode mi.2.1 pc = .ok (.ladd, 1))  (hn : pc + 1 = n) (k : EE l D cy d mc ms mi A Post cells slots n lv (.long (x + y) :: rest) L Sh M J) : EE l D cy d mc ms mi A Post cells slots pc lv (.long y :: .long x :: rest) L Sh M J := by
  subst hn
  intro p e s m args below meth c H locs ls X hP hD hS hl
  exact lv_ladd X.1 X.2.1 hd (k _ _ _ _ _ _ _ _ _ _ _ X hP hD hS hl)
theorem E_lsub {x y : Int64} (hd : decode mi.2.1 pc = .ok (.lsub, 1))  (hn : pc + 1 = n) (k : EE l D cy d mc ms mi A Post cells slots n lv (.long (x - y) :: rest) L Sh M J) : EE l D cy d mc ms mi A Post cells slots pc lv (.long y :: .long x :: rest) L Sh M J := by
  subst hn
  intro p e s m args below meth c H locs ls X hP hD hS hl
  exact lv_lsub X.1 X.2.1 hd (k _ _ _ _ _ _ _ _ _ _ _ X hP hD hS hl)
theorem E_lmul {x y : Int64} (hd : decode mi.2.1 pc = .ok (.lmul, 1))  (hn : pc + 1 = n) (k : EE l D cy d mc ms mi A Post cells slots n lv (.long (x * y) :: rest) L Sh M J) : EE l D cy d mc ms mi A Post cells slots pc lv (.long y :: .long x :: rest) L Sh M J := by
  subst hn
  intro p e s m args below meth c H locs ls X hP hD hS hl
  exact lv_lmul X.1 X.2.1 hd (k _ _ _ _ _ _ _ _ _ _ _ X hP hD hS hl)
theorem E_lxor {x y : Int64} (hd : decode mi.2.1 pc = .ok (.lxor, 1))  (hn : pc + 1 = n) (k : EE l D cy d mc ms mi A Post cells slots n lv (.long (x ^^^ y) :: rest) L Sh M J) : EE l D cy d mc ms mi A Post cells slots pc lv (.long y :: .long x :: rest) L Sh M J := by
  subst hn
  intro p e s m args below meth c H locs ls X hP hD hS hl
  exact lv_lxor X.1 X.2.1 hd (k _ _ _ _ _ _ _ _ _ _ _ X hP hD hS hl)
theorem E_idiv {x y : Int32} (hd : decode mi.2.1 pc = .ok (.idiv, 1)) (hne : ¬ y = 0) (hn : pc + 1 = n) (k : EE l D cy d mc ms mi A Post cells slots n lv (.int (x / y) :: rest) L Sh M J) : EE l D cy d mc ms mi A Post cells slots pc lv (.int y :: .int x :: rest) L Sh M J := by
  subst hn
  intro p e s m args below meth c H locs ls X hP hD hS hl
  exact lv_idiv X.1 X.2.1 hd hne (k _ _ _ _ _ _ _ _ _ _ _ X hP hD hS hl)
theorem E_irem {x y : Int32} (hd : decode mi.2.1 pc = .ok (.irem, 1)) (hne : ¬ y = 0) (hn : pc + 1 = n) (k : EE l D cy d mc ms mi A Post cells slots n lv (.int (x - x / y * y) :: rest) L Sh M J) : EE l D cy d mc ms mi A Post cells slots pc lv (.int y :: .int x :: rest) L Sh M J := by
  subst hn
  intro p e s m args below meth c H locs ls X hP hD hS hl
  exact lv_irem X.1 X.2.1 hd hne (k _ _ _ _ _ _ _ _ _ _ _ X hP hD hS hl)
theorem E_ldiv {x y : Int64} (hd : decode mi.2.1 pc = .ok (.ldiv, 1)) (hne : ¬ y = 0) (hn : pc + 1 = n) (k : EE l D cy d mc ms mi A Post cells slots n lv (.long (x / y) :: rest) L Sh M J) : EE l D cy d mc ms mi A Post cells slots pc lv (.long y :: .long x :: rest) L Sh M J := by
  subst hn
  intro p e s m args below meth c H locs ls X hP hD hS hl
  exact lv_ldiv X.1 X.2.1 hd hne (k _ _ _ _ _ _ _ _ _ _ _ X hP hD hS hl)
theorem E_lrem {x y : Int64} (hd : decode mi.2.1 pc = .ok (.lrem, 1)) (hne : ¬ y = 0) (hn : pc + 1 = n) (k : EE l D cy d mc ms mi A Post cells slots n lv (.long (x - x / y * y) :: rest) L Sh M J) : EE l D cy d mc ms mi A Post cells slots pc lv (.long y :: .long x :: rest) L Sh M J := by
  subst hn
  intro p e s m args below meth c H locs ls X hP hD hS hl
  exact lv_lrem X.1 X.2.1 hd hne (k _ _ _ _ _ _ _ _ _ _ _ X hP hD hS hl)
theorem E_ineg {x : Int32} (hd : decode mi.2.1 pc = .ok (.ineg, 1))  (hn : pc + 1 = n) (k : EE l D cy d mc ms mi A Post cells slots n lv (.int (-x) :: rest) L Sh M J) : EE l D cy d mc ms mi A Post cells slots pc lv (.int x :: rest) L Sh M J := by
  subst hn
  intro p e s m args below meth c H locs ls X hP hD hS hl
  exact lv_ineg X.1 X.2.1 hd (k _ _ _ _ _ _ _ _ _ _ _ X hP hD hS hl)
theorem E_lneg {x : Int64} (hd : decode mi.2.1 pc = .ok (.lneg, 1))  (hn : pc + 1 = n) (k : EE l D cy d mc ms mi A Post cells slots n lv (.long (-x) :: rest) L Sh M J) : EE l D cy d mc ms mi A Post cells slots pc lv (.long x :: rest) L Sh M J := by
  subst hn
  intro p e s m args below meth c H locs ls X hP hD hS hl
  exact lv_lneg X.1 X.2.1 hd (k _ _ _ _ _ _ _ _ _ _ _ X hP hD hS hl)
theorem E_ishl {x y : Int32} (hd : decode mi.2.1 pc = .ok (.ishl, 1))  (hn : pc + 1 = n) (k : EE l D cy d mc ms mi A Post cells slots n lv (.int (x <<< (y &&& 31)) :: rest) L Sh M J) : EE l D cy d mc ms mi A Post cells slots pc lv (.int y :: .int x :: rest) L Sh M J := by
  subst hn
  intro p e s m args below meth c H locs ls X hP hD hS hl
  exact lv_ishl X.1 X.2.1 hd (k _ _ _ _ _ _ _ _ _ _ _ X hP hD hS hl)
theorem E_ishr {x y : Int32} (hd : decode mi.2.1 pc = .ok (.ishr, 1))  (hn : pc + 1 = n) (k : EE l D cy d mc ms mi A Post cells slots n lv (.int (x >>> (y &&& 31)) :: rest) L Sh M J) : EE l D cy d mc ms mi A Post cells slots pc lv (.int y :: .int x :: rest) L Sh M J := by
  subst hn
  intro p e s m args below meth c H locs ls X hP hD hS hl
  exact lv_ishr X.1 X.2.1 hd (k _ _ _ _ _ _ _ _ _ _ _ X hP hD hS hl)
theorem E_iushr {x y : Int32} (hd : decode mi.2.1 pc = .ok (.iushr, 1))  (hn : pc + 1 = n) (k : EE l D cy d mc ms mi A Post cells slots n lv (.int ((x.toUInt32 >>> (y.toUInt32 &&& Int32.toUInt32 31)).toInt32) :: rest) L Sh M J) : EE l D cy d mc ms mi A Post cells slots pc lv (.int y :: .int x :: rest) L Sh M J := by
  subst hn
  intro p e s m args below meth c H locs ls X hP hD hS hl
  exact lv_iushr X.1 X.2.1 hd rfl (k _ _ _ _ _ _ _ _ _ _ _ X hP hD hS hl)
theorem E_i2l {x : Int32} (hd : decode mi.2.1 pc = .ok (.i2l, 1))  (hn : pc + 1 = n) (k : EE l D cy d mc ms mi A Post cells slots n lv (.long x.toInt64 :: rest) L Sh M J) : EE l D cy d mc ms mi A Post cells slots pc lv (.int x :: rest) L Sh M J := by
  subst hn
  intro p e s m args below meth c H locs ls X hP hD hS hl
  exact lv_i2l X.1 X.2.1 hd rfl (k _ _ _ _ _ _ _ _ _ _ _ X hP hD hS hl)
theorem E_l2i {x : Int64} (hd : decode mi.2.1 pc = .ok (.l2i, 1))  (hn : pc + 1 = n) (k : EE l D cy d mc ms mi A Post cells slots n lv (.int x.toInt32 :: rest) L Sh M J) : EE l D cy d mc ms mi A Post cells slots pc lv (.long x :: rest) L Sh M J := by
  subst hn
  intro p e s m args below meth c H locs ls X hP hD hS hl
  exact lv_l2i X.1 X.2.1 hd rfl (k _ _ _ _ _ _ _ _ _ _ _ X hP hD hS hl)
theorem E_i2b {x : Int32} (hd : decode mi.2.1 pc = .ok (.i2b, 1))  (hn : pc + 1 = n) (k : EE l D cy d mc ms mi A Post cells slots n lv (.int x.toInt8.toInt32 :: rest) L Sh M J) : EE l D cy d mc ms mi A Post cells slots pc lv (.int x :: rest) L Sh M J := by
  subst hn
  intro p e s m args below meth c H locs ls X hP hD hS hl
  exact lv_i2b X.1 X.2.1 hd rfl (k _ _ _ _ _ _ _ _ _ _ _ X hP hD hS hl)
theorem E_lcmp {x y : Int64} (hd : decode mi.2.1 pc = .ok (.lcmp, 1))  (hn : pc + 1 = n) (k : EE l D cy d mc ms mi A Post cells slots n lv (.int (lg_cmp x y) :: rest) L Sh M J) : EE l D cy d mc ms mi A Post cells slots pc lv (.long y :: .long x :: rest) L Sh M J := by
  subst hn
  intro p e s m args below meth c H locs ls X hP hD hS hl
  exact W.lcmp X.1 X.2.1 hd (k _ _ _ _ _ _ _ _ _ _ _ X hP hD hS hl)
theorem E_dup {va : Value} (hd : decode mi.2.1 pc = .ok (.dup, 1)) (hva : va.category = 1) (hn : pc + 1 = n) (k : EE l D cy d mc ms mi A Post cells slots n lv (va :: va :: rest) L Sh M J) : EE l D cy d mc ms mi A Post cells slots pc lv (va :: rest) L Sh M J := by
  subst hn
  intro p e s m args below meth c H locs ls X hP hD hS hl
  exact lv_dup X.1 X.2.1 hd hva (k _ _ _ _ _ _ _ _ _ _ _ X hP hD hS hl)
theorem E_dup2 {va vb : Value} (hd : decode mi.2.1 pc = .ok (.dup2, 1)) (hva : va.category = 1) (hvb : vb.category = 1) (hn : pc + 1 = n) (k : EE l D cy d mc ms mi A Post cells slots n lv (va :: vb :: va :: vb :: rest) L Sh M J) : EE l D cy d mc ms mi A Post cells slots pc lv (va :: vb :: rest) L Sh M J := by
  subst hn
  intro p e s m args below meth c H locs ls X hP hD hS hl
  exact lv_dup2_11 X.1 X.2.1 hd hva hvb (k _ _ _ _ _ _ _ _ _ _ _ X hP hD hS hl)
theorem E_pop {va : Value} (hd : decode mi.2.1 pc = .ok (.pop, 1)) (hva : va.category = 1) (hn : pc + 1 = n) (k : EE l D cy d mc ms mi A Post cells slots n lv (rest) L Sh M J) : EE l D cy d mc ms mi A Post cells slots pc lv (va :: rest) L Sh M J := by
  subst hn
  intro p e s m args below meth c H locs ls X hP hD hS hl
  exact lv_pop X.1 X.2.1 hd hva (k _ _ _ _ _ _ _ _ _ _ _ X hP hD hS hl)
theorem E_iconst {z : Int} {v : Int32} (hd : decode mi.2.1 pc = .ok (.iconst z, 1)) (hv : Int32.ofInt z = v) (hn : pc + 1 = n) (k : EE l D cy d mc ms mi A Post cells slots n lv (.int v :: rest) L Sh M J) : EE l D cy d mc ms mi A Post cells slots pc lv (rest) L Sh M J := by
  subst hn
  intro p e s m args below meth c H locs ls X hP hD hS hl
  exact lv_iconst X.1 X.2.1 hd hv (k _ _ _ _ _ _ _ _ _ _ _ X hP hD hS hl)
theorem E_bipush {z : Int} {v : Int32} (hd : decode mi.2.1 pc = .ok (.bipush z, 2)) (hv : (Int8.ofInt z).toInt32 = v) (hn : pc + 2 = n) (k : EE l D cy d mc ms mi A Post cells slots n lv (.int v :: rest) L Sh M J) : EE l D cy d mc ms mi A Post cells slots pc lv (rest) L Sh M J := by
  subst hn
  intro p e s m args below meth c H locs ls X hP hD hS hl
  exact lv_bipush X.1 X.2.1 hd hv (k _ _ _ _ _ _ _ _ _ _ _ X hP hD hS hl)
theorem E_sipush {z : Int} {v : Int32} (hd : decode mi.2.1 pc = .ok (.sipush z, 3)) (hv : (Int16.ofInt z).toInt32 = v) (hn : pc + 3 = n) (k : EE l D cy d mc ms mi A Post cells slots n lv (.int v :: rest) L Sh M J) : EE l D cy d mc ms mi A Post cells slots pc lv (rest) L Sh M J := by
  subst hn
  intro p e s m args below meth c H locs ls X hP hD hS hl
  exact lv_sipush X.1 X.2.1 hd hv (k _ _ _ _ _ _ _ _ _ _ _ X hP hD hS hl)
theorem E_lconst {z : Fin 2} {v : Int64} (hd : decode mi.2.1 pc = .ok (.lconst z, 1)) (hv : Int64.ofNat (z : Nat) = v) (hn : pc + 1 = n) (k : EE l D cy d mc ms mi A Post cells slots n lv (.long v :: rest) L Sh M J) : EE l D cy d mc ms mi A Post cells slots pc lv (rest) L Sh M J := by
  subst hn
  intro p e s m args below meth c H locs ls X hP hD hS hl
  exact lv_lconst X.1 X.2.1 hd hv (k _ _ _ _ _ _ _ _ _ _ _ X hP hD hS hl)
theorem E_ldc {ix : Nat} {v : Int32} (hd : decode mi.2.1 pc = .ok (.ldc ix, 2)) (hw : Cond.constant mi.1.cls ix v ∈ lwg) (hn : pc + 2 = n) (k : EE l D cy d mc ms mi A Post cells slots n lv (.int v :: rest) L Sh M J) : EE l D cy d mc ms mi A Post cells slots pc lv (rest) L Sh M J := by
  subst hn
  intro p e s m args below meth c H locs ls X hP hD hS hl
  exact lv_ldc X.1 X.2.1 X.2.2.2.2.2.1 (X.2.2.2.2.1 _ (lwg_ws mi hw)) hd (k _ _ _ _ _ _ _ _ _ _ _ X hP hD hS hl)
theorem E_ldcw {ix : Nat} {v : Int32} (hd : decode mi.2.1 pc = .ok (.ldc_w ix, 3)) (hw : Cond.constant mi.1.cls ix v ∈ lwg) (hn : pc + 3 = n) (k : EE l D cy d mc ms mi A Post cells slots n lv (.int v :: rest) L Sh M J) : EE l D cy d mc ms mi A Post cells slots pc lv (rest) L Sh M J := by
  subst hn
  intro p e s m args below meth c H locs ls X hP hD hS hl
  exact lv_ldcw X.1 X.2.1 X.2.2.2.2.2.1 (X.2.2.2.2.1 _ (lwg_ws mi hw)) hd (k _ _ _ _ _ _ _ _ _ _ _ X hP hD hS hl)
theorem E_ldc2 {ix : Nat} {v : Int64} (hd : decode mi.2.1 pc = .ok (.ldc2_w ix, 3)) (hw : Cond.constantLong mi.1.cls ix v ∈ lwg) (hn : pc + 3 = n) (k : EE l D cy d mc ms mi A Post cells slots n lv (.long v :: rest) L Sh M J) : EE l D cy d mc ms mi A Post cells slots pc lv (rest) L Sh M J := by
  subst hn
  intro p e s m args below meth c H locs ls X hP hD hS hl
  exact lv_ldc2 X.1 X.2.1 X.2.2.2.2.2.1 (X.2.2.2.2.1 _ (lwg_ws mi hw)) hd (k _ _ _ _ _ _ _ _ _ _ _ X hP hD hS hl)
theorem E_iload_n {z : Fin 4} {x : Int32} (hd : decode mi.2.1 pc = .ok (.iload_n z, 1)) (hg : lvG (z : Nat) lv = some (.int x)) (hn : pc + 1 = n) (k : EE l D cy d mc ms mi A Post cells slots n lv (.int x :: rest) L Sh M J) : EE l D cy d mc ms mi A Post cells slots pc lv (rest) L Sh M J := by
  subst hn
  intro p e s m args below meth c H locs ls X hP hD hS hl
  exact lv_iload_n X.1 X.2.1 hd rfl (lvG_at hl hg) (k _ _ _ _ _ _ _ _ _ _ _ X hP hD hS hl)
theorem E_iload {z : Nat} {x : Int32} (hd : decode mi.2.1 pc = .ok (.iload z, 2)) (hg : lvG z lv = some (.int x)) (hn : pc + 2 = n) (k : EE l D cy d mc ms mi A Post cells slots n lv (.int x :: rest) L Sh M J) : EE l D cy d mc ms mi A Post cells slots pc lv (rest) L Sh M J := by
  subst hn
  intro p e s m args below meth c H locs ls X hP hD hS hl
  exact lv_iload X.1 X.2.1 hd (lvG_at hl hg) (k _ _ _ _ _ _ _ _ _ _ _ X hP hD hS hl)
theorem E_istore_n {z : Fin 4} {x : Int32} {lv' : LV} (hd : decode mi.2.1 pc = .ok (.istore_n z, 1)) (hb : (z : Nat) < mi.2.2.1) (hs : lvS1 (z : Nat) (.int x) lv = lv') (hn : pc + 1 = n) (k : EE l D cy d mc ms mi A Post cells slots n lv' rest L Sh M J) : EE l D cy d mc ms mi A Post cells slots pc lv (.int x :: rest) L Sh M J := by
  subst hn
  subst hs
  intro p e s m args below meth c H locs ls X hP hD hS hl
  exact lv_istore_n X.1 X.2.1 hd rfl hl hb rfl (fun ls2 hl2 => k _ _ _ _ _ _ _ _ _ _ _ X hP hD hS (hl2.mono (fun q hq => lvS_mem hq)))
theorem E_istore {z : Nat} {x : Int32} {lv' : LV} (hd : decode mi.2.1 pc = .ok (.istore z, 2)) (hb : z < mi.2.2.1) (hs : lvS1 z (.int x) lv = lv') (hn : pc + 2 = n) (k : EE l D cy d mc ms mi A Post cells slots n lv' rest L Sh M J) : EE l D cy d mc ms mi A Post cells slots pc lv (.int x :: rest) L Sh M J := by
  subst hn
  subst hs
  intro p e s m args below meth c H locs ls X hP hD hS hl
  exact lv_istore X.1 X.2.1 hd hl hb rfl (fun ls2 hl2 => k _ _ _ _ _ _ _ _ _ _ _ X hP hD hS (hl2.mono (fun q hq => lvS_mem hq)))
theorem E_lload_n {z : Fin 4} {x : Int64} (hd : decode mi.2.1 pc = .ok (.lload_n z, 1)) (hg : lvG (z : Nat) lv = some (.long x)) (hn : pc + 1 = n) (k : EE l D cy d mc ms mi A Post cells slots n lv (.long x :: rest) L Sh M J) : EE l D cy d mc ms mi A Post cells slots pc lv (rest) L Sh M J := by
  subst hn
  intro p e s m args below meth c H locs ls X hP hD hS hl
  exact lv_lload_n X.1 X.2.1 hd rfl (lvG_at hl hg) (k _ _ _ _ _ _ _ _ _ _ _ X hP hD hS hl)
theorem E_lload {z : Nat} {x : Int64} (hd : decode mi.2.1 pc = .ok (.lload z, 2)) (hg : lvG z lv = some (.long x)) (hn : pc + 2 = n) (k : EE l D cy d mc ms mi A Post cells slots n lv (.long x :: rest) L Sh M J) : EE l D cy d mc ms mi A Post cells slots pc lv (rest) L Sh M J := by
  subst hn
  intro p e s m args below meth c H locs ls X hP hD hS hl
  exact lv_lload X.1 X.2.1 hd (lvG_at hl hg) (k _ _ _ _ _ _ _ _ _ _ _ X hP hD hS hl)
theorem E_lstore_n {z : Fin 4} {x : Int64} {lv' : LV} (hd : decode mi.2.1 pc = .ok (.lstore_n z, 1)) (hb : (z : Nat) + 1 < mi.2.2.1) (hs : lvS2 (z : Nat) (.long x) lv = lv') (hn : pc + 1 = n) (k : EE l D cy d mc ms mi A Post cells slots n lv' rest L Sh M J) : EE l D cy d mc ms mi A Post cells slots pc lv (.long x :: rest) L Sh M J := by
  subst hn
  subst hs
  intro p e s m args below meth c H locs ls X hP hD hS hl
  exact lv_lstore_n X.1 X.2.1 hd rfl hl hb rfl (fun ls2 hl2 => k _ _ _ _ _ _ _ _ _ _ _ X hP hD hS (hl2.mono (fun q hq => lvS_mem hq)))
theorem E_lstore {z : Nat} {x : Int64} {lv' : LV} (hd : decode mi.2.1 pc = .ok (.lstore z, 2)) (hb : z + 1 < mi.2.2.1) (hs : lvS2 z (.long x) lv = lv') (hn : pc + 2 = n) (k : EE l D cy d mc ms mi A Post cells slots n lv' rest L Sh M J) : EE l D cy d mc ms mi A Post cells slots pc lv (.long x :: rest) L Sh M J := by
  subst hn
  subst hs
  intro p e s m args below meth c H locs ls X hP hD hS hl
  exact lv_lstore X.1 X.2.1 hd hl hb rfl (fun ls2 hl2 => k _ _ _ _ _ _ _ _ _ _ _ X hP hD hS (hl2.mono (fun q hq => lvS_mem hq)))
theorem E_aload_n {z : Fin 4} {x : Nat} (hd : decode mi.2.1 pc = .ok (.aload_n z, 1)) (hg : lvG (z : Nat) lv = some (.ref x)) (hn : pc + 1 = n) (k : EE l D cy d mc ms mi A Post cells slots n lv (.ref x :: rest) L Sh M J) : EE l D cy d mc ms mi A Post cells slots pc lv (rest) L Sh M J := by
  subst hn
  intro p e s m args below meth c H locs ls X hP hD hS hl
  exact lv_aload_n X.1 X.2.1 hd rfl (lvG_at hl hg) (k _ _ _ _ _ _ _ _ _ _ _ X hP hD hS hl)
theorem E_aload {z : Nat} {x : Nat} (hd : decode mi.2.1 pc = .ok (.aload z, 2)) (hg : lvG z lv = some (.ref x)) (hn : pc + 2 = n) (k : EE l D cy d mc ms mi A Post cells slots n lv (.ref x :: rest) L Sh M J) : EE l D cy d mc ms mi A Post cells slots pc lv (rest) L Sh M J := by
  subst hn
  intro p e s m args below meth c H locs ls X hP hD hS hl
  exact lv_aload X.1 X.2.1 hd (lvG_at hl hg) (k _ _ _ _ _ _ _ _ _ _ _ X hP hD hS hl)
theorem E_astore_n {z : Fin 4} {x : Nat} {lv' : LV} (hd : decode mi.2.1 pc = .ok (.astore_n z, 1)) (hb : (z : Nat) < mi.2.2.1) (hs : lvS1 (z : Nat) (.ref x) lv = lv') (hn : pc + 1 = n) (k : EE l D cy d mc ms mi A Post cells slots n lv' rest L Sh M J) : EE l D cy d mc ms mi A Post cells slots pc lv (.ref x :: rest) L Sh M J := by
  subst hn
  subst hs
  intro p e s m args below meth c H locs ls X hP hD hS hl
  exact lv_astore_n X.1 X.2.1 hd rfl hl hb rfl (fun ls2 hl2 => k _ _ _ _ _ _ _ _ _ _ _ X hP hD hS (hl2.mono (fun q hq => lvS_mem hq)))
theorem E_astore {z : Nat} {x : Nat} {lv' : LV} (hd : decode mi.2.1 pc = .ok (.astore z, 2)) (hb : z < mi.2.2.1) (hs : lvS1 z (.ref x) lv = lv') (hn : pc + 2 = n) (k : EE l D cy d mc ms mi A Post cells slots n lv' rest L Sh M J) : EE l D cy d mc ms mi A Post cells slots pc lv (.ref x :: rest) L Sh M J := by
  subst hn
  subst hs
  intro p e s m args below meth c H locs ls X hP hD hS hl
  exact lv_astore X.1 X.2.1 hd hl hb rfl (fun ls2 hl2 => k _ _ _ _ _ _ _ _ _ _ _ X hP hD hS (hl2.mono (fun q hq => lvS_mem hq)))
theorem E_iinc {z : Nat} {i : Int} {x v : Int32} {lv' : LV} (hd : decode mi.2.1 pc = .ok (.iinc z i, 3)) (hg : lvG z lv = some (.int x)) (hv : x + Int32.ofInt i = v) (hb : z < mi.2.2.1) (hs : lvS1 z (.int v) lv = lv') (hn : pc + 3 = n) (k : EE l D cy d mc ms mi A Post cells slots n lv' rest L Sh M J) : EE l D cy d mc ms mi A Post cells slots pc lv rest L Sh M J := by
  subst hn
  subst hs
  intro p e s m args below meth c H locs ls X hP hD hS hl
  obtain ⟨j, hj⟩ := List.getElem?_of_mem (lvG_mem hg)
  exact lv_iinc X.1 X.2.1 hd hl hj hv hb rfl (fun ls2 hl2 => k _ _ _ _ _ _ _ _ _ _ _ X hP hD hS (hl2.mono (fun q hq => lvS_mem hq)))
theorem E_if_eq {x : Int32} {off : Int} {tgt : Nat} (hd : decode mi.2.1 pc = .ok (.ifCond .eq off, 3)) (ht : (pc : Int) + off = (tgt : Int)) (hn : pc + 3 = n) (kt : x = 0 → EE l D cy d mc ms mi A Post cells slots tgt lv rest L Sh M J) (kf : ¬ x = 0 → EE l D cy d mc ms mi A Post cells slots n lv rest L Sh M J) : EE l D cy d mc ms mi A Post cells slots pc lv (.int x :: rest) L Sh M J := by
  subst hn
  intro p e s m args below meth c H locs ls X hP hD hS hl
  exact lv_if_eq X.1 X.2.1 hd ht (fun h => kt h _ _ _ _ _ _ _ _ _ _ _ X hP hD hS hl) (fun h => kf h _ _ _ _ _ _ _ _ _ _ _ X hP hD hS hl)
theorem E_if_ne {x : Int32} {off : Int} {tgt : Nat} (hd : decode mi.2.1 pc = .ok (.ifCond .ne off, 3)) (ht : (pc : Int) + off = (tgt : Int)) (hn : pc + 3 = n) (kt : ¬ x = 0 → EE l D cy d mc ms mi A Post cells slots tgt lv rest L Sh M J) (kf : x = 0 → EE l D cy d mc ms mi A Post cells slots n lv rest L Sh M J) : EE l D cy d mc ms mi A Post cells slots pc lv (.int x :: rest) L Sh M J := by
  subst hn
  intro p e s m args below meth c H locs ls X hP hD hS hl
  exact lv_if_ne X.1 X.2.1 hd ht (fun h => kt h _ _ _ _ _ _ _ _ _ _ _ X hP hD hS hl) (fun h => kf h _ _ _ _ _ _ _ _ _ _ _ X hP hD hS hl)
theorem E_if_lt {x : Int32} {off : Int} {tgt : Nat} (hd : decode mi.2.1 pc = .ok (.ifCond .lt off, 3)) (ht : (pc : Int) + off = (tgt : Int)) (hn : pc + 3 = n) (kt : x < 0 → EE l D cy d mc ms mi A Post cells slots tgt lv rest L Sh M J) (kf : ¬ x < 0 → EE l D cy d mc ms mi A Post cells slots n lv rest L Sh M J) : EE l D cy d mc ms mi A Post cells slots pc lv (.int x :: rest) L Sh M J := by
  subst hn
  intro p e s m args below meth c H locs ls X hP hD hS hl
  exact lv_if_lt X.1 X.2.1 hd ht (fun h => kt h _ _ _ _ _ _ _ _ _ _ _ X hP hD hS hl) (fun h => kf h _ _ _ _ _ _ _ _ _ _ _ X hP hD hS hl)
theorem E_if_ge {x : Int32} {off : Int} {tgt : Nat} (hd : decode mi.2.1 pc = .ok (.ifCond .ge off, 3)) (ht : (pc : Int) + off = (tgt : Int)) (hn : pc + 3 = n) (kt : 0 ≤ x → EE l D cy d mc ms mi A Post cells slots tgt lv rest L Sh M J) (kf : ¬ 0 ≤ x → EE l D cy d mc ms mi A Post cells slots n lv rest L Sh M J) : EE l D cy d mc ms mi A Post cells slots pc lv (.int x :: rest) L Sh M J := by
  subst hn
  intro p e s m args below meth c H locs ls X hP hD hS hl
  exact lv_if_ge X.1 X.2.1 hd ht (fun h => kt h _ _ _ _ _ _ _ _ _ _ _ X hP hD hS hl) (fun h => kf h _ _ _ _ _ _ _ _ _ _ _ X hP hD hS hl)
theorem E_if_gt {x : Int32} {off : Int} {tgt : Nat} (hd : decode mi.2.1 pc = .ok (.ifCond .gt off, 3)) (ht : (pc : Int) + off = (tgt : Int)) (hn : pc + 3 = n) (kt : 0 < x → EE l D cy d mc ms mi A Post cells slots tgt lv rest L Sh M J) (kf : ¬ 0 < x → EE l D cy d mc ms mi A Post cells slots n lv rest L Sh M J) : EE l D cy d mc ms mi A Post cells slots pc lv (.int x :: rest) L Sh M J := by
  subst hn
  intro p e s m args below meth c H locs ls X hP hD hS hl
  exact lv_if_gt X.1 X.2.1 hd ht (fun h => kt h _ _ _ _ _ _ _ _ _ _ _ X hP hD hS hl) (fun h => kf h _ _ _ _ _ _ _ _ _ _ _ X hP hD hS hl)
theorem E_if_le {x : Int32} {off : Int} {tgt : Nat} (hd : decode mi.2.1 pc = .ok (.ifCond .le off, 3)) (ht : (pc : Int) + off = (tgt : Int)) (hn : pc + 3 = n) (kt : x ≤ 0 → EE l D cy d mc ms mi A Post cells slots tgt lv rest L Sh M J) (kf : ¬ x ≤ 0 → EE l D cy d mc ms mi A Post cells slots n lv rest L Sh M J) : EE l D cy d mc ms mi A Post cells slots pc lv (.int x :: rest) L Sh M J := by
  subst hn
  intro p e s m args below meth c H locs ls X hP hD hS hl
  exact lv_if_le X.1 X.2.1 hd ht (fun h => kt h _ _ _ _ _ _ _ _ _ _ _ X hP hD hS hl) (fun h => kf h _ _ _ _ _ _ _ _ _ _ _ X hP hD hS hl)
theorem E_icmp_eq {x y : Int32} {off : Int} {tgt : Nat} (hd : decode mi.2.1 pc = .ok (.if_icmp .eq off, 3)) (ht : (pc : Int) + off = (tgt : Int)) (hn : pc + 3 = n) (kt : x = y → EE l D cy d mc ms mi A Post cells slots tgt lv rest L Sh M J) (kf : ¬ x = y → EE l D cy d mc ms mi A Post cells slots n lv rest L Sh M J) : EE l D cy d mc ms mi A Post cells slots pc lv (.int y :: .int x :: rest) L Sh M J := by
  subst hn
  intro p e s m args below meth c H locs ls X hP hD hS hl
  exact lv_icmp_eq X.1 X.2.1 hd ht (fun h => kt h _ _ _ _ _ _ _ _ _ _ _ X hP hD hS hl) (fun h => kf h _ _ _ _ _ _ _ _ _ _ _ X hP hD hS hl)
theorem E_icmp_ne {x y : Int32} {off : Int} {tgt : Nat} (hd : decode mi.2.1 pc = .ok (.if_icmp .ne off, 3)) (ht : (pc : Int) + off = (tgt : Int)) (hn : pc + 3 = n) (kt : ¬ x = y → EE l D cy d mc ms mi A Post cells slots tgt lv rest L Sh M J) (kf : x = y → EE l D cy d mc ms mi A Post cells slots n lv rest L Sh M J) : EE l D cy d mc ms mi A Post cells slots pc lv (.int y :: .int x :: rest) L Sh M J := by
  subst hn
  intro p e s m args below meth c H locs ls X hP hD hS hl
  exact lv_icmp_ne X.1 X.2.1 hd ht (fun h => kt h _ _ _ _ _ _ _ _ _ _ _ X hP hD hS hl) (fun h => kf h _ _ _ _ _ _ _ _ _ _ _ X hP hD hS hl)
theorem E_icmp_lt {x y : Int32} {off : Int} {tgt : Nat} (hd : decode mi.2.1 pc = .ok (.if_icmp .lt off, 3)) (ht : (pc : Int) + off = (tgt : Int)) (hn : pc + 3 = n) (kt : x < y → EE l D cy d mc ms mi A Post cells slots tgt lv rest L Sh M J) (kf : ¬ x < y → EE l D cy d mc ms mi A Post cells slots n lv rest L Sh M J) : EE l D cy d mc ms mi A Post cells slots pc lv (.int y :: .int x :: rest) L Sh M J := by
  subst hn
  intro p e s m args below meth c H locs ls X hP hD hS hl
  exact lv_icmp_lt X.1 X.2.1 hd ht (fun h => kt h _ _ _ _ _ _ _ _ _ _ _ X hP hD hS hl) (fun h => kf h _ _ _ _ _ _ _ _ _ _ _ X hP hD hS hl)
theorem E_icmp_ge {x y : Int32} {off : Int} {tgt : Nat} (hd : decode mi.2.1 pc = .ok (.if_icmp .ge off, 3)) (ht : (pc : Int) + off = (tgt : Int)) (hn : pc + 3 = n) (kt : y ≤ x → EE l D cy d mc ms mi A Post cells slots tgt lv rest L Sh M J) (kf : ¬ y ≤ x → EE l D cy d mc ms mi A Post cells slots n lv rest L Sh M J) : EE l D cy d mc ms mi A Post cells slots pc lv (.int y :: .int x :: rest) L Sh M J := by
  subst hn
  intro p e s m args below meth c H locs ls X hP hD hS hl
  exact lv_icmp_ge X.1 X.2.1 hd ht (fun h => kt h _ _ _ _ _ _ _ _ _ _ _ X hP hD hS hl) (fun h => kf h _ _ _ _ _ _ _ _ _ _ _ X hP hD hS hl)
theorem E_icmp_gt {x y : Int32} {off : Int} {tgt : Nat} (hd : decode mi.2.1 pc = .ok (.if_icmp .gt off, 3)) (ht : (pc : Int) + off = (tgt : Int)) (hn : pc + 3 = n) (kt : y < x → EE l D cy d mc ms mi A Post cells slots tgt lv rest L Sh M J) (kf : ¬ y < x → EE l D cy d mc ms mi A Post cells slots n lv rest L Sh M J) : EE l D cy d mc ms mi A Post cells slots pc lv (.int y :: .int x :: rest) L Sh M J := by
  subst hn
  intro p e s m args below meth c H locs ls X hP hD hS hl
  exact lv_icmp_gt X.1 X.2.1 hd ht (fun h => kt h _ _ _ _ _ _ _ _ _ _ _ X hP hD hS hl) (fun h => kf h _ _ _ _ _ _ _ _ _ _ _ X hP hD hS hl)
theorem E_icmp_le {x y : Int32} {off : Int} {tgt : Nat} (hd : decode mi.2.1 pc = .ok (.if_icmp .le off, 3)) (ht : (pc : Int) + off = (tgt : Int)) (hn : pc + 3 = n) (kt : x ≤ y → EE l D cy d mc ms mi A Post cells slots tgt lv rest L Sh M J) (kf : ¬ x ≤ y → EE l D cy d mc ms mi A Post cells slots n lv rest L Sh M J) : EE l D cy d mc ms mi A Post cells slots pc lv (.int y :: .int x :: rest) L Sh M J := by
  subst hn
  intro p e s m args below meth c H locs ls X hP hD hS hl
  exact lv_icmp_le X.1 X.2.1 hd ht (fun h => kt h _ _ _ _ _ _ _ _ _ _ _ X hP hD hS hl) (fun h => kf h _ _ _ _ _ _ _ _ _ _ _ X hP hD hS hl)
theorem E_goto {off : Int} {tgt : Nat} (hd : decode mi.2.1 pc = .ok (.goto off, 3)) (ht : (pc : Int) + off = (tgt : Int)) (k : EE l D cy d mc ms mi A Post cells slots tgt lv rest L Sh M J) : EE l D cy d mc ms mi A Post cells slots pc lv rest L Sh M J := by
  intro p e s m args below meth c H locs ls X hP hD hS hl
  exact lv_goto X.1 X.2.1 hd ht (k _ _ _ _ _ _ _ _ _ _ _ X hP hD hS hl)
theorem E_tswO {dflt lo hi : Int} {offs : Array Int} {len : Nat} {x : Int32} {tgt : Nat} (hd : decode mi.2.1 pc = .ok (.tableswitch dflt lo hi offs, len)) (h : x.toInt < lo ∨ hi < x.toInt) (ht : (pc : Int) + dflt = (tgt : Int)) (k : EE l D cy d mc ms mi A Post cells slots tgt lv rest L Sh M J) : EE l D cy d mc ms mi A Post cells slots pc lv (.int x :: rest) L Sh M J := by
  intro p e s m args below meth c H locs ls X hP hD hS hl
  exact lv_tableOut X.1 X.2.1 hd h ht (k _ _ _ _ _ _ _ _ _ _ _ X hP hD hS hl)
theorem E_tswI {dflt lo hi off : Int} {offs : Array Int} {len : Nat} {x : Int32} {tgt : Nat} (hd : decode mi.2.1 pc = .ok (.tableswitch dflt lo hi offs, len)) (h1 : ¬ x.toInt < lo) (h2 : ¬ hi < x.toInt) (ho : offs[(x.toInt - lo).toNat]? = some off) (ht : (pc : Int) + off = (tgt : Int)) (k : EE l D cy d mc ms mi A Post cells slots tgt lv rest L Sh M J) : EE l D cy d mc ms mi A Post cells slots pc lv (.int x :: rest) L Sh M J := by
  intro p e s m args below meth c H locs ls X hP hD hS hl
  exact lv_tableIn X.1 X.2.1 hd h1 h2 ho ht (k _ _ _ _ _ _ _ _ _ _ _ X hP hD hS hl)
theorem E_lv {lv' : LV} (h : ∀ q ∈ lv', q ∈ lv) (k : EE l D cy d mc ms mi A Post cells slots pc lv' st L Sh M J) : EE l D cy d mc ms mi A Post cells slots pc lv st L Sh M J := by
  intro p e s m args below meth c H locs ls X hP hD hS hl
  exact k _ _ _ _ _ _ _ _ _ _ _ X hP hD hS (hl.mono h)
theorem E_pick {lv' : LV} (ks : List Nat) (h : lv_pick lv ks = lv') (k : EE l D cy d mc ms mi A Post cells slots pc lv' st L Sh M J) : EE l D cy d mc ms mi A Post cells slots pc lv st L Sh M J := by
  intro p e s m args below meth c H locs ls X hP hD hS hl
  exact k _ _ _ _ _ _ _ _ _ _ _ X hP hD hS (lv_sub hl ks h)
theorem fr_end {p : Program} {s : State} {m : MethodId} {args : Array Value} {meth : Method} {c : Code} {H : Heap} {locs : List Loc} {r : Option Value} (X : fr_X D cy mi A p s m args meth c) (hP : va_P D vwCl (va_pl L (fr_E cy Sh M J)) H) (hD : va_D A (va_pl L (fr_E cy Sh M J))) (hS : va_S A s.heap H locs) (hp : Post r L Sh M J) : ∀ t : State, t.heap = H → s.WarmedH t.vm → fr_Q D cy Post A args s (.returned r) t :=
  fun t ht hW => ⟨⟨r, L, Sh, M, J, rfl, hp, by rw [ht]; exact hP, va_K.moved hW.alike X.2.2.2.2.2.2.2.2.1, hD⟩, hS.F ht⟩
theorem E_iret {v : Int32} (hd : decode mi.2.1 pc = .ok (.ireturn, 1)) (hr : mi.2.2.2 = some .int) (hc : cells ≤ mc) (hs : slots ≤ ms) (hp : Post (some (.int v)) L Sh M J) : EE l D cy d mc ms mi A Post cells slots pc lv [.int v] L Sh M J := by
  intro p e s m args below meth c H locs ls X hP hD hS hl
  exact W.widen hc hs (W.iret X.1 X.2.1 (X.2.2.1.trans hr) (fr_end X hP hD hS hp) hS.2.2 hd X.2.2.2.2.2.2.1)
theorem E_zret {v : Int32} (hd : decode mi.2.1 pc = .ok (.ireturn, 1)) (hr : mi.2.2.2 = some .boolean) (hv : narrow .boolean (.int v) = .int v) (hc : cells ≤ mc) (hs : slots ≤ ms) (hp : Post (some (.int v)) L Sh M J) : EE l D cy d mc ms mi A Post cells slots pc lv [.int v] L Sh M J := by
  intro p e s m args below meth c H locs ls X hP hD hS hl
  exact W.widen hc hs (W.zret X.1 X.2.1 (X.2.2.1.trans hr) hv (fr_end X hP hD hS hp) hS.2.2 hd X.2.2.2.2.2.2.1)
theorem E_lret {v : Int64} (hd : decode mi.2.1 pc = .ok (.lreturn, 1)) (hr : mi.2.2.2 = some .long) (hc : cells ≤ mc) (hs : slots ≤ ms) (hp : Post (some (.long v)) L Sh M J) : EE l D cy d mc ms mi A Post cells slots pc lv [.long v] L Sh M J := by
  intro p e s m args below meth c H locs ls X hP hD hS hl
  exact W.widen hc hs (W.lret X.1 X.2.1 (X.2.2.1.trans hr) (fr_end X hP hD hS hp) hS.2.2 hd X.2.2.2.2.2.2.1)
theorem E_ret (hd : decode mi.2.1 pc = .ok (.return_, 1)) (hr : mi.2.2.2 = none) (hc : cells ≤ mc) (hs : slots ≤ ms) (hp : Post none L Sh M J) : EE l D cy d mc ms mi A Post cells slots pc lv [] L Sh M J := by
  intro p e s m args below meth c H locs ls X hP hD hS hl
  exact W.widen hc hs (W.vret X.1 X.2.1 (X.2.2.1.trans hr) (fr_end X hP hD hS hp) hS.2.2 hd X.2.2.2.2.2.2.1)
end ROWS
end
section
def fr_TT (ci : Nat) : u_T := match ci with
  | 0 => TX0
  | 1 => TX1
  | 2 => TX2
  | 3 => TX3
  | _ => TX4
def fr_RR (ci : Nat) : String := match ci with
  | 0 => RX0
  | 1 => RX1
  | 2 => RX2
  | 3 => RX3
  | _ => RX4
def fr_ty (ci : Nat) : Nat → FieldType := match ci with
  | 0 => tyX0
  | 1 => tyX1
  | 2 => tyX2
  | 3 => tyX3
  | _ => tyX4
theorem fr_cl {ci : Nat} (h : ci < 5) : vwCl[ci]? = some (fr_RR ci, fr_TT ci, fr_nf ci) := by
  match ci, h with
  | 0, _ => rfl
  | 1, _ => rfl
  | 2, _ => rfl
  | 3, _ => rfl
  | 4, _ => rfl
theorem fr_in0 : ∀ w ∈ u_ws RX0 TX0 13, w ∈ lw_tbl := by decide +kernel
theorem fr_in1 : ∀ w ∈ u_ws RX1 TX1 6, w ∈ lw_tbl := by decide +kernel
theorem fr_in2 : ∀ w ∈ u_ws RX2 TX2 4, w ∈ lw_tbl := by decide +kernel
theorem fr_in3 : ∀ w ∈ u_ws RX3 TX3 14, w ∈ lw_tbl := by decide +kernel
theorem fr_in4 : ∀ w ∈ u_ws RX4 TX4 36, w ∈ lw_tbl := by decide +kernel
theorem fr_gd (ci : Nat) : ∀ w ∈ u_ws (fr_RR ci) (fr_TT ci) (fr_nf ci), goodWord w = true := by
  intro w hw
  obtain ⟨k, -, rfl⟩ := List.mem_map.mp hw
  unfold u_lay
  split <;> rfl
theorem fr_lay {ci : Nat} (h : ci < 5) : ∀ w ∈ u_ws (fr_RR ci) (fr_TT ci) (fr_nf ci), w ∈ lwg := by
  intro w hw
  refine lwg_of ?_ (fr_gd ci w hw)
  match ci, h with
  | 0, _ => exact fr_in0 w hw
  | 1, _ => exact fr_in1 w hw
  | 2, _ => exact fr_in2 w hw
  | 3, _ => exact fr_in3 w hw
  | 4, _ => exact fr_in4 w hw
theorem fr_tyok {ci : Nat} (h : ci < 5) : ∀ k, k < fr_nf ci → parseFieldDescriptor (fr_TT ci k).2.2.1 = some (fr_ty ci k) := by
  match ci, h with
  | 0, _ => exact tyX0_ok
  | 1, _ => exact tyX1_ok
  | 2, _ => exact tyX2_ok
  | 3, _ => exact tyX3_ok
  | 4, _ => exact tyX4_ok
theorem fr_nmok {ci : Nat} (h : ci < 5) : ∀ a, a < fr_nf ci → ∀ b, b < fr_nf ci → a ≠ b → (fr_TT ci a).2.1 ≠ (fr_TT ci b).2.1 := by
  match ci, h with
  | 0, _ => exact nmX0
  | 1, _ => exact nmX1
  | 2, _ => exact nmX2
  | 3, _ => exact nmX3
  | 4, _ => exact nmX4
def fr_link (own : String) (idx ci k : Nat) : Prop := ci < 5 ∧ k < fr_nf ci ∧ (Cond.fieldLink own idx (fr_TT ci k).1 (fr_TT ci k).2.1 (fr_TT ci k).2.2.1 ∈ lwg ∨ ∃ host, (own, idx, (fr_TT ci k).1, (fr_TT ci k).2.1, (fr_TT ci k).2.2.1, host) ∈ fr_nF)
abbrev fr_at (L : List Nat) (Sh : Nat → Shp) (a : Nat) (x : Shp) : Prop := a ∈ L ∧ Sh a = x
theorem fr_place {cy : Nat → ClassId} {L : List Nat} {Sh : Nat → Shp} {M : Mem} {J : Mej} {a : Nat} (h : a ∈ L) : ∃ q : Nat, (va_pl L (fr_E cy Sh M J))[q]? = some (a, fr_E cy Sh M J a) := va_pl_get (X := []) h
section HEAP
variable {l : Launch} {D : va_G} {cy : Nat → ClassId} {d mc ms : Nat} {mi : MI} {A : Nat → Prop} {Post : PST} {cells slots pc n : Nat} {lv : LV} {st rest : List Value} {L : List Nat} {Sh : Nat → Shp} {M : Mem} {J : Mej}
theorem E_getV {a ci k idx : Nat} {rf : Nat → Option Nat} {v : Value} (hd : decode mi.2.1 pc = .ok (.getfield idx, 3)) (hw : fr_link mi.1.cls idx ci k) (ha : fr_at L Sh a (.inl (ci, rf))) (hv : (if fr_isR ci k = true then va_rf (rf k) else .int (M a k)) = v) (hn : pc + 3 = n) (K : EE l D cy d mc ms mi A Post cells slots n lv (v :: rest) L Sh M J) : EE l D cy d mc ms mi A Post cells slots pc lv (.ref a :: rest) L Sh M J := by
  subst hn
  intro p e s m args below meth c H locs ls X hP hD hS hl
  obtain ⟨q, hq⟩ := fr_place (cy := cy) (Sh := Sh) (M := M) (J := J) ha.1
  rw [fr_E_obj ha.2] at hq
  have hg := fr_F_get rf (M a) hw.2.1
  rw [hv] at hg
  have K' := K _ e _ _ _ below _ _ _ _ _ X hP hD hS hl
  rcases hw.2.2 with hk | ⟨host, hk⟩
  · exact va_get (Ts := fr_ws mi) X.1 X.2.1 X.2.2.2.2.1 (fun w h => lwg_ws mi (fr_lay hw.1 w h)) X.2.2.2.2.2.1 X.2.2.2.2.2.2.2.2.1 hP q hq (fr_cl hw.1) k hw.2.1 (X.2.2.2.2.1 _ (lwg_ws mi hk)) (fun _ h => h) hg hd K'
  · exact va_getN (Ts := fr_ws mi) X.1 X.2.1 X.2.2.2.2.1 (fun w h => lwg_ws mi (fr_lay hw.1 w h)) X.2.2.2.2.2.1 X.2.2.2.2.2.2.2.2.1 hP q hq (fr_cl hw.1) k hw.2.1 (va_Nw.use rfl (X.2.2.2.2.2.2.2.2.2.1.1 _ hk)) (fun _ h => h) hg hd K'
theorem E_getI {a ci k idx : Nat} {rf : Nat → Option Nat} {v : Int32} (hd : decode mi.2.1 pc = .ok (.getfield idx, 3)) (hw : fr_link mi.1.cls idx ci k) (ha : fr_at L Sh a (.inl (ci, rf))) (hi : fr_isR ci k = false) (hv : M a k = v) (hn : pc + 3 = n) (K : EE l D cy d mc ms mi A Post cells slots n lv (.int v :: rest) L Sh M J) : EE l D cy d mc ms mi A Post cells slots pc lv (.ref a :: rest) L Sh M J := E_getV hd hw ha (by rw [hi, hv]; rfl) hn K
theorem E_getR {a ci k idx r : Nat} {rf : Nat → Option Nat} (hd : decode mi.2.1 pc = .ok (.getfield idx, 3)) (hw : fr_link mi.1.cls idx ci k) (ha : fr_at L Sh a (.inl (ci, rf))) (hi : fr_isR ci k = true) (hv : rf k = some r) (hn : pc + 3 = n) (K : EE l D cy d mc ms mi A Post cells slots n lv (.ref r :: rest) L Sh M J) : EE l D cy d mc ms mi A Post cells slots pc lv (.ref a :: rest) L Sh M J := E_getV hd hw ha (by rw [hi, hv]; rfl) hn K
theorem E_putV {a ci k idx : Nat} {rf : Nat → Option Nat} {v : Int32} {ty : FieldType} (hd : decode mi.2.1 pc = .ok (.putfield idx, 3)) (hw : fr_link mi.1.cls idx ci k) (ha : fr_at L Sh a (.inl (ci, rf))) (hi : fr_isR ci k = false) (hf : (fr_TT ci k).2.2.2 = false) (hty : fr_ty ci k = ty) (hv1 : narrow ty (.int v) = .int v) (hv2 : fits ty (.int v) = true) (hn : pc + 3 = n) (K : EE l D cy d mc ms mi A Post cells slots n lv rest L Sh (sM M a k v) J) : EE l D cy d mc ms mi A Post cells slots pc lv (.int v :: .ref a :: rest) L Sh M J := by
  subst hn
  subst hty
  intro p e s m args below meth c H locs ls X hP hD hS hl
  obtain ⟨q, hq⟩ := fr_place (cy := cy) (Sh := Sh) (M := M) (J := J) ha.1
  have hset : ∀ e : va_E, (va_pl L (fr_E cy Sh M J)).set q (a, e) = va_pl L (va_up (fr_E cy Sh M J) a e) := fun e => va_pl_set (X := []) hD ha.1 hq
  rw [fr_E_obj ha.2] at hq
  have hP2 : va_P D vwCl (va_pl L (fr_E cy Sh M J)) H := hP
  rcases hw.2.2 with hk | ⟨host, hk⟩
  · refine va_put (Ts := fr_ws mi) X.1 X.2.1 X.2.2.2.2.1 (fun w h => lwg_ws mi (fr_lay hw.1 w h)) (fr_ty ci) (fr_tyok hw.1) (fr_nmok hw.1) X.2.2.2.2.2.1 X.2.2.2.2.2.2.2.2.1 hP hD hS q hq (fr_cl hw.1) k hw.2.1 (X.2.2.2.2.1 _ (lwg_ws mi hk)) (fun _ h => h) hf (fr_tyok hw.1 k hw.2.1) hv1 hv2 (by rw [fr_F_len]; exact hw.2.1) hd (fun H1 locs1 hP1 hD1 hS1 => ?_)
    rw [hset, fr_U_obj ha.2 hi] at hP1 hD1
    exact K _ _ _ _ _ _ _ _ _ _ _ X hP1 hD1 hS1 hl
  · refine va_putN (Ts := fr_ws mi) X.1 X.2.1 X.2.2.2.2.1 (fun w h => lwg_ws mi (fr_lay hw.1 w h)) (fr_ty ci) (fr_tyok hw.1) (fr_nmok hw.1) X.2.2.2.2.2.1 X.2.2.2.2.2.2.2.2.1 hP hD hS q hq (fr_cl hw.1) k hw.2.1 (va_Nw.use rfl (X.2.2.2.2.2.2.2.2.2.1.1 _ hk)) (fun _ h => h) hf (fr_tyok hw.1 k hw.2.1) hv1 hv2 (by rw [fr_F_len]; exact hw.2.1) hd (fun H1 locs1 hP1 hD1 hS1 => ?_)
    rw [hset, fr_U_obj ha.2 hi] at hP1 hD1
    exact K _ _ _ _ _ _ _ _ _ _ _ X hP1 hD1 hS1 hl
theorem E_putI {a ci k idx : Nat} {rf : Nat → Option Nat} {v : Int32} (hd : decode mi.2.1 pc = .ok (.putfield idx, 3)) (hw : fr_link mi.1.cls idx ci k) (ha : fr_at L Sh a (.inl (ci, rf))) (hi : fr_isR ci k = false) (hf : (fr_TT ci k).2.2.2 = false) (hty : fr_ty ci k = .int) (hn : pc + 3 = n) (K : EE l D cy d mc ms mi A Post cells slots n lv rest L Sh (sM M a k v) J) : EE l D cy d mc ms mi A Post cells slots pc lv (.int v :: .ref a :: rest) L Sh M J := E_putV hd hw ha hi hf hty rfl rfl hn K
theorem fr_bool {v : Int32} (h : v = 0 ∨ v = 1) : narrow .boolean (.int v) = .int v ∧ fits .boolean (.int v) = true := by
  rcases h with rfl | rfl <;> exact ⟨rfl, rfl⟩
theorem E_putZ {a ci k idx : Nat} {rf : Nat → Option Nat} {v : Int32} (hd : decode mi.2.1 pc = .ok (.putfield idx, 3)) (hw : fr_link mi.1.cls idx ci k) (ha : fr_at L Sh a (.inl (ci, rf))) (hi : fr_isR ci k = false) (hf : (fr_TT ci k).2.2.2 = false) (hty : fr_ty ci k = .boolean) (hv : v = 0 ∨ v = 1) (hn : pc + 3 = n) (K : EE l D cy d mc ms mi A Post cells slots n lv rest L Sh (sM M a k v) J) : EE l D cy d mc ms mi A Post cells slots pc lv (.int v :: .ref a :: rest) L Sh M J := E_putV hd hw ha hi hf hty (fr_bool hv).1 (fr_bool hv).2 hn K
/-- a final reference, in a constructor -/
theorem E_putR {a ci k idx r : Nat} {rf : Nat → Option Nat} {ty : FieldType} (hd : decode mi.2.1 pc = .ok (.putfield idx, 3)) (hw : ci < 5 ∧ k < fr_nf ci ∧ Cond.fieldLink mi.1.cls idx (fr_TT ci k).1 (fr_TT ci k).2.1 (fr_TT ci k).2.2.1 ∈ lwg) (ha : fr_at L Sh a (.inl (ci, rf))) (hi : fr_isR ci k = true) (hf : (fr_TT ci k).2.2.2 = true) (hm : mi.1.name = "<init>") (hdc : (fr_TT ci k).1 = mi.1.cls) (hty : fr_ty ci k = ty) (hv1 : narrow ty (.ref r) = .ref r) (hv2 : fits ty (.ref r) = true) (hn : pc + 3 = n) (K : EE l D cy d mc ms mi A Post cells slots n lv rest L (sR Sh a (.inl (ci, va_up rf k (some r)))) M J) : EE l D cy d mc ms mi A Post cells slots pc lv (.ref r :: .ref a :: rest) L Sh M J := by
  subst hn
  subst hty
  intro p e s m args below meth c H locs ls X hP hD hS hl
  obtain ⟨q, hq⟩ := fr_place (cy := cy) (Sh := Sh) (M := M) (J := J) ha.1
  have hset : ∀ e : va_E, (va_pl L (fr_E cy Sh M J)).set q (a, e) = va_pl L (va_up (fr_E cy Sh M J) a e) := fun e => va_pl_set (X := []) hD ha.1 hq
  rw [fr_E_obj ha.2] at hq
  refine va_putF (Ts := fr_ws mi) (v := .ref r) X.1 X.2.1 X.2.2.2.2.1 (fun w h => lwg_ws mi (fr_lay hw.1 w h)) (fr_ty ci) (fr_tyok hw.1) (fr_nmok hw.1) X.2.2.2.2.2.1 X.2.2.2.2.2.2.2.2.1 hP hD hS q hq (fr_cl hw.1) k hw.2.1 (X.2.2.2.2.1 _ (lwg_ws mi hw.2.2)) (fun _ h => h) hf (X.2.2.2.2.2.2.2.1.trans hm) hdc (fr_tyok hw.1 k hw.2.1) hv1 hv2 (by rw [fr_F_len]; exact hw.2.1) hd (fun H1 locs1 hP1 hD1 hS1 => ?_)
  have e2 := fr_U_ref (cy := cy) (Sh := Sh) (M := M) (J := J) (v := some r) ha.2 hi
  rw [hset] at hP1 hD1
  rw [show (Value.ref r) = va_rf (some r) from rfl, e2] at hP1 hD1
  exact K _ _ _ _ _ _ _ _ _ _ _ X hP1 hD1 hS1 hl
theorem fr_vin {j N : Nat} (h : j < N) (hN : N < 2 ^ 31) : vp_in (nI j) N ∧ (nI j).toNatClampNeg = j := ⟨vp_in_nI h hN, nI_clamp (by omega)⟩
theorem E_iald {a N j : Nat} {v : Int32} (hd : decode mi.2.1 pc = .ok (.iaload, 1)) (ha : fr_at L Sh a (.inr (.inl (0, N)))) (hj : j < N) (hN : N < 2 ^ 31) (hv : M a j = v) (hn : pc + 1 = n) (K : EE l D cy d mc ms mi A Post cells slots n lv (.int v :: rest) L Sh M J) : EE l D cy d mc ms mi A Post cells slots pc lv (.int (nI j) :: .ref a :: rest) L Sh M J := by
  subst hn
  subst hv
  intro p e s m args below meth c H locs ls X hP hD hS hl
  obtain ⟨q, hq⟩ := fr_place (cy := cy) (Sh := Sh) (M := M) (J := J) ha.1
  rw [fr_E_i ha.2 (by decide)] at hq
  obtain ⟨h1, h2⟩ := fr_vin hj hN
  refine va_iald X.1 X.2.1 X.2.2.2.2.2.2.2.2.1 hP q 0 hq rfl h1 hd ?_
  rw [h2]
  exact K _ _ _ _ _ _ _ _ _ _ _ X hP hD hS hl
theorem E_zald {a N j : Nat} {v : Int32} (hd : decode mi.2.1 pc = .ok (.baload, 1)) (ha : fr_at L Sh a (.inr (.inl (1, N)))) (hj : j < N) (hN : N < 2 ^ 31) (hv : M a j = v) (hn : pc + 1 = n) (K : EE l D cy d mc ms mi A Post cells slots n lv (.int v :: rest) L Sh M J) : EE l D cy d mc ms mi A Post cells slots pc lv (.int (nI j) :: .ref a :: rest) L Sh M J := by
  subst hn
  subst hv
  intro p e s m args below meth c H locs ls X hP hD hS hl
  obtain ⟨q, hq⟩ := fr_place (cy := cy) (Sh := Sh) (M := M) (J := J) ha.1
  rw [fr_E_i ha.2 (by decide)] at hq
  obtain ⟨h1, h2⟩ := fr_vin hj hN
  refine va_zald X.1 X.2.1 X.2.2.2.2.2.2.2.2.1 hP q 1 hq rfl h1 hd ?_
  rw [h2]
  exact K _ _ _ _ _ _ _ _ _ _ _ X hP hD hS hl
theorem E_lald {a N j : Nat} {v : Int64} (hd : decode mi.2.1 pc = .ok (.laload, 1)) (ha : fr_at L Sh a (.inr (.inl (2, N)))) (hj : j < N) (hN : N < 2 ^ 31) (hv : J a j = v) (hn : pc + 1 = n) (K : EE l D cy d mc ms mi A Post cells slots n lv (.long v :: rest) L Sh M J) : EE l D cy d mc ms mi A Post cells slots pc lv (.int (nI j) :: .ref a :: rest) L Sh M J := by
  subst hn
  subst hv
  intro p e s m args below meth c H locs ls X hP hD hS hl
  obtain ⟨q, hq⟩ := fr_place (cy := cy) (Sh := Sh) (M := M) (J := J) ha.1
  rw [fr_E_j ha.2] at hq
  obtain ⟨h1, h2⟩ := fr_vin hj hN
  refine va_lald X.1 X.2.1 X.2.2.2.2.2.2.2.2.1 hP q 2 hq rfl h1 hd ?_
  rw [h2]
  exact K _ _ _ _ _ _ _ _ _ _ _ X hP hD hS hl
theorem E_aald {a N j r : Nat} {rf : Nat → Option Nat} (hd : decode mi.2.1 pc = .ok (.aaload, 1)) (ha : fr_at L Sh a (.inr (.inr (N, rf)))) (hj : j < N) (hN : N < 2 ^ 31) (hv : rf j = some r) (hn : pc + 1 = n) (K : EE l D cy d mc ms mi A Post cells slots n lv (.ref r :: rest) L Sh M J) : EE l D cy d mc ms mi A Post cells slots pc lv (.int (nI j) :: .ref a :: rest) L Sh M J := by
  subst hn
  intro p e s m args below meth c H locs ls X hP hD hS hl
  obtain ⟨q, hq⟩ := fr_place (cy := cy) (Sh := Sh) (M := M) (J := J) ha.1
  rw [fr_E_a ha.2] at hq
  obtain ⟨h1, h2⟩ := fr_vin hj hN
  refine va_aldq X.1 X.2.1 X.2.2.2.2.2.2.2.2.1 hP q 3 hq rfl h1 hd ?_
  rw [h2, hv]
  exact K _ _ _ _ _ _ _ _ _ _ _ X hP hD hS hl
theorem E_iast {a N j : Nat} {v : Int32} (hd : decode mi.2.1 pc = .ok (.iastore, 1)) (ha : fr_at L Sh a (.inr (.inl (0, N)))) (hj : j < N) (hN : N < 2 ^ 31) (hn : pc + 1 = n) (K : EE l D cy d mc ms mi A Post cells slots n lv rest L Sh (sM M a j v) J) : EE l D cy d mc ms mi A Post cells slots pc lv (.int v :: .int (nI j) :: .ref a :: rest) L Sh M J := by
  subst hn
  intro p e s m args below meth c H locs ls X hP hD hS hl
  obtain ⟨q, hq⟩ := fr_place (cy := cy) (Sh := Sh) (M := M) (J := J) ha.1
  have hset : ∀ e : va_E, (va_pl L (fr_E cy Sh M J)).set q (a, e) = va_pl L (va_up (fr_E cy Sh M J) a e) := fun e => va_pl_set (X := []) hD ha.1 hq
  rw [fr_E_i ha.2 (by decide)] at hq
  obtain ⟨h1, h2⟩ := fr_vin hj hN
  refine va_iast X.1 X.2.1 X.2.2.2.2.2.2.2.2.1 hP hD hS q 0 hq rfl h1 hd (fun H1 locs1 hP1 hD1 hS1 => ?_)
  rw [h2, hset, fr_U_i ha.2 (by decide)] at hP1 hD1
  exact K _ _ _ _ _ _ _ _ _ _ _ X hP1 hD1 hS1 hl
theorem E_zast {a N j : Nat} {v : Int32} (hd : decode mi.2.1 pc = .ok (.bastore, 1)) (ha : fr_at L Sh a (.inr (.inl (1, N)))) (hj : j < N) (hN : N < 2 ^ 31) (hv : v = 0 ∨ v = 1) (hn : pc + 1 = n) (K : EE l D cy d mc ms mi A Post cells slots n lv rest L Sh (sM M a j v) J) : EE l D cy d mc ms mi A Post cells slots pc lv (.int v :: .int (nI j) :: .ref a :: rest) L Sh M J := by
  subst hn
  intro p e s m args below meth c H locs ls X hP hD hS hl
  obtain ⟨q, hq⟩ := fr_place (cy := cy) (Sh := Sh) (M := M) (J := J) ha.1
  have hset : ∀ e : va_E, (va_pl L (fr_E cy Sh M J)).set q (a, e) = va_pl L (va_up (fr_E cy Sh M J) a e) := fun e => va_pl_set (X := []) hD ha.1 hq
  rw [fr_E_i ha.2 (by decide)] at hq
  obtain ⟨h1, h2⟩ := fr_vin hj hN
  have hz : vp_nar .boolean v = v := by rcases hv with rfl | rfl <;> rfl
  refine va_zast X.1 X.2.1 X.2.2.2.2.2.2.2.2.1 hP hD hS q 1 hq rfl h1 hd (fun H1 locs1 hP1 hD1 hS1 => ?_)
  rw [h2, hz, hset, fr_U_i ha.2 (by decide)] at hP1 hD1
  exact K _ _ _ _ _ _ _ _ _ _ _ X hP1 hD1 hS1 hl
theorem E_last {a N j : Nat} {v : Int64} (hd : decode mi.2.1 pc = .ok (.lastore, 1)) (ha : fr_at L Sh a (.inr (.inl (2, N)))) (hj : j < N) (hN : N < 2 ^ 31) (hn : pc + 1 = n) (K : EE l D cy d mc ms mi A Post cells slots n lv rest L Sh M (sJ J a j v)) : EE l D cy d mc ms mi A Post cells slots pc lv (.long v :: .int (nI j) :: .ref a :: rest) L Sh M J := by
  subst hn
  intro p e s m args below meth c H locs ls X hP hD hS hl
  obtain ⟨q, hq⟩ := fr_place (cy := cy) (Sh := Sh) (M := M) (J := J) ha.1
  have hset : ∀ e : va_E, (va_pl L (fr_E cy Sh M J)).set q (a, e) = va_pl L (va_up (fr_E cy Sh M J) a e) := fun e => va_pl_set (X := []) hD ha.1 hq
  rw [fr_E_j ha.2] at hq
  obtain ⟨h1, h2⟩ := fr_vin hj hN
  refine va_last X.1 X.2.1 X.2.2.2.2.2.2.2.2.1 hP hD hS q 2 hq rfl h1 hd (fun H1 locs1 hP1 hD1 hS1 => ?_)
  rw [h2, hset, fr_U_j ha.2] at hP1 hD1
  exact K _ _ _ _ _ _ _ _ _ _ _ X hP1 hD1 hS1 hl
theorem E_alen {a N : Nat} (hd : decode mi.2.1 pc = .ok (.arraylength, 1)) (ha : fr_at L Sh a (.inr (.inl (2, N)))) (hn : pc + 1 = n) (K : EE l D cy d mc ms mi A Post cells slots n lv (.int (nI N) :: rest) L Sh M J) : EE l D cy d mc ms mi A Post cells slots pc lv (.ref a :: rest) L Sh M J := by
  subst hn
  intro p e s m args below meth c H locs ls X hP hD hS hl
  obtain ⟨q, hq⟩ := fr_place (cy := cy) (Sh := Sh) (M := M) (J := J) ha.1
  rw [fr_E_j ha.2] at hq
  exact va_alen X.1 X.2.1 X.2.2.2.2.2.2.2.2.1 hP q 2 hq rfl rfl hd (K _ _ _ _ _ _ _ _ _ _ _ X hP hD hS hl)
/-- behind a call: any answer -/
theorem fr_call {p : Program} {e : Env} {R : Room} {s : State} {m : MethodId} {args : Array Value} {below : List Frame} {meth : Method} {c : Code} {H H0 : Heap} {locs : List Loc} {mc1 ms1 : Nat} {ls : Array Slot} {st0 : List Value} {Post1 : PST} {A0 A1 : Nat → Prop} {a : Array Value} {free : Addr → Prop} {Q : State → Prop} (hr : va_Run p l e R s m args below meth c H locs cells slots mc1 ms1 (F0 m pc ls st0) rest (fr_Q D cy Post1 A1 a) free) (hS : va_S A0 H0 H locs) (hA : ∀ q, q < H.size → A1 q → A0 q) (hf : ∀ q, free q → A0 q)
    (kk : ∀ (r : Option Value) (L1 : List Nat) (Sh1 : Nat → Shp) (M1 : Mem) (J1 : Mej) (t : State) (H1 : Heap) (locs1 : List Loc), t.heap = H1 → s.vm.Alike t.vm → Post1 r L1 Sh1 M1 J1 → va_P D vwCl (va_pl L1 (fr_E cy Sh1 M1 J1)) H1 → va_D A1 (va_pl L1 (fr_E cy Sh1 M1 J1)) → H.size ≤ H1.size → (∀ q : Nat, q < H.size → ¬ A1 q → H1[q]? = H[q]?) → va_S A0 H0 H1 locs1 → W p l e R s m args below meth c H1 locs1 (cells + mc1) (slots + ms1) Q (F0 m (pc + 3) ls (r.toList ++ rest))) : W p l e R s m args below meth c H locs cells slots Q (F0 m pc ls st0) := by
  intro T hT X
  obtain ⟨v, st₀, t, T', L, h0, X', hL, e1, e2, ⟨⟨r, L1, Sh1, M1, J1, hv, hp, hb, hk1, hd1⟩, hz, hk⟩, st⟩ := hr T hT X
  cases hv
  rw [h0] at hz hk
  obtain ⟨t2, a1, b1⟩ := kk v L1 Sh1 M1 J1 t T'.heap (locs ++ L) e1.symm (by rw [← e2]; exact X'.warmed.alike) hp (by rw [e1]; exact hb) hd1 (by rw [e1]; exact hz) (fun q h1 h2 => by rw [e1]; exact hk q h1 h2)
    ⟨Nat.le_trans hS.1 (by rw [e1]; exact hz), fun q h1 h2 => by rw [e1, hk q (Nat.lt_of_lt_of_le h1 hS.1) (fun z => h2 (hA q (Nat.lt_of_lt_of_le h1 hS.1) z))]; exact hS.2.1 q h1 h2, fun q hq => by
      rcases List.mem_append.mp hq with h | h
      · exact hS.2.2 q h
      · exact hf _ (hL q h)⟩ T' rfl X'
  exact ⟨t2, st t2 a1, b1⟩
theorem fr_blind {args : List Value} {sz : Nat} : FrameBlind (fr_Pc D cy args L Sh M J sz) := by
  intro a U g mk q
  obtain ⟨q0, q1, qP, qK, qD, qN⟩ := q
  exact ⟨q0, q1, qP, va_K.moved (u := U) (U := U.calling g mk a) (Vm.Alike.refl U.vm) qK, qD, fr_NW.same (s := U) (U := U.calling g mk a) rfl qN⟩
theorem fr_free {H0 H : Heap} {locs : List Loc} {ws : va_W} (hD : va_D A ws) (hS : va_S A H0 H locs) (hA : ∀ q, H0.size ≤ q → A q) : ∀ q, va_A ws H.size q → A q := by
  intro q h
  rcases h with ⟨k, e, h⟩ | h
  · exact hD.2 k _ h
  · exact hA q (Nat.le_trans hS.1 h)
def fr_mlink (own : String) (idx : Nat) (mj : MI) (C : String) (na : Nat) : Prop := Cond.methodLink own idx mj.1 ∈ lwg ∧ Cond.instanceMethod mj.1 ∈ lwg ∧ Cond.selects C mj.1 mj.1 ∈ lwg ∧ Cond.initialized C ∈ lwg ∧ Cond.code mj.1 mj.2.1 mj.2.2.1 mj.2.2.2 ∈ lwg ∧ (mj.1.cls = C ∧ mj.1.cls ≠ "java/lang/invoke/MethodHandle" ∧ mj.1.cls ≠ "java/lang/invoke/VarHandle" ∧ (parseMethodDescriptor mj.1.desc).map (fun d => d.parameters.length) = some na) ∧ mj.2.2.1 ≤ 80
def fr_slink (own : String) (idx : Nat) (mj : MI) (na : Nat) : Prop := Cond.methodLink own idx mj.1 ∈ lwg ∧ Cond.static mj.1 ∈ lwg ∧ Cond.initialized mj.1.cls ∈ lwg ∧ Cond.code mj.1 mj.2.1 mj.2.2.1 mj.2.2.2 ∈ lwg ∧ (mj.1.cls ≠ "java/lang/invoke/MethodHandle" ∧ mj.1.cls ≠ "java/lang/invoke/VarHandle" ∧ (parseMethodDescriptor mj.1.desc).map (fun d => d.parameters.length) = some na) ∧ mj.2.2.1 ≤ 80
def fr_ilink (own : String) (idx : Nat) (mj : MI) (na : Nat) : Prop := (Cond.methodLink own idx mj.1 ∈ lwg ∨ ∃ host, (own, idx, mj.1, host) ∈ fr_nM) ∧ Cond.instanceMethod mj.1 ∈ lwg ∧ Cond.initialized mj.1.cls ∈ lwg ∧ Cond.code mj.1 mj.2.1 mj.2.2.1 mj.2.2.2 ∈ lwg ∧ mj.1.name = "<init>" ∧ mj.2.2.2 = none ∧ (mj.1.cls ≠ "java/lang/invoke/MethodHandle" ∧ mj.1.cls ≠ "java/lang/invoke/VarHandle" ∧ (parseMethodDescriptor mj.1.desc).map (fun d => d.parameters.length) = some na) ∧ mj.2.2.1 ≤ 80
theorem fr_goodV {own : String} {idx na : Nat} {mj : MI} {C : String} (h : fr_mlink own idx mj C na) : GoodIn (fr_ws mi) (wsV own idx C mj.1 (fr_ws mj)) := by
  intro w hw
  have h2 : w ∈ lwg := by
    rcases List.mem_append.mp hw with e | e
    · simp only [List.mem_cons, List.not_mem_nil, or_false] at e
      rcases e with rfl | rfl | rfl | rfl
      · exact h.1
      · exact h.2.1
      · exact h.2.2.1
      · exact h.2.2.2.1
    · rcases List.mem_cons.mp e with e | e
      · rw [e]; exact h.2.2.2.2.1
      · exact e
  exact ⟨lwg_ws mi h2, good_of_word (lwg_good h2)⟩
theorem fr_goodS {own : String} {idx na : Nat} {mj : MI} (h : fr_slink own idx mj na) : GoodIn (fr_ws mi) (va_wsS own idx mj.1 (fr_ws mj)) := by
  intro w hw
  have h2 : w ∈ lwg := by
    rcases List.mem_append.mp hw with e | e
    · simp only [List.mem_cons, List.not_mem_nil, or_false] at e
      rcases e with rfl | rfl | rfl
      · exact h.1
      · exact h.2.1
      · exact h.2.2.1
    · rcases List.mem_cons.mp e with e | e
      · rw [e]; exact h.2.2.2.1
      · exact e
  exact ⟨lwg_ws mi h2, good_of_word (lwg_good h2)⟩
theorem fr_roomok {d1 mc1 ms1 k : Nat} (h : d1 + 1 ≤ d) (hk : k ≤ 80) : (fr_rm d1 mc1 ms1).frames + 1 ≤ (fr_rm d mc ms).frames ∧ 8 + (k + 11) + (fr_rm d1 mc1 ms1).locals ≤ (fr_rm d mc ms).locals := by
  refine ⟨h, ?_⟩
  show 8 + (k + 11) + 100 * d1 ≤ 100 * d
  omega
/-- a call of a method of an object -/
theorem E_callV {mj : MI} {b ci idx na d1 mc1 ms1 : Nat} {rf : Nat → Option Nat} (As : List Value) {Post1 : PST} (hd : decode mi.2.1 pc = .ok (.invokevirtual idx, 3)) (hw : fr_mlink mi.1.cls idx mj (fr_RR ci) na) (hci : ci < 5) (hb : fr_at L Sh b (.inl (ci, rf))) (hst : As.reverse ++ .ref b :: rest = st) (hlen : As.length = na) (hroom : (rest.map fun v => v.category).sum ≤ 8)
    (hM : Cn l D cy d1 mc1 ms1 mj (.ref b :: As) L Sh M J Post1) (hd1 : d1 + 1 ≤ d) (hc : cells + mc1 ≤ mc) (hs : slots + ms1 ≤ ms) (hn : pc + 3 = n)
    (K : ∀ r L1 Sh1 M1 J1, Post1 r L1 Sh1 M1 J1 → EE l D cy d mc ms mi A Post (cells + mc1) (slots + ms1) n lv (r.toList ++ rest) L1 Sh1 M1 J1) : EE l D cy d mc ms mi A Post cells slots pc lv st L Sh M J := by
  subst hn
  subst hst
  intro p e s m args below meth c H locs ls X hP hD hS hl
  obtain ⟨q, hq⟩ := fr_place (cy := cy) (Sh := Sh) (M := M) (J := J) hb.1
  rw [fr_E_obj hb.2] at hq
  have hF := fr_free hD hS X.2.2.2.2.2.2.2.2.2.2
  refine fr_call (va_runV (As := As) (rest := rest) (Ts := fr_ws mi) ⟨X.1, X.2.1, X.2.2.2.1, X.2.2.2.2.2.1, X.2.2.2.2.1⟩ (hM H.size) (cwV na X.2.2.2.2.1 (fr_goodV hw) rfl rfl rfl hw.2.2.2.2.2.1 (fr_roomok hd1 hw.2.2.2.2.2.2)) ⟨fr_blind, va_recv X.2.2.2.2.2.2.2.2.1 hP (fr_cl hci) hq, fun U hU hW => ⟨rfl, by rw [hU], by rw [hU]; exact hP, va_K.moved hW.alike X.2.2.2.2.2.2.2.2.1, hD.weaken (fun _ _ _ _ => trivial), fr_NW.warm hW X.2.2.2.2.2.2.2.2.2.1⟩⟩ rfl hlen hl.1 rfl (lv_room hroom) hd ⟨hc, hs⟩) hS (fun q _ h => hF q h) hF (fun r L1 Sh1 M1 J1 t H1 locs1 ht hvm hp1 hP1 hD1 hz1 hk1 hS1 => ?_)
  exact K r L1 Sh1 M1 J1 hp1 _ _ _ _ _ _ _ _ _ _ _ X hP1 (hD1.weaken (fun k q _ h => hF q.1 h)) hS1 hl
/-- a call of a static method -/
theorem E_callS {mj : MI} {idx na d1 mc1 ms1 : Nat} (As : List Value) {Post1 : PST} (hd : decode mi.2.1 pc = .ok (.invokestatic idx, 3)) (hw : fr_slink mi.1.cls idx mj na) (hst : As.reverse ++ rest = st) (hlen : As.length = na) (hroom : (rest.map fun v => v.category).sum ≤ 8)
    (hM : Cn l D cy d1 mc1 ms1 mj As L Sh M J Post1) (hd1 : d1 + 1 ≤ d) (hc : cells + mc1 ≤ mc) (hs : slots + ms1 ≤ ms) (hn : pc + 3 = n)
    (K : ∀ r L1 Sh1 M1 J1, Post1 r L1 Sh1 M1 J1 → EE l D cy d mc ms mi A Post (cells + mc1) (slots + ms1) n lv (r.toList ++ rest) L1 Sh1 M1 J1) : EE l D cy d mc ms mi A Post cells slots pc lv st L Sh M J := by
  subst hn
  subst hst
  intro p e s m args below meth c H locs ls X hP hD hS hl
  have hF := fr_free hD hS X.2.2.2.2.2.2.2.2.2.2
  refine fr_call (va_runS (As := As) (rest := rest) (Ts := fr_ws mi) ⟨X.1, X.2.1, X.2.2.2.1, X.2.2.2.2.2.1, X.2.2.2.2.1⟩ (hM H.size) (va_cwS na X.2.2.2.2.1 (fr_goodS hw) rfl rfl rfl hw.2.2.2.2.1 (fr_roomok hd1 hw.2.2.2.2.2)) ⟨fr_blind, fun U hU hW => ⟨rfl, by rw [hU], by rw [hU]; exact hP, va_K.moved hW.alike X.2.2.2.2.2.2.2.2.1, hD.weaken (fun _ _ _ _ => trivial), fr_NW.warm hW X.2.2.2.2.2.2.2.2.2.1⟩⟩ rfl hlen hl.1 rfl (lv_room hroom) hd ⟨hc, hs⟩) hS (fun q _ h => hF q h) hF (fun r L1 Sh1 M1 J1 t H1 locs1 ht hvm hp1 hP1 hD1 hz1 hk1 hS1 => ?_)
  exact K r L1 Sh1 M1 J1 hp1 _ _ _ _ _ _ _ _ _ _ _ X hP1 (hD1.weaken (fun k q _ h => hF q.1 h)) hS1 hl
/-- a call of a constructor -/
theorem E_callI {mj : MI} {b idx na d1 mc1 ms1 : Nat} (As : List Value) {Post1 : PST} (hd : decode mi.2.1 pc = .ok (.invokespecial idx, 3)) (hw : fr_ilink mi.1.cls idx mj na) (hst : As.reverse ++ .ref b :: rest = st) (hlen : As.length = na) (hroom : (rest.map fun v => v.category).sum ≤ 8)
    (hM : Cn l D cy d1 mc1 ms1 mj (.ref b :: As) L Sh M J Post1) (hd1 : d1 + 1 ≤ d) (hc : cells + mc1 ≤ mc) (hs : slots + ms1 ≤ ms) (hn : pc + 3 = n)
    (K : ∀ r L1 Sh1 M1 J1, Post1 r L1 Sh1 M1 J1 → EE l D cy d mc ms mi A Post (cells + mc1) (slots + ms1) n lv (r.toList ++ rest) L1 Sh1 M1 J1) : EE l D cy d mc ms mi A Post cells slots pc lv st L Sh M J := by
  subst hn
  subst hst
  intro p e s m args below meth c H locs ls X hP hD hS hl
  have hF := fr_free hD hS X.2.2.2.2.2.2.2.2.2.2
  obtain ⟨hlk, hin, hini, hcode, hnm, hret, hds, h80⟩ := hw
  have hPre : PreS s H (fr_Pc D cy (.ref b :: As) L Sh M J H.size) (.ref b :: As) := ⟨fr_blind, fun U hU hW => ⟨rfl, by rw [hU], by rw [hU]; exact hP, va_K.moved hW.alike X.2.2.2.2.2.2.2.2.1, hD.weaken (fun _ _ _ _ => trivial), fr_NW.warm hW X.2.2.2.2.2.2.2.2.2.1⟩⟩
  have hwd : ∀ w, w ∈ lwg → w.before args s = true := fun w h => X.2.2.2.2.1 _ (lwg_ws mi h)
  have hwk : fr_ws mj = Cond.code mj.1 mj.2.1 mj.2.2.1 none :: lwg := by rw [fr_ws, hret]
  rcases hlk with hk | ⟨host, hk⟩
  · refine fr_call (va_runI (As := As) (rest := rest) (Ts := fr_ws mi) ⟨X.1, X.2.1, X.2.2.2.1, X.2.2.2.2.2.1, X.2.2.2.2.1⟩ (hM H.size) (cwI na X.2.2.2.2.1 (fr_good hcode) hwk rfl rfl (hwd _ hini) (hwd _ hk) (hwd _ hin) hnm hds (fr_roomok hd1 h80)) hPre rfl hlen hl.1 rfl (lv_room hroom) hd ⟨hc, hs⟩) hS (fun q _ h => hF q h) hF (fun r L1 Sh1 M1 J1 t H1 locs1 ht hvm hp1 hP1 hD1 hz1 hk1 hS1 => ?_)
    exact K r L1 Sh1 M1 J1 hp1 _ _ _ _ _ _ _ _ _ _ _ X hP1 (hD1.weaken (fun k q _ h => hF q.1 h)) hS1 hl
  · refine fr_call (va_runIN (As := As) (rest := rest) (Ts := fr_ws mi) ⟨X.1, X.2.1, X.2.2.2.1, X.2.2.2.2.2.1, X.2.2.2.2.1⟩ (hM H.size) ⟨va_cnB na X.2.2.2.2.1 (fr_good hcode) hwk rfl rfl (X.2.2.2.2.2.2.2.2.2.1.2.1 _ hk) (hwd _ hini) hds (fr_roomok hd1 h80), hnm, hwd _ hin⟩ hPre rfl hlen hl.1 rfl (lv_room hroom) hd ⟨hc, hs⟩) hS (fun q _ h => hF q h) hF (fun r L1 Sh1 M1 J1 t H1 locs1 ht hvm hp1 hP1 hD1 hz1 hk1 hS1 => ?_)
    exact K r L1 Sh1 M1 J1 hp1 _ _ _ _ _ _ _ _ _ _ _ X hP1 (hD1.weaken (fun k q _ h => hF q.1 h)) hS1 hl
theorem E_objI {a idx : Nat} (hd : decode mi.2.1 pc = .ok (.invokespecial idx, 3)) (hk : Cond.methodLink mi.1.cls idx objectInit ∈ lwg) (h2 : Cond.instanceMethod objectInit ∈ lwg) (h3 : Cond.code objectInit ⟨#[0xb1]⟩ 1 none ∈ lwg) (hr : (rest.map fun v => v.category).sum ≤ 8) (hd1 : 1 ≤ d) (hn : pc + 3 = n) (K : EE l D cy d mc ms mi A Post cells slots n lv rest L Sh M J) : EE l D cy d mc ms mi A Post cells slots pc lv (.ref a :: rest) L Sh M J := by
  subst hn
  intro p e s m args below meth c H locs ls X hP hD hS hl
  have hwd : ∀ w, w ∈ lwg → w.before args s = true := fun w h => X.2.2.2.2.1 _ (lwg_ws mi h)
  refine W.objInit X.1 X.2.1 X.2.2.2.2.2.1 (hwd _ hk) (hwd _ h2) (hwd _ h3) rfl (by rw [X.2.2.2.1]; exact hl.1) rfl hd hd1 ?_ ?_
  · show 2 * 0 + _ + 12 ≤ 100 * d
    omega
  · exact W.eq (g2 := F0 m (pc + 3) ls rest) rfl (K _ _ _ _ _ _ _ _ _ _ _ X hP hD hS hl)
end HEAP
end
section
abbrev mX0_init : MI := (yX0_init, cX0_init, 1, none)
abbrev mX0_moveIn : MI := (yX0_moveIn, cX0_moveIn, 5, none)
abbrev mX0_sleeps : MI := (yX0_sleeps, cX0_sleeps, 1, (some .int))
abbrev mX0_worth : MI := (yX0_worth, cX0_worth, 2, (some .int))
abbrev mX0_welcomesPets : MI := (yX0_welcomesPets, cX0_welcomesPets, 1, (some .boolean))
abbrev mX0_weeksAt : MI := (yX0_weeksAt, cX0_weeksAt, 2, (some .int))
abbrev mX0_addWish : MI := (yX0_addWish, cX0_addWish, 2, none)
abbrev mX0_dropWishes : MI := (yX0_dropWishes, cX0_dropWishes, 2, none)
abbrev mX0_barFrom : MI := (yX0_barFrom, cX0_barFrom, 3, none)
abbrev mX0_isBarredFrom : MI := (yX0_isBarredFrom, cX0_isBarredFrom, 2, (some .boolean))
abbrev mX1_init : MI := (yX1_init, cX1_init, 4, none)
abbrev mX1_clear : MI := (yX1_clear, cX1_clear, 3, none)
abbrev mX1_allow : MI := (yX1_allow, cX1_allow, 4, none)
abbrev mX1_replacePlan : MI := (yX1_replacePlan, cX1_replacePlan, 3, (some .int))
abbrev mX1_findRings : MI := (yX1_findRings, cX1_findRings, 3, none)
abbrev mX1_openWays : MI := (yX1_openWays, cX1_openWays, 5, none)
abbrev mX1_growWays : MI := (yX1_growWays, cX1_growWays, 7, none)
abbrev mX1_closeWay : MI := (yX1_closeWay, cX1_closeWay, 7, none)
abbrev mX1_growWay : MI := (yX1_growWay, cX1_growWay, 8, none)
abbrev mX1_settleAll : MI := (yX1_settleAll, cX1_settleAll, 3, none)
abbrev mX1_settleFirst : MI := (yX1_settleFirst, cX1_settleFirst, 7, none)
abbrev mX1_readPlan : MI := (yX1_readPlan, cX1_readPlan, 10, (some .int))
abbrev mX2_init : MI := (yX2_init, cX2_init, 1, none)
abbrev mX2_clear : MI := (yX2_clear, cX2_clear, 3, none)
abbrev mX2_add : MI := (yX2_add, cX2_add, 3, none)
abbrev mX2_tellShortestRing : MI := (yX2_tellShortestRing, cX2_tellShortestRing, 6, (some .int))
abbrev mX2_lengthFrom : MI := (yX2_lengthFrom, cX2_lengthFrom, 4, (some .int))
abbrev mX2_tellLongestWay : MI := (yX2_tellLongestWay, cX2_tellLongestWay, 7, (some .int))
abbrev mX2_findStarts : MI := (yX2_findStarts, cX2_findStarts, 3, none)
abbrev mX2_startsWithin : MI := (yX2_startsWithin, cX2_startsWithin, 5, (some .int))
abbrev mX2_mostSteps : MI := (yX2_mostSteps, cX2_mostSteps, 5, (some .int))
abbrev mX2_startsApart : MI := (yX2_startsApart, cX2_startsApart, 5, (some .int))
abbrev mX2_leastOf : MI := (yX2_leastOf, cX2_leastOf, 2, (some .int))
abbrev mX3_init : MI := (yX3_init, cX3_init, 2, none)
abbrev mX3_family : MI := (yX3_family, cX3_family, 6, (some .int))
abbrev mX3_weeks : MI := (yX3_weeks, cX3_weeks, 5, (some .boolean))
abbrev mX3_wish : MI := (yX3_wish, cX3_wish, 3, (some .int))
abbrev mX3_wishes : MI := (yX3_wishes, cX3_wishes, 6, (some .int))
abbrev mX3_bar : MI := (yX3_bar, cX3_bar, 4, (some .boolean))
abbrev mX3_in : MI := (yX3_in, cX3_in, 3, (some .boolean))
abbrev mX3_set : MI := (yX3_set, cX3_set, 4, (some .int))
abbrev mX3_count : MI := (yX3_count, cX3_count, 2, (some .int))
abbrev mX3_of : MI := (yX3_of, cX3_of, 4, (some .int))
abbrev mX3_rank : MI := (yX3_rank, cX3_rank, 3, (some .int))
abbrev mX3_can : MI := (yX3_can, cX3_can, 3, (some .int))
abbrev mX3_week : MI := (yX3_week, cX3_week, 3, (some .int))
abbrev mX3_put : MI := (yX3_put, cX3_put, 3, (some .boolean))
abbrev mX3_wrong : MI := (yX3_wrong, cX3_wrong, 2, (some .int))
abbrev mX3_best : MI := (yX3_best, cX3_best, 1, (some .int))
abbrev mX3_mend : MI := (yX3_mend, cX3_mend, 1, (some .int))
abbrev mX3_trade : MI := (yX3_trade, cX3_trade, 3, (some .int))
abbrev mX3_blocks : MI := (yX3_blocks, cX3_blocks, 3, (some .int))
abbrev mX3_ring : MI := (yX3_ring, cX3_ring, 5, (some .int))
abbrev mX3_chain : MI := (yX3_chain, cX3_chain, 3, (some .int))
abbrev mX3_travel : MI := (yX3_travel, cX3_travel, 2, (some .int))
abbrev mX3_book : MI := (yX3_book, cX3_book, 3, (some .int))
abbrev mX3_went : MI := (yX3_went, cX3_went, 3, (some .int))
abbrev mX3_undo : MI := (yX3_undo, cX3_undo, 2, (some .int))
abbrev mX3_row : MI := (yX3_row, cX3_row, 2, (some .int))
abbrev mX3_keepRow : MI := (yX3_keepRow, cX3_keepRow, 2, none)
abbrev mX3_isOneToNine : MI := (yX3_isOneToNine, cX3_isOneToNine, 1, (some .boolean))
abbrev mX3_isFamily : MI := (yX3_isFamily, cX3_isFamily, 2, (some .boolean))
abbrev mX3_areTwo : MI := (yX3_areTwo, cX3_areTwo, 3, (some .boolean))
abbrev mX3_canBecomeWish : MI := (yX3_canBecomeWish, cX3_canBecomeWish, 3, (some .boolean))
abbrev mX3_copySheet : MI := (yX3_copySheet, cX3_copySheet, 9, none)
abbrev mX3_hindrance : MI := (yX3_hindrance, cX3_hindrance, 5, (some .int))
abbrev mX3_takes : MI := (yX3_takes, cX3_takes, 3, (some .boolean))
abbrev mX3_countTaken : MI := (yX3_countTaken, cX3_countTaken, 4, (some .int))
abbrev mX3_countPresent : MI := (yX3_countPresent, cX3_countPresent, 3, (some .int))
abbrev mX3_countGoing : MI := (yX3_countGoing, cX3_countGoing, 3, (some .int))
abbrev mX3_planRank : MI := (yX3_planRank, cX3_planRank, 2, (some .int))
abbrev mX3_sumOfRanks : MI := (yX3_sumOfRanks, cX3_sumOfRanks, 3, (some .int))
abbrev mX3_firstGuest : MI := (yX3_firstGuest, cX3_firstGuest, 3, (some .int))
abbrev mX3_isLiked : MI := (yX3_isLiked, cX3_isLiked, 4, (some .boolean))
abbrev mX3_faultOfClosing : MI := (yX3_faultOfClosing, cX3_faultOfClosing, 2, (some .int))
abbrev mX3_hasRival : MI := (yX3_hasRival, cX3_hasRival, 3, (some .boolean))
abbrev mX3_faultOfLength : MI := (yX3_faultOfLength, cX3_faultOfLength, 2, (some .int))
abbrev mX3_ringLength : MI := (yX3_ringLength, cX3_ringLength, 4, (some .int))
abbrev mX3_countRings : MI := (yX3_countRings, cX3_countRings, 3, (some .int))
abbrev mX3_isLeastOfRing : MI := (yX3_isLeastOfRing, cX3_isLeastOfRing, 5, (some .boolean))
abbrev mX3_clearPlan : MI := (yX3_clearPlan, cX3_clearPlan, 2, none)
abbrev mX3_planRings : MI := (yX3_planRings, cX3_planRings, 5, (some .int))
abbrev mX3_showHomes : MI := (yX3_showHomes, cX3_showHomes, 5, (some .int))
abbrev mX3_firstWithoutHome : MI := (yX3_firstWithoutHome, cX3_firstWithoutHome, 3, (some .int))
abbrev mX3_likedMost : MI := (yX3_likedMost, cX3_likedMost, 6, (some .int))
abbrev mX3_sendShownRing : MI := (yX3_sendShownRing, cX3_sendShownRing, 3, (some .int))
abbrev mX3_comesRound : MI := (yX3_comesRound, cX3_comesRound, 4, (some .boolean))
abbrev mX3_sendAsShown : MI := (yX3_sendAsShown, cX3_sendAsShown, 5, (some .int))
abbrev mX3_addChainWaysTo : MI := (yX3_addChainWaysTo, cX3_addChainWaysTo, 6, none)
abbrev mX3_pay : MI := (yX3_pay, cX3_pay, 5, none)
abbrev mX3_payPlan : MI := (yX3_payPlan, cX3_payPlan, 3, none)
abbrev mX4_init : MI := (yX4_init, cX4_init, 1, none)
abbrev mX4_thrown : MI := (yX4_thrown, cX4_thrown, 1, (some .int))
abbrev mX4_lies : MI := (yX4_lies, cX4_lies, 6, (some .boolean))
abbrev mX4_refuse : MI := (yX4_refuse, cX4_refuse, 1, (some .int))
abbrev mX4_isFamily : MI := (yX4_isFamily, cX4_isFamily, 2, (some .boolean))
abbrev mX4_areTwo : MI := (yX4_areTwo, cX4_areTwo, 3, (some .boolean))
abbrev mX4_family : MI := (yX4_family, cX4_family, 6, (some .int))
abbrev mX4_weeks : MI := (yX4_weeks, cX4_weeks, 5, (some .boolean))
abbrev mX4_rankOf : MI := (yX4_rankOf, cX4_rankOf, 4, (some .int))
abbrev mX4_wants : MI := (yX4_wants, cX4_wants, 3, none)
abbrev mX4_wish : MI := (yX4_wish, cX4_wish, 3, (some .int))
abbrev mX4_wishes : MI := (yX4_wishes, cX4_wishes, 8, (some .int))
abbrev mX4_bar : MI := (yX4_bar, cX4_bar, 4, (some .boolean))
abbrev mX4_in : MI := (yX4_in, cX4_in, 3, (some .boolean))
abbrev mX4_set : MI := (yX4_set, cX4_set, 4, (some .int))
abbrev mX4_sleeps : MI := (yX4_sleeps, cX4_sleeps, 2, (some .int))
abbrev mX4_worth : MI := (yX4_worth, cX4_worth, 2, (some .int))
abbrev mX4_barrier : MI := (yX4_barrier, cX4_barrier, 4, (some .int))
abbrev mX4_takes : MI := (yX4_takes, cX4_takes, 3, (some .boolean))
abbrev mX4_rank : MI := (yX4_rank, cX4_rank, 3, (some .int))
abbrev mX4_can : MI := (yX4_can, cX4_can, 3, (some .int))
abbrev mX4_week : MI := (yX4_week, cX4_week, 3, (some .int))
abbrev mX4_guest : MI := (yX4_guest, cX4_guest, 3, (some .int))
abbrev mX4_goesAtAll : MI := (yX4_goesAtAll, cX4_goesAtAll, 2, (some .boolean))
abbrev mX4_open : MI := (yX4_open, cX4_open, 3, (some .int))
abbrev mX4_ringOf : MI := (yX4_ringOf, cX4_ringOf, 4, (some .int))
abbrev mX4_wrong : MI := (yX4_wrong, cX4_wrong, 3, (some .int))
abbrev mX4_goers : MI := (yX4_goers, cX4_goers, 3, (some .int))
abbrev mX4_rings : MI := (yX4_rings, cX4_rings, 5, (some .int))
abbrev mX4_count : MI := (yX4_count, cX4_count, 5, (some .int))
abbrev mX4_of : MI := (yX4_of, cX4_of, 5, (some .int))
abbrev mX4_put : MI := (yX4_put, cX4_put, 3, (some .boolean))
abbrev mX4_mayBe : MI := (yX4_mayBe, cX4_mayBe, 7, (some .boolean))
abbrev mX4_isShort : MI := (yX4_isShort, cX4_isShort, 9, (some .boolean))
abbrev mX4_offers : MI := (yX4_offers, cX4_offers, 6, none)
abbrev mX4_goes : MI := (yX4_goes, cX4_goes, 7, none)
abbrev mX4_all : MI := (yX4_all, cX4_all, 3, none)
abbrev mX4_best : MI := (yX4_best, cX4_best, 1, (some .int))
abbrev mX4_mend : MI := (yX4_mend, cX4_mend, 1, (some .int))
abbrev mX4_firstOf : MI := (yX4_firstOf, cX4_firstOf, 4, (some .int))
abbrev mX4_leaver : MI := (yX4_leaver, cX4_leaver, 2, (some .int))
abbrev mX4_isRound : MI := (yX4_isRound, cX4_isRound, 4, (some .boolean))
abbrev mX4_trade : MI := (yX4_trade, cX4_trade, 5, (some .int))
abbrev mX4_wouldRather : MI := (yX4_wouldRather, cX4_wouldRather, 4, (some .boolean))
abbrev mX4_closes : MI := (yX4_closes, cX4_closes, 6, (some .boolean))
abbrev mX4_tells : MI := (yX4_tells, cX4_tells, 3, (some .int))
abbrev mX4_blocks : MI := (yX4_blocks, cX4_blocks, 3, (some .int))
abbrev mX4_ring : MI := (yX4_ring, cX4_ring, 4, (some .int))
abbrev mX4_goesOn : MI := (yX4_goesOn, cX4_goesOn, 6, none)
abbrev mX4_chain : MI := (yX4_chain, cX4_chain, 3, (some .int))
abbrev mX4_travel : MI := (yX4_travel, cX4_travel, 3, (some .int))
abbrev mX4_book : MI := (yX4_book, cX4_book, 3, (some .int))
abbrev mX4_pays : MI := (yX4_pays, cX4_pays, 5, none)
abbrev mX4_went : MI := (yX4_went, cX4_went, 3, (some .int))
abbrev mX4_undo : MI := (yX4_undo, cX4_undo, 2, (some .int))
abbrev mX4_row : MI := (yX4_row, cX4_row, 2, (some .int))
abbrev mJ6_bitCount_0f7a4 : MI := (yJ6_bitCount_0f7a4, cJ6_bitCount_0f7a4, 1, (some .int))
abbrev mJ9_floorMod_f86c9 : MI := (yJ9_floorMod_f86c9, cJ9_floorMod_f86c9, 6, (some .long))
abbrev mJ9_max_7cf53 : MI := (yJ9_max_7cf53, cJ9_max_7cf53, 2, (some .int))
abbrev mJ9_max_f86c9 : MI := (yJ9_max_f86c9, cJ9_max_f86c9, 4, (some .long))
abbrev mJ9_min_7cf53 : MI := (yJ9_min_7cf53, cJ9_min_7cf53, 2, (some .int))
theorem wi_L : Cond.initialized RL ∈ lwg := lwg_of (List.mem_of_getElem? (i := 73) (by decide +kernel)) rfl
theorem wi_X3 : Cond.initialized RX3 ∈ lwg := lwg_of (List.mem_of_getElem? (i := 74) (by decide +kernel)) rfl
theorem wi_X1 : Cond.initialized RX1 ∈ lwg := lwg_of (List.mem_of_getElem? (i := 75) (by decide +kernel)) rfl
theorem wi_X2 : Cond.initialized RX2 ∈ lwg := lwg_of (List.mem_of_getElem? (i := 76) (by decide +kernel)) rfl
theorem wi_X0 : Cond.initialized RX0 ∈ lwg := lwg_of (List.mem_of_getElem? (i := 77) (by decide +kernel)) rfl
theorem wi_X4 : Cond.initialized RX4 ∈ lwg := lwg_of (List.mem_of_getElem? (i := 78) (by decide +kernel)) rfl
theorem wi_J9 : Cond.initialized RJ9 ∈ lwg := lwg_of (List.mem_of_getElem? (i := 79) (by decide +kernel)) rfl
theorem wi_J6 : Cond.initialized RJ6 ∈ lwg := lwg_of (List.mem_of_getElem? (i := 84) (by decide +kernel)) rfl
theorem wc_X0_init : Cond.code yX0_init cX0_init 1 none ∈ lwg := lwg_of (List.mem_of_getElem? (i := 145) (by decide +kernel)) rfl
theorem wm_X0_init : Cond.instanceMethod yX0_init ∈ lwg := lwg_of (List.mem_of_getElem? (i := 144) (by decide +kernel)) rfl
theorem wc_X0_moveIn : Cond.code yX0_moveIn cX0_moveIn 5 none ∈ lwg := lwg_of (List.mem_of_getElem? (i := 250) (by decide +kernel)) rfl
theorem wm_X0_moveIn : Cond.instanceMethod yX0_moveIn ∈ lwg := lwg_of (List.mem_of_getElem? (i := 248) (by decide +kernel)) rfl
theorem ws_X0_moveIn : Cond.selects RX0 yX0_moveIn yX0_moveIn ∈ lwg := lwg_of (List.mem_of_getElem? (i := 249) (by decide +kernel)) rfl
theorem wc_X0_sleeps : Cond.code yX0_sleeps cX0_sleeps 1 (some .int) ∈ lwg := lwg_of (List.mem_of_getElem? (i := 338) (by decide +kernel)) rfl
theorem wm_X0_sleeps : Cond.instanceMethod yX0_sleeps ∈ lwg := lwg_of (List.mem_of_getElem? (i := 336) (by decide +kernel)) rfl
theorem ws_X0_sleeps : Cond.selects RX0 yX0_sleeps yX0_sleeps ∈ lwg := lwg_of (List.mem_of_getElem? (i := 337) (by decide +kernel)) rfl
theorem wc_X0_worth : Cond.code yX0_worth cX0_worth 2 (some .int) ∈ lwg := lwg_of (List.mem_of_getElem? (i := 551) (by decide +kernel)) rfl
theorem wm_X0_worth : Cond.instanceMethod yX0_worth ∈ lwg := lwg_of (List.mem_of_getElem? (i := 549) (by decide +kernel)) rfl
theorem ws_X0_worth : Cond.selects RX0 yX0_worth yX0_worth ∈ lwg := lwg_of (List.mem_of_getElem? (i := 550) (by decide +kernel)) rfl
theorem wc_X0_welcomesPets : Cond.code yX0_welcomesPets cX0_welcomesPets 1 (some .boolean) ∈ lwg := lwg_of (List.mem_of_getElem? (i := 342) (by decide +kernel)) rfl
theorem wm_X0_welcomesPets : Cond.instanceMethod yX0_welcomesPets ∈ lwg := lwg_of (List.mem_of_getElem? (i := 340) (by decide +kernel)) rfl
theorem ws_X0_welcomesPets : Cond.selects RX0 yX0_welcomesPets yX0_welcomesPets ∈ lwg := lwg_of (List.mem_of_getElem? (i := 341) (by decide +kernel)) rfl
theorem wc_X0_weeksAt : Cond.code yX0_weeksAt cX0_weeksAt 2 (some .int) ∈ lwg := lwg_of (List.mem_of_getElem? (i := 346) (by decide +kernel)) rfl
theorem wm_X0_weeksAt : Cond.instanceMethod yX0_weeksAt ∈ lwg := lwg_of (List.mem_of_getElem? (i := 344) (by decide +kernel)) rfl
theorem ws_X0_weeksAt : Cond.selects RX0 yX0_weeksAt yX0_weeksAt ∈ lwg := lwg_of (List.mem_of_getElem? (i := 345) (by decide +kernel)) rfl
theorem wc_X0_addWish : Cond.code yX0_addWish cX0_addWish 2 none ∈ lwg := lwg_of (List.mem_of_getElem? (i := 274) (by decide +kernel)) rfl
theorem wm_X0_addWish : Cond.instanceMethod yX0_addWish ∈ lwg := lwg_of (List.mem_of_getElem? (i := 272) (by decide +kernel)) rfl
theorem ws_X0_addWish : Cond.selects RX0 yX0_addWish yX0_addWish ∈ lwg := lwg_of (List.mem_of_getElem? (i := 273) (by decide +kernel)) rfl
theorem wc_X0_dropWishes : Cond.code yX0_dropWishes cX0_dropWishes 2 none ∈ lwg := lwg_of (List.mem_of_getElem? (i := 282) (by decide +kernel)) rfl
theorem wm_X0_dropWishes : Cond.instanceMethod yX0_dropWishes ∈ lwg := lwg_of (List.mem_of_getElem? (i := 280) (by decide +kernel)) rfl
theorem ws_X0_dropWishes : Cond.selects RX0 yX0_dropWishes yX0_dropWishes ∈ lwg := lwg_of (List.mem_of_getElem? (i := 281) (by decide +kernel)) rfl
theorem wc_X0_barFrom : Cond.code yX0_barFrom cX0_barFrom 3 none ∈ lwg := lwg_of (List.mem_of_getElem? (i := 294) (by decide +kernel)) rfl
theorem wm_X0_barFrom : Cond.instanceMethod yX0_barFrom ∈ lwg := lwg_of (List.mem_of_getElem? (i := 292) (by decide +kernel)) rfl
theorem ws_X0_barFrom : Cond.selects RX0 yX0_barFrom yX0_barFrom ∈ lwg := lwg_of (List.mem_of_getElem? (i := 293) (by decide +kernel)) rfl
theorem wc_X0_isBarredFrom : Cond.code yX0_isBarredFrom cX0_isBarredFrom 2 (some .boolean) ∈ lwg := lwg_of (List.mem_of_getElem? (i := 334) (by decide +kernel)) rfl
theorem wm_X0_isBarredFrom : Cond.instanceMethod yX0_isBarredFrom ∈ lwg := lwg_of (List.mem_of_getElem? (i := 332) (by decide +kernel)) rfl
theorem ws_X0_isBarredFrom : Cond.selects RX0 yX0_isBarredFrom yX0_isBarredFrom ∈ lwg := lwg_of (List.mem_of_getElem? (i := 333) (by decide +kernel)) rfl
theorem wc_X1_init : Cond.code yX1_init cX1_init 4 none ∈ lwg := lwg_of (List.mem_of_getElem? (i := 99) (by decide +kernel)) rfl
theorem wm_X1_init : Cond.instanceMethod yX1_init ∈ lwg := lwg_of (List.mem_of_getElem? (i := 98) (by decide +kernel)) rfl
theorem wc_X1_clear : Cond.code yX1_clear cX1_clear 3 none ∈ lwg := lwg_of (List.mem_of_getElem? (i := 413) (by decide +kernel)) rfl
theorem wm_X1_clear : Cond.instanceMethod yX1_clear ∈ lwg := lwg_of (List.mem_of_getElem? (i := 411) (by decide +kernel)) rfl
theorem ws_X1_clear : Cond.selects RX1 yX1_clear yX1_clear ∈ lwg := lwg_of (List.mem_of_getElem? (i := 412) (by decide +kernel)) rfl
theorem wc_X1_allow : Cond.code yX1_allow cX1_allow 4 none ∈ lwg := lwg_of (List.mem_of_getElem? (i := 418) (by decide +kernel)) rfl
theorem wm_X1_allow : Cond.instanceMethod yX1_allow ∈ lwg := lwg_of (List.mem_of_getElem? (i := 416) (by decide +kernel)) rfl
theorem ws_X1_allow : Cond.selects RX1 yX1_allow yX1_allow ∈ lwg := lwg_of (List.mem_of_getElem? (i := 417) (by decide +kernel)) rfl
theorem wc_X1_replacePlan : Cond.code yX1_replacePlan cX1_replacePlan 3 (some .int) ∈ lwg := lwg_of (List.mem_of_getElem? (i := 423) (by decide +kernel)) rfl
theorem wm_X1_replacePlan : Cond.instanceMethod yX1_replacePlan ∈ lwg := lwg_of (List.mem_of_getElem? (i := 421) (by decide +kernel)) rfl
theorem ws_X1_replacePlan : Cond.selects RX1 yX1_replacePlan yX1_replacePlan ∈ lwg := lwg_of (List.mem_of_getElem? (i := 422) (by decide +kernel)) rfl
theorem wc_X1_findRings : Cond.code yX1_findRings cX1_findRings 3 none ∈ lwg := lwg_of (List.mem_of_getElem? (i := 427) (by decide +kernel)) rfl
theorem wm_X1_findRings : Cond.instanceMethod yX1_findRings ∈ lwg := lwg_of (List.mem_of_getElem? (i := 426) (by decide +kernel)) rfl
theorem ws_X1_findRings : Cond.selects RX1 yX1_findRings yX1_findRings ∈ lwg := lwg_of (List.mem_of_getElem? (i := 18) (by decide +kernel)) rfl
theorem wc_X1_openWays : Cond.code yX1_openWays cX1_openWays 5 none ∈ lwg := lwg_of (List.mem_of_getElem? (i := 431) (by decide +kernel)) rfl
theorem wm_X1_openWays : Cond.instanceMethod yX1_openWays ∈ lwg := lwg_of (List.mem_of_getElem? (i := 430) (by decide +kernel)) rfl
theorem ws_X1_openWays : Cond.selects RX1 yX1_openWays yX1_openWays ∈ lwg := lwg_of (List.mem_of_getElem? (i := 19) (by decide +kernel)) rfl
theorem wc_X1_growWays : Cond.code yX1_growWays cX1_growWays 7 none ∈ lwg := lwg_of (List.mem_of_getElem? (i := 435) (by decide +kernel)) rfl
theorem wm_X1_growWays : Cond.instanceMethod yX1_growWays ∈ lwg := lwg_of (List.mem_of_getElem? (i := 434) (by decide +kernel)) rfl
theorem ws_X1_growWays : Cond.selects RX1 yX1_growWays yX1_growWays ∈ lwg := lwg_of (List.mem_of_getElem? (i := 20) (by decide +kernel)) rfl
theorem wc_X1_closeWay : Cond.code yX1_closeWay cX1_closeWay 7 none ∈ lwg := lwg_of (List.mem_of_getElem? (i := 445) (by decide +kernel)) rfl
theorem wm_X1_closeWay : Cond.instanceMethod yX1_closeWay ∈ lwg := lwg_of (List.mem_of_getElem? (i := 444) (by decide +kernel)) rfl
theorem ws_X1_closeWay : Cond.selects RX1 yX1_closeWay yX1_closeWay ∈ lwg := lwg_of (List.mem_of_getElem? (i := 21) (by decide +kernel)) rfl
theorem wc_X1_growWay : Cond.code yX1_growWay cX1_growWay 8 none ∈ lwg := lwg_of (List.mem_of_getElem? (i := 452) (by decide +kernel)) rfl
theorem wm_X1_growWay : Cond.instanceMethod yX1_growWay ∈ lwg := lwg_of (List.mem_of_getElem? (i := 451) (by decide +kernel)) rfl
theorem ws_X1_growWay : Cond.selects RX1 yX1_growWay yX1_growWay ∈ lwg := lwg_of (List.mem_of_getElem? (i := 22) (by decide +kernel)) rfl
theorem wc_X1_settleAll : Cond.code yX1_settleAll cX1_settleAll 3 none ∈ lwg := lwg_of (List.mem_of_getElem? (i := 456) (by decide +kernel)) rfl
theorem wm_X1_settleAll : Cond.instanceMethod yX1_settleAll ∈ lwg := lwg_of (List.mem_of_getElem? (i := 455) (by decide +kernel)) rfl
theorem ws_X1_settleAll : Cond.selects RX1 yX1_settleAll yX1_settleAll ∈ lwg := lwg_of (List.mem_of_getElem? (i := 23) (by decide +kernel)) rfl
theorem wc_X1_settleFirst : Cond.code yX1_settleFirst cX1_settleFirst 7 none ∈ lwg := lwg_of (List.mem_of_getElem? (i := 460) (by decide +kernel)) rfl
theorem wm_X1_settleFirst : Cond.instanceMethod yX1_settleFirst ∈ lwg := lwg_of (List.mem_of_getElem? (i := 459) (by decide +kernel)) rfl
theorem ws_X1_settleFirst : Cond.selects RX1 yX1_settleFirst yX1_settleFirst ∈ lwg := lwg_of (List.mem_of_getElem? (i := 24) (by decide +kernel)) rfl
theorem wc_X1_readPlan : Cond.code yX1_readPlan cX1_readPlan 10 (some .int) ∈ lwg := lwg_of (List.mem_of_getElem? (i := 465) (by decide +kernel)) rfl
theorem wm_X1_readPlan : Cond.instanceMethod yX1_readPlan ∈ lwg := lwg_of (List.mem_of_getElem? (i := 464) (by decide +kernel)) rfl
theorem ws_X1_readPlan : Cond.selects RX1 yX1_readPlan yX1_readPlan ∈ lwg := lwg_of (List.mem_of_getElem? (i := 25) (by decide +kernel)) rfl
theorem wc_X2_init : Cond.code yX2_init cX2_init 1 none ∈ lwg := lwg_of (List.mem_of_getElem? (i := 127) (by decide +kernel)) rfl
theorem wm_X2_init : Cond.instanceMethod yX2_init ∈ lwg := lwg_of (List.mem_of_getElem? (i := 126) (by decide +kernel)) rfl
theorem wc_X2_clear : Cond.code yX2_clear cX2_clear 3 none ∈ lwg := lwg_of (List.mem_of_getElem? (i := 512) (by decide +kernel)) rfl
theorem wm_X2_clear : Cond.instanceMethod yX2_clear ∈ lwg := lwg_of (List.mem_of_getElem? (i := 510) (by decide +kernel)) rfl
theorem ws_X2_clear : Cond.selects RX2 yX2_clear yX2_clear ∈ lwg := lwg_of (List.mem_of_getElem? (i := 511) (by decide +kernel)) rfl
theorem wc_X2_add : Cond.code yX2_add cX2_add 3 none ∈ lwg := lwg_of (List.mem_of_getElem? (i := 520) (by decide +kernel)) rfl
theorem wm_X2_add : Cond.instanceMethod yX2_add ∈ lwg := lwg_of (List.mem_of_getElem? (i := 518) (by decide +kernel)) rfl
theorem ws_X2_add : Cond.selects RX2 yX2_add yX2_add ∈ lwg := lwg_of (List.mem_of_getElem? (i := 519) (by decide +kernel)) rfl
theorem wc_X2_tellShortestRing : Cond.code yX2_tellShortestRing cX2_tellShortestRing 6 (some .int) ∈ lwg := lwg_of (List.mem_of_getElem? (i := 524) (by decide +kernel)) rfl
theorem wm_X2_tellShortestRing : Cond.instanceMethod yX2_tellShortestRing ∈ lwg := lwg_of (List.mem_of_getElem? (i := 522) (by decide +kernel)) rfl
theorem ws_X2_tellShortestRing : Cond.selects RX2 yX2_tellShortestRing yX2_tellShortestRing ∈ lwg := lwg_of (List.mem_of_getElem? (i := 523) (by decide +kernel)) rfl
theorem wc_X2_lengthFrom : Cond.code yX2_lengthFrom cX2_lengthFrom 4 (some .int) ∈ lwg := lwg_of (List.mem_of_getElem? (i := 528) (by decide +kernel)) rfl
theorem wm_X2_lengthFrom : Cond.instanceMethod yX2_lengthFrom ∈ lwg := lwg_of (List.mem_of_getElem? (i := 527) (by decide +kernel)) rfl
theorem ws_X2_lengthFrom : Cond.selects RX2 yX2_lengthFrom yX2_lengthFrom ∈ lwg := lwg_of (List.mem_of_getElem? (i := 34) (by decide +kernel)) rfl
theorem wc_X2_tellLongestWay : Cond.code yX2_tellLongestWay cX2_tellLongestWay 7 (some .int) ∈ lwg := lwg_of (List.mem_of_getElem? (i := 556) (by decide +kernel)) rfl
theorem wm_X2_tellLongestWay : Cond.instanceMethod yX2_tellLongestWay ∈ lwg := lwg_of (List.mem_of_getElem? (i := 554) (by decide +kernel)) rfl
theorem ws_X2_tellLongestWay : Cond.selects RX2 yX2_tellLongestWay yX2_tellLongestWay ∈ lwg := lwg_of (List.mem_of_getElem? (i := 555) (by decide +kernel)) rfl
theorem wc_X2_findStarts : Cond.code yX2_findStarts cX2_findStarts 3 none ∈ lwg := lwg_of (List.mem_of_getElem? (i := 560) (by decide +kernel)) rfl
theorem wm_X2_findStarts : Cond.instanceMethod yX2_findStarts ∈ lwg := lwg_of (List.mem_of_getElem? (i := 559) (by decide +kernel)) rfl
theorem ws_X2_findStarts : Cond.selects RX2 yX2_findStarts yX2_findStarts ∈ lwg := lwg_of (List.mem_of_getElem? (i := 37) (by decide +kernel)) rfl
theorem wc_X2_startsWithin : Cond.code yX2_startsWithin cX2_startsWithin 5 (some .int) ∈ lwg := lwg_of (List.mem_of_getElem? (i := 564) (by decide +kernel)) rfl
theorem wm_X2_startsWithin : Cond.instanceMethod yX2_startsWithin ∈ lwg := lwg_of (List.mem_of_getElem? (i := 563) (by decide +kernel)) rfl
theorem ws_X2_startsWithin : Cond.selects RX2 yX2_startsWithin yX2_startsWithin ∈ lwg := lwg_of (List.mem_of_getElem? (i := 38) (by decide +kernel)) rfl
theorem wc_X2_mostSteps : Cond.code yX2_mostSteps cX2_mostSteps 5 (some .int) ∈ lwg := lwg_of (List.mem_of_getElem? (i := 568) (by decide +kernel)) rfl
theorem wm_X2_mostSteps : Cond.instanceMethod yX2_mostSteps ∈ lwg := lwg_of (List.mem_of_getElem? (i := 567) (by decide +kernel)) rfl
theorem ws_X2_mostSteps : Cond.selects RX2 yX2_mostSteps yX2_mostSteps ∈ lwg := lwg_of (List.mem_of_getElem? (i := 39) (by decide +kernel)) rfl
theorem wc_X2_startsApart : Cond.code yX2_startsApart cX2_startsApart 5 (some .int) ∈ lwg := lwg_of (List.mem_of_getElem? (i := 574) (by decide +kernel)) rfl
theorem wm_X2_startsApart : Cond.instanceMethod yX2_startsApart ∈ lwg := lwg_of (List.mem_of_getElem? (i := 573) (by decide +kernel)) rfl
theorem ws_X2_startsApart : Cond.selects RX2 yX2_startsApart yX2_startsApart ∈ lwg := lwg_of (List.mem_of_getElem? (i := 40) (by decide +kernel)) rfl
theorem wc_X2_leastOf : Cond.code yX2_leastOf cX2_leastOf 2 (some .int) ∈ lwg := lwg_of (List.mem_of_getElem? (i := 531) (by decide +kernel)) rfl
theorem wt_X2_leastOf : Cond.static yX2_leastOf ∈ lwg := lwg_of (List.mem_of_getElem? (i := 530) (by decide +kernel)) rfl
theorem wc_X3_init : Cond.code yX3_init cX3_init 2 none ∈ lwg := lwg_of (List.mem_of_getElem? (i := 89) (by decide +kernel)) rfl
theorem wm_X3_init : Cond.instanceMethod yX3_init ∈ lwg := lwg_of (List.mem_of_getElem? (i := 88) (by decide +kernel)) rfl
theorem wc_X3_family : Cond.code yX3_family cX3_family 6 (some .int) ∈ lwg := lwg_of (List.mem_of_getElem? (i := 243) (by decide +kernel)) rfl
theorem wm_X3_family : Cond.instanceMethod yX3_family ∈ lwg := lwg_of (List.mem_of_getElem? (i := 241) (by decide +kernel)) rfl
theorem ws_X3_family : Cond.selects RX3 yX3_family yX3_family ∈ lwg := lwg_of (List.mem_of_getElem? (i := 242) (by decide +kernel)) rfl
theorem wc_X3_weeks : Cond.code yX3_weeks cX3_weeks 5 (some .boolean) ∈ lwg := lwg_of (List.mem_of_getElem? (i := 254) (by decide +kernel)) rfl
theorem wm_X3_weeks : Cond.instanceMethod yX3_weeks ∈ lwg := lwg_of (List.mem_of_getElem? (i := 252) (by decide +kernel)) rfl
theorem ws_X3_weeks : Cond.selects RX3 yX3_weeks yX3_weeks ∈ lwg := lwg_of (List.mem_of_getElem? (i := 253) (by decide +kernel)) rfl
theorem wc_X3_wish : Cond.code yX3_wish cX3_wish 3 (some .int) ∈ lwg := lwg_of (List.mem_of_getElem? (i := 262) (by decide +kernel)) rfl
theorem wm_X3_wish : Cond.instanceMethod yX3_wish ∈ lwg := lwg_of (List.mem_of_getElem? (i := 260) (by decide +kernel)) rfl
theorem ws_X3_wish : Cond.selects RX3 yX3_wish yX3_wish ∈ lwg := lwg_of (List.mem_of_getElem? (i := 261) (by decide +kernel)) rfl
theorem wc_X3_wishes : Cond.code yX3_wishes cX3_wishes 6 (some .int) ∈ lwg := lwg_of (List.mem_of_getElem? (i := 278) (by decide +kernel)) rfl
theorem wm_X3_wishes : Cond.instanceMethod yX3_wishes ∈ lwg := lwg_of (List.mem_of_getElem? (i := 276) (by decide +kernel)) rfl
theorem ws_X3_wishes : Cond.selects RX3 yX3_wishes yX3_wishes ∈ lwg := lwg_of (List.mem_of_getElem? (i := 277) (by decide +kernel)) rfl
theorem wc_X3_bar : Cond.code yX3_bar cX3_bar 4 (some .boolean) ∈ lwg := lwg_of (List.mem_of_getElem? (i := 290) (by decide +kernel)) rfl
theorem wm_X3_bar : Cond.instanceMethod yX3_bar ∈ lwg := lwg_of (List.mem_of_getElem? (i := 288) (by decide +kernel)) rfl
theorem ws_X3_bar : Cond.selects RX3 yX3_bar yX3_bar ∈ lwg := lwg_of (List.mem_of_getElem? (i := 289) (by decide +kernel)) rfl
theorem wc_X3_in : Cond.code yX3_in cX3_in 3 (some .boolean) ∈ lwg := lwg_of (List.mem_of_getElem? (i := 298) (by decide +kernel)) rfl
theorem wm_X3_in : Cond.instanceMethod yX3_in ∈ lwg := lwg_of (List.mem_of_getElem? (i := 296) (by decide +kernel)) rfl
theorem ws_X3_in : Cond.selects RX3 yX3_in yX3_in ∈ lwg := lwg_of (List.mem_of_getElem? (i := 297) (by decide +kernel)) rfl
theorem wc_X3_set : Cond.code yX3_set cX3_set 4 (some .int) ∈ lwg := lwg_of (List.mem_of_getElem? (i := 302) (by decide +kernel)) rfl
theorem wm_X3_set : Cond.instanceMethod yX3_set ∈ lwg := lwg_of (List.mem_of_getElem? (i := 300) (by decide +kernel)) rfl
theorem ws_X3_set : Cond.selects RX3 yX3_set yX3_set ∈ lwg := lwg_of (List.mem_of_getElem? (i := 301) (by decide +kernel)) rfl
theorem wc_X3_count : Cond.code yX3_count cX3_count 2 (some .int) ∈ lwg := lwg_of (List.mem_of_getElem? (i := 306) (by decide +kernel)) rfl
theorem wm_X3_count : Cond.instanceMethod yX3_count ∈ lwg := lwg_of (List.mem_of_getElem? (i := 304) (by decide +kernel)) rfl
theorem ws_X3_count : Cond.selects RX3 yX3_count yX3_count ∈ lwg := lwg_of (List.mem_of_getElem? (i := 305) (by decide +kernel)) rfl
theorem wc_X3_of : Cond.code yX3_of cX3_of 4 (some .int) ∈ lwg := lwg_of (List.mem_of_getElem? (i := 606) (by decide +kernel)) rfl
theorem wm_X3_of : Cond.instanceMethod yX3_of ∈ lwg := lwg_of (List.mem_of_getElem? (i := 604) (by decide +kernel)) rfl
theorem ws_X3_of : Cond.selects RX3 yX3_of yX3_of ∈ lwg := lwg_of (List.mem_of_getElem? (i := 605) (by decide +kernel)) rfl
theorem wc_X3_rank : Cond.code yX3_rank cX3_rank 3 (some .int) ∈ lwg := lwg_of (List.mem_of_getElem? (i := 380) (by decide +kernel)) rfl
theorem wm_X3_rank : Cond.instanceMethod yX3_rank ∈ lwg := lwg_of (List.mem_of_getElem? (i := 378) (by decide +kernel)) rfl
theorem ws_X3_rank : Cond.selects RX3 yX3_rank yX3_rank ∈ lwg := lwg_of (List.mem_of_getElem? (i := 379) (by decide +kernel)) rfl
theorem wc_X3_can : Cond.code yX3_can cX3_can 3 (some .int) ∈ lwg := lwg_of (List.mem_of_getElem? (i := 384) (by decide +kernel)) rfl
theorem wm_X3_can : Cond.instanceMethod yX3_can ∈ lwg := lwg_of (List.mem_of_getElem? (i := 382) (by decide +kernel)) rfl
theorem ws_X3_can : Cond.selects RX3 yX3_can yX3_can ∈ lwg := lwg_of (List.mem_of_getElem? (i := 383) (by decide +kernel)) rfl
theorem wc_X3_week : Cond.code yX3_week cX3_week 3 (some .int) ∈ lwg := lwg_of (List.mem_of_getElem? (i := 388) (by decide +kernel)) rfl
theorem wm_X3_week : Cond.instanceMethod yX3_week ∈ lwg := lwg_of (List.mem_of_getElem? (i := 386) (by decide +kernel)) rfl
theorem ws_X3_week : Cond.selects RX3 yX3_week yX3_week ∈ lwg := lwg_of (List.mem_of_getElem? (i := 387) (by decide +kernel)) rfl
theorem wc_X3_put : Cond.code yX3_put cX3_put 3 (some .boolean) ∈ lwg := lwg_of (List.mem_of_getElem? (i := 393) (by decide +kernel)) rfl
theorem wm_X3_put : Cond.instanceMethod yX3_put ∈ lwg := lwg_of (List.mem_of_getElem? (i := 391) (by decide +kernel)) rfl
theorem ws_X3_put : Cond.selects RX3 yX3_put yX3_put ∈ lwg := lwg_of (List.mem_of_getElem? (i := 392) (by decide +kernel)) rfl
theorem wc_X3_wrong : Cond.code yX3_wrong cX3_wrong 2 (some .int) ∈ lwg := lwg_of (List.mem_of_getElem? (i := 397) (by decide +kernel)) rfl
theorem wm_X3_wrong : Cond.instanceMethod yX3_wrong ∈ lwg := lwg_of (List.mem_of_getElem? (i := 395) (by decide +kernel)) rfl
theorem ws_X3_wrong : Cond.selects RX3 yX3_wrong yX3_wrong ∈ lwg := lwg_of (List.mem_of_getElem? (i := 396) (by decide +kernel)) rfl
theorem wc_X3_best : Cond.code yX3_best cX3_best 1 (some .int) ∈ lwg := lwg_of (List.mem_of_getElem? (i := 405) (by decide +kernel)) rfl
theorem wm_X3_best : Cond.instanceMethod yX3_best ∈ lwg := lwg_of (List.mem_of_getElem? (i := 403) (by decide +kernel)) rfl
theorem ws_X3_best : Cond.selects RX3 yX3_best yX3_best ∈ lwg := lwg_of (List.mem_of_getElem? (i := 404) (by decide +kernel)) rfl
theorem wc_X3_mend : Cond.code yX3_mend cX3_mend 1 (some .int) ∈ lwg := lwg_of (List.mem_of_getElem? (i := 472) (by decide +kernel)) rfl
theorem wm_X3_mend : Cond.instanceMethod yX3_mend ∈ lwg := lwg_of (List.mem_of_getElem? (i := 470) (by decide +kernel)) rfl
theorem ws_X3_mend : Cond.selects RX3 yX3_mend yX3_mend ∈ lwg := lwg_of (List.mem_of_getElem? (i := 471) (by decide +kernel)) rfl
theorem wc_X3_trade : Cond.code yX3_trade cX3_trade 3 (some .int) ∈ lwg := lwg_of (List.mem_of_getElem? (i := 476) (by decide +kernel)) rfl
theorem wm_X3_trade : Cond.instanceMethod yX3_trade ∈ lwg := lwg_of (List.mem_of_getElem? (i := 474) (by decide +kernel)) rfl
theorem ws_X3_trade : Cond.selects RX3 yX3_trade yX3_trade ∈ lwg := lwg_of (List.mem_of_getElem? (i := 475) (by decide +kernel)) rfl
theorem wc_X3_blocks : Cond.code yX3_blocks cX3_blocks 3 (some .int) ∈ lwg := lwg_of (List.mem_of_getElem? (i := 508) (by decide +kernel)) rfl
theorem wm_X3_blocks : Cond.instanceMethod yX3_blocks ∈ lwg := lwg_of (List.mem_of_getElem? (i := 506) (by decide +kernel)) rfl
theorem ws_X3_blocks : Cond.selects RX3 yX3_blocks yX3_blocks ∈ lwg := lwg_of (List.mem_of_getElem? (i := 507) (by decide +kernel)) rfl
theorem wc_X3_ring : Cond.code yX3_ring cX3_ring 5 (some .int) ∈ lwg := lwg_of (List.mem_of_getElem? (i := 539) (by decide +kernel)) rfl
theorem wm_X3_ring : Cond.instanceMethod yX3_ring ∈ lwg := lwg_of (List.mem_of_getElem? (i := 537) (by decide +kernel)) rfl
theorem ws_X3_ring : Cond.selects RX3 yX3_ring yX3_ring ∈ lwg := lwg_of (List.mem_of_getElem? (i := 538) (by decide +kernel)) rfl
theorem wc_X3_chain : Cond.code yX3_chain cX3_chain 3 (some .int) ∈ lwg := lwg_of (List.mem_of_getElem? (i := 543) (by decide +kernel)) rfl
theorem wm_X3_chain : Cond.instanceMethod yX3_chain ∈ lwg := lwg_of (List.mem_of_getElem? (i := 541) (by decide +kernel)) rfl
theorem ws_X3_chain : Cond.selects RX3 yX3_chain yX3_chain ∈ lwg := lwg_of (List.mem_of_getElem? (i := 542) (by decide +kernel)) rfl
theorem wc_X3_travel : Cond.code yX3_travel cX3_travel 2 (some .int) ∈ lwg := lwg_of (List.mem_of_getElem? (i := 578) (by decide +kernel)) rfl
theorem wm_X3_travel : Cond.instanceMethod yX3_travel ∈ lwg := lwg_of (List.mem_of_getElem? (i := 576) (by decide +kernel)) rfl
theorem ws_X3_travel : Cond.selects RX3 yX3_travel yX3_travel ∈ lwg := lwg_of (List.mem_of_getElem? (i := 577) (by decide +kernel)) rfl
theorem wc_X3_book : Cond.code yX3_book cX3_book 3 (some .int) ∈ lwg := lwg_of (List.mem_of_getElem? (i := 586) (by decide +kernel)) rfl
theorem wm_X3_book : Cond.instanceMethod yX3_book ∈ lwg := lwg_of (List.mem_of_getElem? (i := 584) (by decide +kernel)) rfl
theorem ws_X3_book : Cond.selects RX3 yX3_book yX3_book ∈ lwg := lwg_of (List.mem_of_getElem? (i := 585) (by decide +kernel)) rfl
theorem wc_X3_went : Cond.code yX3_went cX3_went 3 (some .int) ∈ lwg := lwg_of (List.mem_of_getElem? (i := 594) (by decide +kernel)) rfl
theorem wm_X3_went : Cond.instanceMethod yX3_went ∈ lwg := lwg_of (List.mem_of_getElem? (i := 592) (by decide +kernel)) rfl
theorem ws_X3_went : Cond.selects RX3 yX3_went yX3_went ∈ lwg := lwg_of (List.mem_of_getElem? (i := 593) (by decide +kernel)) rfl
theorem wc_X3_undo : Cond.code yX3_undo cX3_undo 2 (some .int) ∈ lwg := lwg_of (List.mem_of_getElem? (i := 598) (by decide +kernel)) rfl
theorem wm_X3_undo : Cond.instanceMethod yX3_undo ∈ lwg := lwg_of (List.mem_of_getElem? (i := 596) (by decide +kernel)) rfl
theorem ws_X3_undo : Cond.selects RX3 yX3_undo yX3_undo ∈ lwg := lwg_of (List.mem_of_getElem? (i := 597) (by decide +kernel)) rfl
theorem wc_X3_row : Cond.code yX3_row cX3_row 2 (some .int) ∈ lwg := lwg_of (List.mem_of_getElem? (i := 684) (by decide +kernel)) rfl
theorem wm_X3_row : Cond.instanceMethod yX3_row ∈ lwg := lwg_of (List.mem_of_getElem? (i := 682) (by decide +kernel)) rfl
theorem ws_X3_row : Cond.selects RX3 yX3_row yX3_row ∈ lwg := lwg_of (List.mem_of_getElem? (i := 683) (by decide +kernel)) rfl
theorem wc_X3_keepRow : Cond.code yX3_keepRow cX3_keepRow 2 none ∈ lwg := lwg_of (List.mem_of_getElem? (i := 535) (by decide +kernel)) rfl
theorem wm_X3_keepRow : Cond.instanceMethod yX3_keepRow ∈ lwg := lwg_of (List.mem_of_getElem? (i := 534) (by decide +kernel)) rfl
theorem ws_X3_keepRow : Cond.selects RX3 yX3_keepRow yX3_keepRow ∈ lwg := lwg_of (List.mem_of_getElem? (i := 35) (by decide +kernel)) rfl
theorem wc_X3_isOneToNine : Cond.code yX3_isOneToNine cX3_isOneToNine 1 (some .boolean) ∈ lwg := lwg_of (List.mem_of_getElem? (i := 246) (by decide +kernel)) rfl
theorem wt_X3_isOneToNine : Cond.static yX3_isOneToNine ∈ lwg := lwg_of (List.mem_of_getElem? (i := 245) (by decide +kernel)) rfl
theorem wc_X3_isFamily : Cond.code yX3_isFamily cX3_isFamily 2 (some .boolean) ∈ lwg := lwg_of (List.mem_of_getElem? (i := 258) (by decide +kernel)) rfl
theorem wm_X3_isFamily : Cond.instanceMethod yX3_isFamily ∈ lwg := lwg_of (List.mem_of_getElem? (i := 257) (by decide +kernel)) rfl
theorem ws_X3_isFamily : Cond.selects RX3 yX3_isFamily yX3_isFamily ∈ lwg := lwg_of (List.mem_of_getElem? (i := 0) (by decide +kernel)) rfl
theorem wc_X3_areTwo : Cond.code yX3_areTwo cX3_areTwo 3 (some .boolean) ∈ lwg := lwg_of (List.mem_of_getElem? (i := 270) (by decide +kernel)) rfl
theorem wm_X3_areTwo : Cond.instanceMethod yX3_areTwo ∈ lwg := lwg_of (List.mem_of_getElem? (i := 269) (by decide +kernel)) rfl
theorem ws_X3_areTwo : Cond.selects RX3 yX3_areTwo yX3_areTwo ∈ lwg := lwg_of (List.mem_of_getElem? (i := 2) (by decide +kernel)) rfl
theorem wc_X3_canBecomeWish : Cond.code yX3_canBecomeWish cX3_canBecomeWish 3 (some .boolean) ∈ lwg := lwg_of (List.mem_of_getElem? (i := 266) (by decide +kernel)) rfl
theorem wm_X3_canBecomeWish : Cond.instanceMethod yX3_canBecomeWish ∈ lwg := lwg_of (List.mem_of_getElem? (i := 265) (by decide +kernel)) rfl
theorem ws_X3_canBecomeWish : Cond.selects RX3 yX3_canBecomeWish yX3_canBecomeWish ∈ lwg := lwg_of (List.mem_of_getElem? (i := 1) (by decide +kernel)) rfl
theorem wc_X3_copySheet : Cond.code yX3_copySheet cX3_copySheet 9 none ∈ lwg := lwg_of (List.mem_of_getElem? (i := 286) (by decide +kernel)) rfl
theorem wm_X3_copySheet : Cond.instanceMethod yX3_copySheet ∈ lwg := lwg_of (List.mem_of_getElem? (i := 285) (by decide +kernel)) rfl
theorem ws_X3_copySheet : Cond.selects RX3 yX3_copySheet yX3_copySheet ∈ lwg := lwg_of (List.mem_of_getElem? (i := 3) (by decide +kernel)) rfl
theorem wc_X3_hindrance : Cond.code yX3_hindrance cX3_hindrance 5 (some .int) ∈ lwg := lwg_of (List.mem_of_getElem? (i := 330) (by decide +kernel)) rfl
theorem wm_X3_hindrance : Cond.instanceMethod yX3_hindrance ∈ lwg := lwg_of (List.mem_of_getElem? (i := 329) (by decide +kernel)) rfl
theorem ws_X3_hindrance : Cond.selects RX3 yX3_hindrance yX3_hindrance ∈ lwg := lwg_of (List.mem_of_getElem? (i := 9) (by decide +kernel)) rfl
theorem wc_X3_takes : Cond.code yX3_takes cX3_takes 3 (some .boolean) ∈ lwg := lwg_of (List.mem_of_getElem? (i := 326) (by decide +kernel)) rfl
theorem wm_X3_takes : Cond.instanceMethod yX3_takes ∈ lwg := lwg_of (List.mem_of_getElem? (i := 325) (by decide +kernel)) rfl
theorem ws_X3_takes : Cond.selects RX3 yX3_takes yX3_takes ∈ lwg := lwg_of (List.mem_of_getElem? (i := 8) (by decide +kernel)) rfl
theorem wc_X3_countTaken : Cond.code yX3_countTaken cX3_countTaken 4 (some .int) ∈ lwg := lwg_of (List.mem_of_getElem? (i := 676) (by decide +kernel)) rfl
theorem wm_X3_countTaken : Cond.instanceMethod yX3_countTaken ∈ lwg := lwg_of (List.mem_of_getElem? (i := 675) (by decide +kernel)) rfl
theorem ws_X3_countTaken : Cond.selects RX3 yX3_countTaken yX3_countTaken ∈ lwg := lwg_of (List.mem_of_getElem? (i := 44) (by decide +kernel)) rfl
theorem wc_X3_countPresent : Cond.code yX3_countPresent cX3_countPresent 3 (some .int) ∈ lwg := lwg_of (List.mem_of_getElem? (i := 310) (by decide +kernel)) rfl
theorem wm_X3_countPresent : Cond.instanceMethod yX3_countPresent ∈ lwg := lwg_of (List.mem_of_getElem? (i := 309) (by decide +kernel)) rfl
theorem ws_X3_countPresent : Cond.selects RX3 yX3_countPresent yX3_countPresent ∈ lwg := lwg_of (List.mem_of_getElem? (i := 4) (by decide +kernel)) rfl
theorem wc_X3_countGoing : Cond.code yX3_countGoing cX3_countGoing 3 (some .int) ∈ lwg := lwg_of (List.mem_of_getElem? (i := 314) (by decide +kernel)) rfl
theorem wm_X3_countGoing : Cond.instanceMethod yX3_countGoing ∈ lwg := lwg_of (List.mem_of_getElem? (i := 313) (by decide +kernel)) rfl
theorem ws_X3_countGoing : Cond.selects RX3 yX3_countGoing yX3_countGoing ∈ lwg := lwg_of (List.mem_of_getElem? (i := 5) (by decide +kernel)) rfl
theorem wc_X3_planRank : Cond.code yX3_planRank cX3_planRank 2 (some .int) ∈ lwg := lwg_of (List.mem_of_getElem? (i := 376) (by decide +kernel)) rfl
theorem wm_X3_planRank : Cond.instanceMethod yX3_planRank ∈ lwg := lwg_of (List.mem_of_getElem? (i := 375) (by decide +kernel)) rfl
theorem ws_X3_planRank : Cond.selects RX3 yX3_planRank yX3_planRank ∈ lwg := lwg_of (List.mem_of_getElem? (i := 15) (by decide +kernel)) rfl
theorem wc_X3_sumOfRanks : Cond.code yX3_sumOfRanks cX3_sumOfRanks 3 (some .int) ∈ lwg := lwg_of (List.mem_of_getElem? (i := 372) (by decide +kernel)) rfl
theorem wm_X3_sumOfRanks : Cond.instanceMethod yX3_sumOfRanks ∈ lwg := lwg_of (List.mem_of_getElem? (i := 371) (by decide +kernel)) rfl
theorem ws_X3_sumOfRanks : Cond.selects RX3 yX3_sumOfRanks yX3_sumOfRanks ∈ lwg := lwg_of (List.mem_of_getElem? (i := 14) (by decide +kernel)) rfl
theorem wc_X3_firstGuest : Cond.code yX3_firstGuest cX3_firstGuest 3 (some .int) ∈ lwg := lwg_of (List.mem_of_getElem? (i := 360) (by decide +kernel)) rfl
theorem wm_X3_firstGuest : Cond.instanceMethod yX3_firstGuest ∈ lwg := lwg_of (List.mem_of_getElem? (i := 359) (by decide +kernel)) rfl
theorem ws_X3_firstGuest : Cond.selects RX3 yX3_firstGuest yX3_firstGuest ∈ lwg := lwg_of (List.mem_of_getElem? (i := 11) (by decide +kernel)) rfl
theorem wc_X3_isLiked : Cond.code yX3_isLiked cX3_isLiked 4 (some .boolean) ∈ lwg := lwg_of (List.mem_of_getElem? (i := 516) (by decide +kernel)) rfl
theorem wm_X3_isLiked : Cond.instanceMethod yX3_isLiked ∈ lwg := lwg_of (List.mem_of_getElem? (i := 515) (by decide +kernel)) rfl
theorem ws_X3_isLiked : Cond.selects RX3 yX3_isLiked yX3_isLiked ∈ lwg := lwg_of (List.mem_of_getElem? (i := 33) (by decide +kernel)) rfl
theorem wc_X3_faultOfClosing : Cond.code yX3_faultOfClosing cX3_faultOfClosing 2 (some .int) ∈ lwg := lwg_of (List.mem_of_getElem? (i := 322) (by decide +kernel)) rfl
theorem wm_X3_faultOfClosing : Cond.instanceMethod yX3_faultOfClosing ∈ lwg := lwg_of (List.mem_of_getElem? (i := 321) (by decide +kernel)) rfl
theorem ws_X3_faultOfClosing : Cond.selects RX3 yX3_faultOfClosing yX3_faultOfClosing ∈ lwg := lwg_of (List.mem_of_getElem? (i := 7) (by decide +kernel)) rfl
theorem wc_X3_hasRival : Cond.code yX3_hasRival cX3_hasRival 3 (some .boolean) ∈ lwg := lwg_of (List.mem_of_getElem? (i := 356) (by decide +kernel)) rfl
theorem wm_X3_hasRival : Cond.instanceMethod yX3_hasRival ∈ lwg := lwg_of (List.mem_of_getElem? (i := 355) (by decide +kernel)) rfl
theorem ws_X3_hasRival : Cond.selects RX3 yX3_hasRival yX3_hasRival ∈ lwg := lwg_of (List.mem_of_getElem? (i := 10) (by decide +kernel)) rfl
theorem wc_X3_faultOfLength : Cond.code yX3_faultOfLength cX3_faultOfLength 2 (some .int) ∈ lwg := lwg_of (List.mem_of_getElem? (i := 401) (by decide +kernel)) rfl
theorem wm_X3_faultOfLength : Cond.instanceMethod yX3_faultOfLength ∈ lwg := lwg_of (List.mem_of_getElem? (i := 400) (by decide +kernel)) rfl
theorem ws_X3_faultOfLength : Cond.selects RX3 yX3_faultOfLength yX3_faultOfLength ∈ lwg := lwg_of (List.mem_of_getElem? (i := 16) (by decide +kernel)) rfl
theorem wc_X3_ringLength : Cond.code yX3_ringLength cX3_ringLength 4 (some .int) ∈ lwg := lwg_of (List.mem_of_getElem? (i := 368) (by decide +kernel)) rfl
theorem wm_X3_ringLength : Cond.instanceMethod yX3_ringLength ∈ lwg := lwg_of (List.mem_of_getElem? (i := 367) (by decide +kernel)) rfl
theorem ws_X3_ringLength : Cond.selects RX3 yX3_ringLength yX3_ringLength ∈ lwg := lwg_of (List.mem_of_getElem? (i := 13) (by decide +kernel)) rfl
theorem wc_X3_countRings : Cond.code yX3_countRings cX3_countRings 3 (some .int) ∈ lwg := lwg_of (List.mem_of_getElem? (i := 318) (by decide +kernel)) rfl
theorem wm_X3_countRings : Cond.instanceMethod yX3_countRings ∈ lwg := lwg_of (List.mem_of_getElem? (i := 317) (by decide +kernel)) rfl
theorem ws_X3_countRings : Cond.selects RX3 yX3_countRings yX3_countRings ∈ lwg := lwg_of (List.mem_of_getElem? (i := 6) (by decide +kernel)) rfl
theorem wc_X3_isLeastOfRing : Cond.code yX3_isLeastOfRing cX3_isLeastOfRing 5 (some .boolean) ∈ lwg := lwg_of (List.mem_of_getElem? (i := 364) (by decide +kernel)) rfl
theorem wm_X3_isLeastOfRing : Cond.instanceMethod yX3_isLeastOfRing ∈ lwg := lwg_of (List.mem_of_getElem? (i := 363) (by decide +kernel)) rfl
theorem ws_X3_isLeastOfRing : Cond.selects RX3 yX3_isLeastOfRing yX3_isLeastOfRing ∈ lwg := lwg_of (List.mem_of_getElem? (i := 12) (by decide +kernel)) rfl
theorem wc_X3_clearPlan : Cond.code yX3_clearPlan cX3_clearPlan 2 none ∈ lwg := lwg_of (List.mem_of_getElem? (i := 480) (by decide +kernel)) rfl
theorem wm_X3_clearPlan : Cond.instanceMethod yX3_clearPlan ∈ lwg := lwg_of (List.mem_of_getElem? (i := 479) (by decide +kernel)) rfl
theorem ws_X3_clearPlan : Cond.selects RX3 yX3_clearPlan yX3_clearPlan ∈ lwg := lwg_of (List.mem_of_getElem? (i := 26) (by decide +kernel)) rfl
theorem wc_X3_planRings : Cond.code yX3_planRings cX3_planRings 5 (some .int) ∈ lwg := lwg_of (List.mem_of_getElem? (i := 409) (by decide +kernel)) rfl
theorem wm_X3_planRings : Cond.instanceMethod yX3_planRings ∈ lwg := lwg_of (List.mem_of_getElem? (i := 408) (by decide +kernel)) rfl
theorem ws_X3_planRings : Cond.selects RX3 yX3_planRings yX3_planRings ∈ lwg := lwg_of (List.mem_of_getElem? (i := 17) (by decide +kernel)) rfl
end
section
theorem wc_X3_showHomes : Cond.code yX3_showHomes cX3_showHomes 5 (some .int) ∈ lwg := lwg_of (List.mem_of_getElem? (i := 484) (by decide +kernel)) rfl
theorem wm_X3_showHomes : Cond.instanceMethod yX3_showHomes ∈ lwg := lwg_of (List.mem_of_getElem? (i := 483) (by decide +kernel)) rfl
theorem ws_X3_showHomes : Cond.selects RX3 yX3_showHomes yX3_showHomes ∈ lwg := lwg_of (List.mem_of_getElem? (i := 27) (by decide +kernel)) rfl
theorem wc_X3_firstWithoutHome : Cond.code yX3_firstWithoutHome cX3_firstWithoutHome 3 (some .int) ∈ lwg := lwg_of (List.mem_of_getElem? (i := 488) (by decide +kernel)) rfl
theorem wm_X3_firstWithoutHome : Cond.instanceMethod yX3_firstWithoutHome ∈ lwg := lwg_of (List.mem_of_getElem? (i := 487) (by decide +kernel)) rfl
theorem ws_X3_firstWithoutHome : Cond.selects RX3 yX3_firstWithoutHome yX3_firstWithoutHome ∈ lwg := lwg_of (List.mem_of_getElem? (i := 28) (by decide +kernel)) rfl
theorem wc_X3_likedMost : Cond.code yX3_likedMost cX3_likedMost 6 (some .int) ∈ lwg := lwg_of (List.mem_of_getElem? (i := 492) (by decide +kernel)) rfl
theorem wm_X3_likedMost : Cond.instanceMethod yX3_likedMost ∈ lwg := lwg_of (List.mem_of_getElem? (i := 491) (by decide +kernel)) rfl
theorem ws_X3_likedMost : Cond.selects RX3 yX3_likedMost yX3_likedMost ∈ lwg := lwg_of (List.mem_of_getElem? (i := 29) (by decide +kernel)) rfl
theorem wc_X3_sendShownRing : Cond.code yX3_sendShownRing cX3_sendShownRing 3 (some .int) ∈ lwg := lwg_of (List.mem_of_getElem? (i := 496) (by decide +kernel)) rfl
theorem wm_X3_sendShownRing : Cond.instanceMethod yX3_sendShownRing ∈ lwg := lwg_of (List.mem_of_getElem? (i := 495) (by decide +kernel)) rfl
theorem ws_X3_sendShownRing : Cond.selects RX3 yX3_sendShownRing yX3_sendShownRing ∈ lwg := lwg_of (List.mem_of_getElem? (i := 30) (by decide +kernel)) rfl
theorem wc_X3_comesRound : Cond.code yX3_comesRound cX3_comesRound 4 (some .boolean) ∈ lwg := lwg_of (List.mem_of_getElem? (i := 500) (by decide +kernel)) rfl
theorem wm_X3_comesRound : Cond.instanceMethod yX3_comesRound ∈ lwg := lwg_of (List.mem_of_getElem? (i := 499) (by decide +kernel)) rfl
theorem ws_X3_comesRound : Cond.selects RX3 yX3_comesRound yX3_comesRound ∈ lwg := lwg_of (List.mem_of_getElem? (i := 31) (by decide +kernel)) rfl
theorem wc_X3_sendAsShown : Cond.code yX3_sendAsShown cX3_sendAsShown 5 (some .int) ∈ lwg := lwg_of (List.mem_of_getElem? (i := 504) (by decide +kernel)) rfl
theorem wm_X3_sendAsShown : Cond.instanceMethod yX3_sendAsShown ∈ lwg := lwg_of (List.mem_of_getElem? (i := 503) (by decide +kernel)) rfl
theorem ws_X3_sendAsShown : Cond.selects RX3 yX3_sendAsShown yX3_sendAsShown ∈ lwg := lwg_of (List.mem_of_getElem? (i := 32) (by decide +kernel)) rfl
theorem wc_X3_addChainWaysTo : Cond.code yX3_addChainWaysTo cX3_addChainWaysTo 6 none ∈ lwg := lwg_of (List.mem_of_getElem? (i := 547) (by decide +kernel)) rfl
theorem wm_X3_addChainWaysTo : Cond.instanceMethod yX3_addChainWaysTo ∈ lwg := lwg_of (List.mem_of_getElem? (i := 546) (by decide +kernel)) rfl
theorem ws_X3_addChainWaysTo : Cond.selects RX3 yX3_addChainWaysTo yX3_addChainWaysTo ∈ lwg := lwg_of (List.mem_of_getElem? (i := 36) (by decide +kernel)) rfl
theorem wc_X3_pay : Cond.code yX3_pay cX3_pay 5 none ∈ lwg := lwg_of (List.mem_of_getElem? (i := 582) (by decide +kernel)) rfl
theorem wm_X3_pay : Cond.instanceMethod yX3_pay ∈ lwg := lwg_of (List.mem_of_getElem? (i := 581) (by decide +kernel)) rfl
theorem ws_X3_pay : Cond.selects RX3 yX3_pay yX3_pay ∈ lwg := lwg_of (List.mem_of_getElem? (i := 41) (by decide +kernel)) rfl
theorem wc_X3_payPlan : Cond.code yX3_payPlan cX3_payPlan 3 none ∈ lwg := lwg_of (List.mem_of_getElem? (i := 590) (by decide +kernel)) rfl
theorem wm_X3_payPlan : Cond.instanceMethod yX3_payPlan ∈ lwg := lwg_of (List.mem_of_getElem? (i := 589) (by decide +kernel)) rfl
theorem ws_X3_payPlan : Cond.selects RX3 yX3_payPlan yX3_payPlan ∈ lwg := lwg_of (List.mem_of_getElem? (i := 42) (by decide +kernel)) rfl
theorem wc_X4_init : Cond.code yX4_init cX4_init 1 none ∈ lwg := lwg_of (List.mem_of_getElem? (i := 690) (by decide +kernel)) rfl
theorem wm_X4_init : Cond.instanceMethod yX4_init ∈ lwg := lwg_of (List.mem_of_getElem? (i := 689) (by decide +kernel)) rfl
theorem wc_X4_thrown : Cond.code yX4_thrown cX4_thrown 1 (some .int) ∈ lwg := lwg_of (List.mem_of_getElem? (i := 805) (by decide +kernel)) rfl
theorem wm_X4_thrown : Cond.instanceMethod yX4_thrown ∈ lwg := lwg_of (List.mem_of_getElem? (i := 803) (by decide +kernel)) rfl
theorem ws_X4_thrown : Cond.selects RX4 yX4_thrown yX4_thrown ∈ lwg := lwg_of (List.mem_of_getElem? (i := 804) (by decide +kernel)) rfl
theorem wc_X4_lies : Cond.code yX4_lies cX4_lies 6 (some .boolean) ∈ lwg := lwg_of (List.mem_of_getElem? (i := 813) (by decide +kernel)) rfl
theorem wt_X4_lies : Cond.static yX4_lies ∈ lwg := lwg_of (List.mem_of_getElem? (i := 812) (by decide +kernel)) rfl
theorem wc_X4_refuse : Cond.code yX4_refuse cX4_refuse 1 (some .int) ∈ lwg := lwg_of (List.mem_of_getElem? (i := 926) (by decide +kernel)) rfl
theorem wm_X4_refuse : Cond.instanceMethod yX4_refuse ∈ lwg := lwg_of (List.mem_of_getElem? (i := 925) (by decide +kernel)) rfl
theorem ws_X4_refuse : Cond.selects RX4 yX4_refuse yX4_refuse ∈ lwg := lwg_of (List.mem_of_getElem? (i := 58) (by decide +kernel)) rfl
theorem wc_X4_isFamily : Cond.code yX4_isFamily cX4_isFamily 2 (some .boolean) ∈ lwg := lwg_of (List.mem_of_getElem? (i := 822) (by decide +kernel)) rfl
theorem wm_X4_isFamily : Cond.instanceMethod yX4_isFamily ∈ lwg := lwg_of (List.mem_of_getElem? (i := 821) (by decide +kernel)) rfl
theorem ws_X4_isFamily : Cond.selects RX4 yX4_isFamily yX4_isFamily ∈ lwg := lwg_of (List.mem_of_getElem? (i := 45) (by decide +kernel)) rfl
theorem wc_X4_areTwo : Cond.code yX4_areTwo cX4_areTwo 3 (some .boolean) ∈ lwg := lwg_of (List.mem_of_getElem? (i := 831) (by decide +kernel)) rfl
theorem wm_X4_areTwo : Cond.instanceMethod yX4_areTwo ∈ lwg := lwg_of (List.mem_of_getElem? (i := 830) (by decide +kernel)) rfl
theorem ws_X4_areTwo : Cond.selects RX4 yX4_areTwo yX4_areTwo ∈ lwg := lwg_of (List.mem_of_getElem? (i := 46) (by decide +kernel)) rfl
theorem wc_X4_family : Cond.code yX4_family cX4_family 6 (some .int) ∈ lwg := lwg_of (List.mem_of_getElem? (i := 809) (by decide +kernel)) rfl
theorem wm_X4_family : Cond.instanceMethod yX4_family ∈ lwg := lwg_of (List.mem_of_getElem? (i := 807) (by decide +kernel)) rfl
theorem ws_X4_family : Cond.selects RX4 yX4_family yX4_family ∈ lwg := lwg_of (List.mem_of_getElem? (i := 808) (by decide +kernel)) rfl
theorem wc_X4_weeks : Cond.code yX4_weeks cX4_weeks 5 (some .boolean) ∈ lwg := lwg_of (List.mem_of_getElem? (i := 818) (by decide +kernel)) rfl
theorem wm_X4_weeks : Cond.instanceMethod yX4_weeks ∈ lwg := lwg_of (List.mem_of_getElem? (i := 816) (by decide +kernel)) rfl
theorem ws_X4_weeks : Cond.selects RX4 yX4_weeks yX4_weeks ∈ lwg := lwg_of (List.mem_of_getElem? (i := 817) (by decide +kernel)) rfl
theorem wc_X4_rankOf : Cond.code yX4_rankOf cX4_rankOf 4 (some .int) ∈ lwg := lwg_of (List.mem_of_getElem? (i := 835) (by decide +kernel)) rfl
theorem wm_X4_rankOf : Cond.instanceMethod yX4_rankOf ∈ lwg := lwg_of (List.mem_of_getElem? (i := 834) (by decide +kernel)) rfl
theorem ws_X4_rankOf : Cond.selects RX4 yX4_rankOf yX4_rankOf ∈ lwg := lwg_of (List.mem_of_getElem? (i := 47) (by decide +kernel)) rfl
theorem wc_X4_wants : Cond.code yX4_wants cX4_wants 3 none ∈ lwg := lwg_of (List.mem_of_getElem? (i := 839) (by decide +kernel)) rfl
theorem wm_X4_wants : Cond.instanceMethod yX4_wants ∈ lwg := lwg_of (List.mem_of_getElem? (i := 838) (by decide +kernel)) rfl
theorem ws_X4_wants : Cond.selects RX4 yX4_wants yX4_wants ∈ lwg := lwg_of (List.mem_of_getElem? (i := 48) (by decide +kernel)) rfl
theorem wc_X4_wish : Cond.code yX4_wish cX4_wish 3 (some .int) ∈ lwg := lwg_of (List.mem_of_getElem? (i := 827) (by decide +kernel)) rfl
theorem wm_X4_wish : Cond.instanceMethod yX4_wish ∈ lwg := lwg_of (List.mem_of_getElem? (i := 825) (by decide +kernel)) rfl
theorem ws_X4_wish : Cond.selects RX4 yX4_wish yX4_wish ∈ lwg := lwg_of (List.mem_of_getElem? (i := 826) (by decide +kernel)) rfl
theorem wc_X4_wishes : Cond.code yX4_wishes cX4_wishes 8 (some .int) ∈ lwg := lwg_of (List.mem_of_getElem? (i := 843) (by decide +kernel)) rfl
theorem wm_X4_wishes : Cond.instanceMethod yX4_wishes ∈ lwg := lwg_of (List.mem_of_getElem? (i := 841) (by decide +kernel)) rfl
theorem ws_X4_wishes : Cond.selects RX4 yX4_wishes yX4_wishes ∈ lwg := lwg_of (List.mem_of_getElem? (i := 842) (by decide +kernel)) rfl
theorem wc_X4_bar : Cond.code yX4_bar cX4_bar 4 (some .boolean) ∈ lwg := lwg_of (List.mem_of_getElem? (i := 848) (by decide +kernel)) rfl
theorem wm_X4_bar : Cond.instanceMethod yX4_bar ∈ lwg := lwg_of (List.mem_of_getElem? (i := 846) (by decide +kernel)) rfl
theorem ws_X4_bar : Cond.selects RX4 yX4_bar yX4_bar ∈ lwg := lwg_of (List.mem_of_getElem? (i := 847) (by decide +kernel)) rfl
theorem wc_X4_in : Cond.code yX4_in cX4_in 3 (some .boolean) ∈ lwg := lwg_of (List.mem_of_getElem? (i := 852) (by decide +kernel)) rfl
theorem wm_X4_in : Cond.instanceMethod yX4_in ∈ lwg := lwg_of (List.mem_of_getElem? (i := 850) (by decide +kernel)) rfl
theorem ws_X4_in : Cond.selects RX4 yX4_in yX4_in ∈ lwg := lwg_of (List.mem_of_getElem? (i := 851) (by decide +kernel)) rfl
theorem wc_X4_set : Cond.code yX4_set cX4_set 4 (some .int) ∈ lwg := lwg_of (List.mem_of_getElem? (i := 856) (by decide +kernel)) rfl
theorem wm_X4_set : Cond.instanceMethod yX4_set ∈ lwg := lwg_of (List.mem_of_getElem? (i := 854) (by decide +kernel)) rfl
theorem ws_X4_set : Cond.selects RX4 yX4_set yX4_set ∈ lwg := lwg_of (List.mem_of_getElem? (i := 855) (by decide +kernel)) rfl
theorem wc_X4_sleeps : Cond.code yX4_sleeps cX4_sleeps 2 (some .int) ∈ lwg := lwg_of (List.mem_of_getElem? (i := 875) (by decide +kernel)) rfl
theorem wm_X4_sleeps : Cond.instanceMethod yX4_sleeps ∈ lwg := lwg_of (List.mem_of_getElem? (i := 874) (by decide +kernel)) rfl
theorem ws_X4_sleeps : Cond.selects RX4 yX4_sleeps yX4_sleeps ∈ lwg := lwg_of (List.mem_of_getElem? (i := 50) (by decide +kernel)) rfl
theorem wc_X4_worth : Cond.code yX4_worth cX4_worth 2 (some .int) ∈ lwg := lwg_of (List.mem_of_getElem? (i := 930) (by decide +kernel)) rfl
theorem wm_X4_worth : Cond.instanceMethod yX4_worth ∈ lwg := lwg_of (List.mem_of_getElem? (i := 929) (by decide +kernel)) rfl
theorem ws_X4_worth : Cond.selects RX4 yX4_worth yX4_worth ∈ lwg := lwg_of (List.mem_of_getElem? (i := 59) (by decide +kernel)) rfl
theorem wc_X4_barrier : Cond.code yX4_barrier cX4_barrier 4 (some .int) ∈ lwg := lwg_of (List.mem_of_getElem? (i := 871) (by decide +kernel)) rfl
theorem wm_X4_barrier : Cond.instanceMethod yX4_barrier ∈ lwg := lwg_of (List.mem_of_getElem? (i := 870) (by decide +kernel)) rfl
theorem ws_X4_barrier : Cond.selects RX4 yX4_barrier yX4_barrier ∈ lwg := lwg_of (List.mem_of_getElem? (i := 49) (by decide +kernel)) rfl
theorem wc_X4_takes : Cond.code yX4_takes cX4_takes 3 (some .boolean) ∈ lwg := lwg_of (List.mem_of_getElem? (i := 897) (by decide +kernel)) rfl
theorem wm_X4_takes : Cond.instanceMethod yX4_takes ∈ lwg := lwg_of (List.mem_of_getElem? (i := 896) (by decide +kernel)) rfl
theorem ws_X4_takes : Cond.selects RX4 yX4_takes yX4_takes ∈ lwg := lwg_of (List.mem_of_getElem? (i := 53) (by decide +kernel)) rfl
theorem wc_X4_rank : Cond.code yX4_rank cX4_rank 3 (some .int) ∈ lwg := lwg_of (List.mem_of_getElem? (i := 863) (by decide +kernel)) rfl
theorem wm_X4_rank : Cond.instanceMethod yX4_rank ∈ lwg := lwg_of (List.mem_of_getElem? (i := 861) (by decide +kernel)) rfl
theorem ws_X4_rank : Cond.selects RX4 yX4_rank yX4_rank ∈ lwg := lwg_of (List.mem_of_getElem? (i := 862) (by decide +kernel)) rfl
theorem wc_X4_can : Cond.code yX4_can cX4_can 3 (some .int) ∈ lwg := lwg_of (List.mem_of_getElem? (i := 867) (by decide +kernel)) rfl
theorem wm_X4_can : Cond.instanceMethod yX4_can ∈ lwg := lwg_of (List.mem_of_getElem? (i := 865) (by decide +kernel)) rfl
theorem ws_X4_can : Cond.selects RX4 yX4_can yX4_can ∈ lwg := lwg_of (List.mem_of_getElem? (i := 866) (by decide +kernel)) rfl
theorem wc_X4_week : Cond.code yX4_week cX4_week 3 (some .int) ∈ lwg := lwg_of (List.mem_of_getElem? (i := 881) (by decide +kernel)) rfl
theorem wm_X4_week : Cond.instanceMethod yX4_week ∈ lwg := lwg_of (List.mem_of_getElem? (i := 879) (by decide +kernel)) rfl
theorem ws_X4_week : Cond.selects RX4 yX4_week yX4_week ∈ lwg := lwg_of (List.mem_of_getElem? (i := 880) (by decide +kernel)) rfl
theorem wc_X4_guest : Cond.code yX4_guest cX4_guest 3 (some .int) ∈ lwg := lwg_of (List.mem_of_getElem? (i := 901) (by decide +kernel)) rfl
theorem wm_X4_guest : Cond.instanceMethod yX4_guest ∈ lwg := lwg_of (List.mem_of_getElem? (i := 900) (by decide +kernel)) rfl
theorem ws_X4_guest : Cond.selects RX4 yX4_guest yX4_guest ∈ lwg := lwg_of (List.mem_of_getElem? (i := 54) (by decide +kernel)) rfl
theorem wc_X4_goesAtAll : Cond.code yX4_goesAtAll cX4_goesAtAll 2 (some .boolean) ∈ lwg := lwg_of (List.mem_of_getElem? (i := 893) (by decide +kernel)) rfl
theorem wm_X4_goesAtAll : Cond.instanceMethod yX4_goesAtAll ∈ lwg := lwg_of (List.mem_of_getElem? (i := 892) (by decide +kernel)) rfl
theorem ws_X4_goesAtAll : Cond.selects RX4 yX4_goesAtAll yX4_goesAtAll ∈ lwg := lwg_of (List.mem_of_getElem? (i := 52) (by decide +kernel)) rfl
theorem wc_X4_open : Cond.code yX4_open cX4_open 3 (some .int) ∈ lwg := lwg_of (List.mem_of_getElem? (i := 889) (by decide +kernel)) rfl
theorem wm_X4_open : Cond.instanceMethod yX4_open ∈ lwg := lwg_of (List.mem_of_getElem? (i := 888) (by decide +kernel)) rfl
theorem ws_X4_open : Cond.selects RX4 yX4_open yX4_open ∈ lwg := lwg_of (List.mem_of_getElem? (i := 51) (by decide +kernel)) rfl
theorem wc_X4_ringOf : Cond.code yX4_ringOf cX4_ringOf 4 (some .int) ∈ lwg := lwg_of (List.mem_of_getElem? (i := 905) (by decide +kernel)) rfl
theorem wm_X4_ringOf : Cond.instanceMethod yX4_ringOf ∈ lwg := lwg_of (List.mem_of_getElem? (i := 904) (by decide +kernel)) rfl
theorem ws_X4_ringOf : Cond.selects RX4 yX4_ringOf yX4_ringOf ∈ lwg := lwg_of (List.mem_of_getElem? (i := 55) (by decide +kernel)) rfl
theorem wc_X4_wrong : Cond.code yX4_wrong cX4_wrong 3 (some .int) ∈ lwg := lwg_of (List.mem_of_getElem? (i := 885) (by decide +kernel)) rfl
theorem wm_X4_wrong : Cond.instanceMethod yX4_wrong ∈ lwg := lwg_of (List.mem_of_getElem? (i := 883) (by decide +kernel)) rfl
theorem ws_X4_wrong : Cond.selects RX4 yX4_wrong yX4_wrong ∈ lwg := lwg_of (List.mem_of_getElem? (i := 884) (by decide +kernel)) rfl
theorem wc_X4_goers : Cond.code yX4_goers cX4_goers 3 (some .int) ∈ lwg := lwg_of (List.mem_of_getElem? (i := 913) (by decide +kernel)) rfl
theorem wm_X4_goers : Cond.instanceMethod yX4_goers ∈ lwg := lwg_of (List.mem_of_getElem? (i := 912) (by decide +kernel)) rfl
theorem ws_X4_goers : Cond.selects RX4 yX4_goers yX4_goers ∈ lwg := lwg_of (List.mem_of_getElem? (i := 56) (by decide +kernel)) rfl
theorem wc_X4_rings : Cond.code yX4_rings cX4_rings 5 (some .int) ∈ lwg := lwg_of (List.mem_of_getElem? (i := 917) (by decide +kernel)) rfl
theorem wm_X4_rings : Cond.instanceMethod yX4_rings ∈ lwg := lwg_of (List.mem_of_getElem? (i := 916) (by decide +kernel)) rfl
theorem ws_X4_rings : Cond.selects RX4 yX4_rings yX4_rings ∈ lwg := lwg_of (List.mem_of_getElem? (i := 57) (by decide +kernel)) rfl
theorem wc_X4_count : Cond.code yX4_count cX4_count 5 (some .int) ∈ lwg := lwg_of (List.mem_of_getElem? (i := 909) (by decide +kernel)) rfl
theorem wm_X4_count : Cond.instanceMethod yX4_count ∈ lwg := lwg_of (List.mem_of_getElem? (i := 907) (by decide +kernel)) rfl
theorem ws_X4_count : Cond.selects RX4 yX4_count yX4_count ∈ lwg := lwg_of (List.mem_of_getElem? (i := 908) (by decide +kernel)) rfl
theorem wc_X4_of : Cond.code yX4_of cX4_of 5 (some .int) ∈ lwg := lwg_of (List.mem_of_getElem? (i := 921) (by decide +kernel)) rfl
theorem wm_X4_of : Cond.instanceMethod yX4_of ∈ lwg := lwg_of (List.mem_of_getElem? (i := 919) (by decide +kernel)) rfl
theorem ws_X4_of : Cond.selects RX4 yX4_of yX4_of ∈ lwg := lwg_of (List.mem_of_getElem? (i := 920) (by decide +kernel)) rfl
theorem wc_X4_put : Cond.code yX4_put cX4_put 3 (some .boolean) ∈ lwg := lwg_of (List.mem_of_getElem? (i := 934) (by decide +kernel)) rfl
theorem wm_X4_put : Cond.instanceMethod yX4_put ∈ lwg := lwg_of (List.mem_of_getElem? (i := 932) (by decide +kernel)) rfl
theorem ws_X4_put : Cond.selects RX4 yX4_put yX4_put ∈ lwg := lwg_of (List.mem_of_getElem? (i := 933) (by decide +kernel)) rfl
theorem wc_X4_mayBe : Cond.code yX4_mayBe cX4_mayBe 7 (some .boolean) ∈ lwg := lwg_of (List.mem_of_getElem? (i := 950) (by decide +kernel)) rfl
theorem wm_X4_mayBe : Cond.instanceMethod yX4_mayBe ∈ lwg := lwg_of (List.mem_of_getElem? (i := 949) (by decide +kernel)) rfl
theorem ws_X4_mayBe : Cond.selects RX4 yX4_mayBe yX4_mayBe ∈ lwg := lwg_of (List.mem_of_getElem? (i := 62) (by decide +kernel)) rfl
theorem wc_X4_isShort : Cond.code yX4_isShort cX4_isShort 9 (some .boolean) ∈ lwg := lwg_of (List.mem_of_getElem? (i := 958) (by decide +kernel)) rfl
theorem wm_X4_isShort : Cond.instanceMethod yX4_isShort ∈ lwg := lwg_of (List.mem_of_getElem? (i := 957) (by decide +kernel)) rfl
theorem ws_X4_isShort : Cond.selects RX4 yX4_isShort yX4_isShort ∈ lwg := lwg_of (List.mem_of_getElem? (i := 64) (by decide +kernel)) rfl
theorem wc_X4_offers : Cond.code yX4_offers cX4_offers 6 none ∈ lwg := lwg_of (List.mem_of_getElem? (i := 954) (by decide +kernel)) rfl
theorem wm_X4_offers : Cond.instanceMethod yX4_offers ∈ lwg := lwg_of (List.mem_of_getElem? (i := 953) (by decide +kernel)) rfl
theorem ws_X4_offers : Cond.selects RX4 yX4_offers yX4_offers ∈ lwg := lwg_of (List.mem_of_getElem? (i := 63) (by decide +kernel)) rfl
theorem wc_X4_goes : Cond.code yX4_goes cX4_goes 7 none ∈ lwg := lwg_of (List.mem_of_getElem? (i := 946) (by decide +kernel)) rfl
theorem wm_X4_goes : Cond.instanceMethod yX4_goes ∈ lwg := lwg_of (List.mem_of_getElem? (i := 945) (by decide +kernel)) rfl
theorem ws_X4_goes : Cond.selects RX4 yX4_goes yX4_goes ∈ lwg := lwg_of (List.mem_of_getElem? (i := 61) (by decide +kernel)) rfl
theorem wc_X4_all : Cond.code yX4_all cX4_all 3 none ∈ lwg := lwg_of (List.mem_of_getElem? (i := 942) (by decide +kernel)) rfl
theorem wm_X4_all : Cond.instanceMethod yX4_all ∈ lwg := lwg_of (List.mem_of_getElem? (i := 941) (by decide +kernel)) rfl
theorem ws_X4_all : Cond.selects RX4 yX4_all yX4_all ∈ lwg := lwg_of (List.mem_of_getElem? (i := 60) (by decide +kernel)) rfl
theorem wc_X4_best : Cond.code yX4_best cX4_best 1 (some .int) ∈ lwg := lwg_of (List.mem_of_getElem? (i := 938) (by decide +kernel)) rfl
theorem wm_X4_best : Cond.instanceMethod yX4_best ∈ lwg := lwg_of (List.mem_of_getElem? (i := 936) (by decide +kernel)) rfl
theorem ws_X4_best : Cond.selects RX4 yX4_best yX4_best ∈ lwg := lwg_of (List.mem_of_getElem? (i := 937) (by decide +kernel)) rfl
theorem wc_X4_mend : Cond.code yX4_mend cX4_mend 1 (some .int) ∈ lwg := lwg_of (List.mem_of_getElem? (i := 962) (by decide +kernel)) rfl
theorem wm_X4_mend : Cond.instanceMethod yX4_mend ∈ lwg := lwg_of (List.mem_of_getElem? (i := 960) (by decide +kernel)) rfl
theorem ws_X4_mend : Cond.selects RX4 yX4_mend yX4_mend ∈ lwg := lwg_of (List.mem_of_getElem? (i := 961) (by decide +kernel)) rfl
theorem wc_X4_firstOf : Cond.code yX4_firstOf cX4_firstOf 4 (some .int) ∈ lwg := lwg_of (List.mem_of_getElem? (i := 974) (by decide +kernel)) rfl
theorem wm_X4_firstOf : Cond.instanceMethod yX4_firstOf ∈ lwg := lwg_of (List.mem_of_getElem? (i := 973) (by decide +kernel)) rfl
theorem ws_X4_firstOf : Cond.selects RX4 yX4_firstOf yX4_firstOf ∈ lwg := lwg_of (List.mem_of_getElem? (i := 66) (by decide +kernel)) rfl
theorem wc_X4_leaver : Cond.code yX4_leaver cX4_leaver 2 (some .int) ∈ lwg := lwg_of (List.mem_of_getElem? (i := 970) (by decide +kernel)) rfl
theorem wm_X4_leaver : Cond.instanceMethod yX4_leaver ∈ lwg := lwg_of (List.mem_of_getElem? (i := 969) (by decide +kernel)) rfl
theorem ws_X4_leaver : Cond.selects RX4 yX4_leaver yX4_leaver ∈ lwg := lwg_of (List.mem_of_getElem? (i := 65) (by decide +kernel)) rfl
theorem wc_X4_isRound : Cond.code yX4_isRound cX4_isRound 4 (some .boolean) ∈ lwg := lwg_of (List.mem_of_getElem? (i := 978) (by decide +kernel)) rfl
theorem wm_X4_isRound : Cond.instanceMethod yX4_isRound ∈ lwg := lwg_of (List.mem_of_getElem? (i := 977) (by decide +kernel)) rfl
theorem ws_X4_isRound : Cond.selects RX4 yX4_isRound yX4_isRound ∈ lwg := lwg_of (List.mem_of_getElem? (i := 67) (by decide +kernel)) rfl
theorem wc_X4_trade : Cond.code yX4_trade cX4_trade 5 (some .int) ∈ lwg := lwg_of (List.mem_of_getElem? (i := 966) (by decide +kernel)) rfl
theorem wm_X4_trade : Cond.instanceMethod yX4_trade ∈ lwg := lwg_of (List.mem_of_getElem? (i := 964) (by decide +kernel)) rfl
theorem ws_X4_trade : Cond.selects RX4 yX4_trade yX4_trade ∈ lwg := lwg_of (List.mem_of_getElem? (i := 965) (by decide +kernel)) rfl
theorem wc_X4_wouldRather : Cond.code yX4_wouldRather cX4_wouldRather 4 (some .boolean) ∈ lwg := lwg_of (List.mem_of_getElem? (i := 990) (by decide +kernel)) rfl
theorem wm_X4_wouldRather : Cond.instanceMethod yX4_wouldRather ∈ lwg := lwg_of (List.mem_of_getElem? (i := 989) (by decide +kernel)) rfl
theorem ws_X4_wouldRather : Cond.selects RX4 yX4_wouldRather yX4_wouldRather ∈ lwg := lwg_of (List.mem_of_getElem? (i := 69) (by decide +kernel)) rfl
theorem wc_X4_closes : Cond.code yX4_closes cX4_closes 6 (some .boolean) ∈ lwg := lwg_of (List.mem_of_getElem? (i := 986) (by decide +kernel)) rfl
theorem wm_X4_closes : Cond.instanceMethod yX4_closes ∈ lwg := lwg_of (List.mem_of_getElem? (i := 985) (by decide +kernel)) rfl
theorem ws_X4_closes : Cond.selects RX4 yX4_closes yX4_closes ∈ lwg := lwg_of (List.mem_of_getElem? (i := 68) (by decide +kernel)) rfl
theorem wc_X4_tells : Cond.code yX4_tells cX4_tells 3 (some .int) ∈ lwg := lwg_of (List.mem_of_getElem? (i := 994) (by decide +kernel)) rfl
theorem wm_X4_tells : Cond.instanceMethod yX4_tells ∈ lwg := lwg_of (List.mem_of_getElem? (i := 993) (by decide +kernel)) rfl
theorem ws_X4_tells : Cond.selects RX4 yX4_tells yX4_tells ∈ lwg := lwg_of (List.mem_of_getElem? (i := 70) (by decide +kernel)) rfl
theorem wc_X4_blocks : Cond.code yX4_blocks cX4_blocks 3 (some .int) ∈ lwg := lwg_of (List.mem_of_getElem? (i := 982) (by decide +kernel)) rfl
theorem wm_X4_blocks : Cond.instanceMethod yX4_blocks ∈ lwg := lwg_of (List.mem_of_getElem? (i := 980) (by decide +kernel)) rfl
theorem ws_X4_blocks : Cond.selects RX4 yX4_blocks yX4_blocks ∈ lwg := lwg_of (List.mem_of_getElem? (i := 981) (by decide +kernel)) rfl
theorem wc_X4_ring : Cond.code yX4_ring cX4_ring 4 (some .int) ∈ lwg := lwg_of (List.mem_of_getElem? (i := 998) (by decide +kernel)) rfl
theorem wm_X4_ring : Cond.instanceMethod yX4_ring ∈ lwg := lwg_of (List.mem_of_getElem? (i := 996) (by decide +kernel)) rfl
theorem ws_X4_ring : Cond.selects RX4 yX4_ring yX4_ring ∈ lwg := lwg_of (List.mem_of_getElem? (i := 997) (by decide +kernel)) rfl
theorem wc_X4_goesOn : Cond.code yX4_goesOn cX4_goesOn 6 none ∈ lwg := lwg_of (List.mem_of_getElem? (i := 1006) (by decide +kernel)) rfl
theorem wm_X4_goesOn : Cond.instanceMethod yX4_goesOn ∈ lwg := lwg_of (List.mem_of_getElem? (i := 1005) (by decide +kernel)) rfl
theorem ws_X4_goesOn : Cond.selects RX4 yX4_goesOn yX4_goesOn ∈ lwg := lwg_of (List.mem_of_getElem? (i := 71) (by decide +kernel)) rfl
theorem wc_X4_chain : Cond.code yX4_chain cX4_chain 3 (some .int) ∈ lwg := lwg_of (List.mem_of_getElem? (i := 1002) (by decide +kernel)) rfl
theorem wm_X4_chain : Cond.instanceMethod yX4_chain ∈ lwg := lwg_of (List.mem_of_getElem? (i := 1000) (by decide +kernel)) rfl
theorem ws_X4_chain : Cond.selects RX4 yX4_chain yX4_chain ∈ lwg := lwg_of (List.mem_of_getElem? (i := 1001) (by decide +kernel)) rfl
theorem wc_X4_travel : Cond.code yX4_travel cX4_travel 3 (some .int) ∈ lwg := lwg_of (List.mem_of_getElem? (i := 1010) (by decide +kernel)) rfl
theorem wm_X4_travel : Cond.instanceMethod yX4_travel ∈ lwg := lwg_of (List.mem_of_getElem? (i := 1008) (by decide +kernel)) rfl
theorem ws_X4_travel : Cond.selects RX4 yX4_travel yX4_travel ∈ lwg := lwg_of (List.mem_of_getElem? (i := 1009) (by decide +kernel)) rfl
theorem wc_X4_book : Cond.code yX4_book cX4_book 3 (some .int) ∈ lwg := lwg_of (List.mem_of_getElem? (i := 1014) (by decide +kernel)) rfl
theorem wm_X4_book : Cond.instanceMethod yX4_book ∈ lwg := lwg_of (List.mem_of_getElem? (i := 1012) (by decide +kernel)) rfl
theorem ws_X4_book : Cond.selects RX4 yX4_book yX4_book ∈ lwg := lwg_of (List.mem_of_getElem? (i := 1013) (by decide +kernel)) rfl
theorem wc_X4_pays : Cond.code yX4_pays cX4_pays 5 none ∈ lwg := lwg_of (List.mem_of_getElem? (i := 1018) (by decide +kernel)) rfl
theorem wm_X4_pays : Cond.instanceMethod yX4_pays ∈ lwg := lwg_of (List.mem_of_getElem? (i := 1017) (by decide +kernel)) rfl
theorem ws_X4_pays : Cond.selects RX4 yX4_pays yX4_pays ∈ lwg := lwg_of (List.mem_of_getElem? (i := 72) (by decide +kernel)) rfl
theorem wc_X4_went : Cond.code yX4_went cX4_went 3 (some .int) ∈ lwg := lwg_of (List.mem_of_getElem? (i := 1022) (by decide +kernel)) rfl
theorem wm_X4_went : Cond.instanceMethod yX4_went ∈ lwg := lwg_of (List.mem_of_getElem? (i := 1020) (by decide +kernel)) rfl
theorem ws_X4_went : Cond.selects RX4 yX4_went yX4_went ∈ lwg := lwg_of (List.mem_of_getElem? (i := 1021) (by decide +kernel)) rfl
theorem wc_X4_undo : Cond.code yX4_undo cX4_undo 2 (some .int) ∈ lwg := lwg_of (List.mem_of_getElem? (i := 1026) (by decide +kernel)) rfl
theorem wm_X4_undo : Cond.instanceMethod yX4_undo ∈ lwg := lwg_of (List.mem_of_getElem? (i := 1024) (by decide +kernel)) rfl
theorem ws_X4_undo : Cond.selects RX4 yX4_undo yX4_undo ∈ lwg := lwg_of (List.mem_of_getElem? (i := 1025) (by decide +kernel)) rfl
theorem wc_X4_row : Cond.code yX4_row cX4_row 2 (some .int) ∈ lwg := lwg_of (List.mem_of_getElem? (i := 1030) (by decide +kernel)) rfl
theorem wm_X4_row : Cond.instanceMethod yX4_row ∈ lwg := lwg_of (List.mem_of_getElem? (i := 1028) (by decide +kernel)) rfl
theorem ws_X4_row : Cond.selects RX4 yX4_row yX4_row ∈ lwg := lwg_of (List.mem_of_getElem? (i := 1029) (by decide +kernel)) rfl
theorem wc_J6_bitCount_0f7a4 : Cond.code yJ6_bitCount_0f7a4 cJ6_bitCount_0f7a4 1 (some .int) ∈ lwg := lwg_of (List.mem_of_getElem? (i := 438) (by decide +kernel)) rfl
theorem wt_J6_bitCount_0f7a4 : Cond.static yJ6_bitCount_0f7a4 ∈ lwg := lwg_of (List.mem_of_getElem? (i := 437) (by decide +kernel)) rfl
theorem wc_J9_floorMod_f86c9 : Cond.code yJ9_floorMod_f86c9 cJ9_floorMod_f86c9 6 (some .long) ∈ lwg := lwg_of (List.mem_of_getElem? (i := 468) (by decide +kernel)) rfl
theorem wt_J9_floorMod_f86c9 : Cond.static yJ9_floorMod_f86c9 ∈ lwg := lwg_of (List.mem_of_getElem? (i := 467) (by decide +kernel)) rfl
theorem wc_J9_max_7cf53 : Cond.code yJ9_max_7cf53 cJ9_max_7cf53 2 (some .int) ∈ lwg := lwg_of (List.mem_of_getElem? (i := 352) (by decide +kernel)) rfl
theorem wt_J9_max_7cf53 : Cond.static yJ9_max_7cf53 ∈ lwg := lwg_of (List.mem_of_getElem? (i := 351) (by decide +kernel)) rfl
theorem wc_J9_max_f86c9 : Cond.code yJ9_max_f86c9 cJ9_max_f86c9 4 (some .long) ∈ lwg := lwg_of (List.mem_of_getElem? (i := 448) (by decide +kernel)) rfl
theorem wt_J9_max_f86c9 : Cond.static yJ9_max_f86c9 ∈ lwg := lwg_of (List.mem_of_getElem? (i := 447) (by decide +kernel)) rfl
theorem wc_J9_min_7cf53 : Cond.code yJ9_min_7cf53 cJ9_min_7cf53 2 (some .int) ∈ lwg := lwg_of (List.mem_of_getElem? (i := 349) (by decide +kernel)) rfl
theorem wt_J9_min_7cf53 : Cond.static yJ9_min_7cf53 ∈ lwg := lwg_of (List.mem_of_getElem? (i := 348) (by decide +kernel)) rfl
theorem ml_L_19 : fr_ilink RL 19 mX3_init 0 := ⟨Or.inl (lwg_of (List.mem_of_getElem? (i := 87) (by decide +kernel)) rfl), wm_X3_init, wi_X3, wc_X3_init, rfl, rfl, ⟨by decide +kernel, by decide +kernel, by decide +kernel⟩, by decide⟩
theorem ml_X3_1 : Cond.methodLink RX3 1 objectInit ∈ lwg := lwg_of (List.mem_of_getElem? (i := 90) (by decide +kernel)) rfl
theorem ml_X3_30 : fr_ilink RX3 30 mX1_init 0 := ⟨Or.inl (lwg_of (List.mem_of_getElem? (i := 97) (by decide +kernel)) rfl), wm_X1_init, wi_X1, wc_X1_init, rfl, rfl, ⟨by decide +kernel, by decide +kernel, by decide +kernel⟩, by decide⟩
theorem ml_X1_5 : Cond.methodLink RX1 5 objectInit ∈ lwg := lwg_of (List.mem_of_getElem? (i := 100) (by decide +kernel)) rfl
theorem kl_X1_33 : Cond.constantLong RX1 33 (11) ∈ lwg := lwg_of (List.mem_of_getElem? (i := 101) (by decide +kernel)) rfl
theorem fl_X1_11 : fr_link RX1 11 1 0 := ⟨by decide, by decide, Or.inl (lwg_of (List.mem_of_getElem? (i := 102) (by decide +kernel)) rfl)⟩
theorem fl_X1_17 : fr_link RX1 17 1 1 := ⟨by decide, by decide, Or.inl (lwg_of (List.mem_of_getElem? (i := 103) (by decide +kernel)) rfl)⟩
theorem fl_X1_20 : fr_link RX1 20 1 2 := ⟨by decide, by decide, Or.inl (lwg_of (List.mem_of_getElem? (i := 104) (by decide +kernel)) rfl)⟩
theorem fl_X1_23 : fr_link RX1 23 1 3 := ⟨by decide, by decide, Or.inl (lwg_of (List.mem_of_getElem? (i := 105) (by decide +kernel)) rfl)⟩
theorem fl_X1_26 : fr_link RX1 26 1 4 := ⟨by decide, by decide, Or.inl (lwg_of (List.mem_of_getElem? (i := 106) (by decide +kernel)) rfl)⟩
theorem fl_X1_29 : fr_link RX1 29 1 5 := ⟨by decide, by decide, Or.inl (lwg_of (List.mem_of_getElem? (i := 107) (by decide +kernel)) rfl)⟩
theorem ml_X3_37 : fr_ilink RX3 37 mX2_init 0 := ⟨Or.inr ⟨"HomeRings", by decide +kernel⟩, wm_X2_init, wi_X2, wc_X2_init, rfl, rfl, ⟨by decide +kernel, by decide +kernel, by decide +kernel⟩, by decide⟩
theorem ml_X2_3 : Cond.methodLink RX2 3 objectInit ∈ lwg := lwg_of (List.mem_of_getElem? (i := 128) (by decide +kernel)) rfl
theorem fl_X2_9 : fr_link RX2 9 2 0 := ⟨by decide, by decide, Or.inl (lwg_of (List.mem_of_getElem? (i := 129) (by decide +kernel)) rfl)⟩
theorem fl_X2_15 : fr_link RX2 15 2 1 := ⟨by decide, by decide, Or.inl (lwg_of (List.mem_of_getElem? (i := 130) (by decide +kernel)) rfl)⟩
theorem fl_X2_18 : fr_link RX2 18 2 2 := ⟨by decide, by decide, Or.inl (lwg_of (List.mem_of_getElem? (i := 131) (by decide +kernel)) rfl)⟩
theorem fl_X2_21 : fr_link RX2 21 2 3 := ⟨by decide, by decide, Or.inl (lwg_of (List.mem_of_getElem? (i := 132) (by decide +kernel)) rfl)⟩
theorem ml_X3_65 : fr_ilink RX3 65 mX0_init 0 := ⟨Or.inr ⟨"HomeRings", by decide +kernel⟩, wm_X0_init, wi_X0, wc_X0_init, rfl, rfl, ⟨by decide +kernel, by decide +kernel, by decide +kernel⟩, by decide⟩
theorem ml_X0_3 : Cond.methodLink RX0 3 objectInit ∈ lwg := lwg_of (List.mem_of_getElem? (i := 146) (by decide +kernel)) rfl
theorem fl_X0_9 : fr_link RX0 9 0 0 := ⟨by decide, by decide, Or.inl (lwg_of (List.mem_of_getElem? (i := 147) (by decide +kernel)) rfl)⟩
theorem fl_X3_155 : fr_link RX3 155 0 0 := ⟨by decide, by decide, Or.inr ⟨"HomeRings", by decide +kernel⟩⟩
theorem fl_X0_15 : fr_link RX0 15 0 1 := ⟨by decide, by decide, Or.inl (lwg_of (List.mem_of_getElem? (i := 149) (by decide +kernel)) rfl)⟩
theorem fl_X3_97 : fr_link RX3 97 0 1 := ⟨by decide, by decide, Or.inr ⟨"HomeRings", by decide +kernel⟩⟩
theorem fl_X0_19 : fr_link RX0 19 0 2 := ⟨by decide, by decide, Or.inl (lwg_of (List.mem_of_getElem? (i := 151) (by decide +kernel)) rfl)⟩
theorem fl_X0_22 : fr_link RX0 22 0 3 := ⟨by decide, by decide, Or.inl (lwg_of (List.mem_of_getElem? (i := 152) (by decide +kernel)) rfl)⟩
theorem fl_X0_25 : fr_link RX0 25 0 4 := ⟨by decide, by decide, Or.inl (lwg_of (List.mem_of_getElem? (i := 153) (by decide +kernel)) rfl)⟩
theorem fl_X3_227 : fr_link RX3 227 0 4 := ⟨by decide, by decide, Or.inr ⟨"HomeRings", by decide +kernel⟩⟩
theorem fl_X0_28 : fr_link RX0 28 0 5 := ⟨by decide, by decide, Or.inl (lwg_of (List.mem_of_getElem? (i := 155) (by decide +kernel)) rfl)⟩
theorem fl_X3_230 : fr_link RX3 230 0 5 := ⟨by decide, by decide, Or.inr ⟨"HomeRings", by decide +kernel⟩⟩
theorem fl_X0_32 : fr_link RX0 32 0 6 := ⟨by decide, by decide, Or.inl (lwg_of (List.mem_of_getElem? (i := 157) (by decide +kernel)) rfl)⟩
theorem fl_X3_114 : fr_link RX3 114 0 6 := ⟨by decide, by decide, Or.inr ⟨"HomeRings", by decide +kernel⟩⟩
theorem fl_X0_35 : fr_link RX0 35 0 7 := ⟨by decide, by decide, Or.inl (lwg_of (List.mem_of_getElem? (i := 159) (by decide +kernel)) rfl)⟩
theorem fl_X3_77 : fr_link RX3 77 0 7 := ⟨by decide, by decide, Or.inr ⟨"HomeRings", by decide +kernel⟩⟩
theorem fl_X0_38 : fr_link RX0 38 0 8 := ⟨by decide, by decide, Or.inl (lwg_of (List.mem_of_getElem? (i := 161) (by decide +kernel)) rfl)⟩
theorem fl_X3_80 : fr_link RX3 80 0 8 := ⟨by decide, by decide, Or.inr ⟨"HomeRings", by decide +kernel⟩⟩
theorem fl_X0_41 : fr_link RX0 41 0 9 := ⟨by decide, by decide, Or.inl (lwg_of (List.mem_of_getElem? (i := 163) (by decide +kernel)) rfl)⟩
theorem fl_X3_83 : fr_link RX3 83 0 9 := ⟨by decide, by decide, Or.inr ⟨"HomeRings", by decide +kernel⟩⟩
theorem fl_X0_44 : fr_link RX0 44 0 10 := ⟨by decide, by decide, Or.inl (lwg_of (List.mem_of_getElem? (i := 165) (by decide +kernel)) rfl)⟩
theorem fl_X3_86 : fr_link RX3 86 0 10 := ⟨by decide, by decide, Or.inr ⟨"HomeRings", by decide +kernel⟩⟩
theorem fl_X0_47 : fr_link RX0 47 0 11 := ⟨by decide, by decide, Or.inl (lwg_of (List.mem_of_getElem? (i := 167) (by decide +kernel)) rfl)⟩
theorem fl_X0_50 : fr_link RX0 50 0 12 := ⟨by decide, by decide, Or.inl (lwg_of (List.mem_of_getElem? (i := 168) (by decide +kernel)) rfl)⟩
theorem fl_X3_143 : fr_link RX3 143 0 12 := ⟨by decide, by decide, Or.inr ⟨"HomeRings", by decide +kernel⟩⟩
theorem fl_X3_11 : fr_link RX3 11 3 0 := ⟨by decide, by decide, Or.inl (lwg_of (List.mem_of_getElem? (i := 197) (by decide +kernel)) rfl)⟩
theorem fl_X3_15 : fr_link RX3 15 3 1 := ⟨by decide, by decide, Or.inl (lwg_of (List.mem_of_getElem? (i := 198) (by decide +kernel)) rfl)⟩
theorem fl_X3_19 : fr_link RX3 19 3 2 := ⟨by decide, by decide, Or.inl (lwg_of (List.mem_of_getElem? (i := 199) (by decide +kernel)) rfl)⟩
theorem fl_X3_22 : fr_link RX3 22 3 3 := ⟨by decide, by decide, Or.inl (lwg_of (List.mem_of_getElem? (i := 200) (by decide +kernel)) rfl)⟩
theorem fl_X3_25 : fr_link RX3 25 3 4 := ⟨by decide, by decide, Or.inl (lwg_of (List.mem_of_getElem? (i := 201) (by decide +kernel)) rfl)⟩
theorem fl_X3_31 : fr_link RX3 31 3 5 := ⟨by decide, by decide, Or.inl (lwg_of (List.mem_of_getElem? (i := 202) (by decide +kernel)) rfl)⟩
theorem fl_X3_38 : fr_link RX3 38 3 6 := ⟨by decide, by decide, Or.inl (lwg_of (List.mem_of_getElem? (i := 203) (by decide +kernel)) rfl)⟩
theorem fl_X3_42 : fr_link RX3 42 3 7 := ⟨by decide, by decide, Or.inl (lwg_of (List.mem_of_getElem? (i := 204) (by decide +kernel)) rfl)⟩
theorem fl_X3_46 : fr_link RX3 46 3 8 := ⟨by decide, by decide, Or.inl (lwg_of (List.mem_of_getElem? (i := 205) (by decide +kernel)) rfl)⟩
theorem fl_X3_49 : fr_link RX3 49 3 9 := ⟨by decide, by decide, Or.inl (lwg_of (List.mem_of_getElem? (i := 206) (by decide +kernel)) rfl)⟩
theorem fl_X3_52 : fr_link RX3 52 3 10 := ⟨by decide, by decide, Or.inl (lwg_of (List.mem_of_getElem? (i := 207) (by decide +kernel)) rfl)⟩
theorem fl_X3_55 : fr_link RX3 55 3 11 := ⟨by decide, by decide, Or.inl (lwg_of (List.mem_of_getElem? (i := 208) (by decide +kernel)) rfl)⟩
theorem fl_X3_58 : fr_link RX3 58 3 12 := ⟨by decide, by decide, Or.inl (lwg_of (List.mem_of_getElem? (i := 209) (by decide +kernel)) rfl)⟩
theorem fl_X3_61 : fr_link RX3 61 3 13 := ⟨by decide, by decide, Or.inl (lwg_of (List.mem_of_getElem? (i := 210) (by decide +kernel)) rfl)⟩
theorem ml_L_23 : fr_mlink RL 23 mX3_family RX3 4 := ⟨lwg_of (List.mem_of_getElem? (i := 240) (by decide +kernel)) rfl, wm_X3_family, ws_X3_family, wi_X3, wc_X3_family, ⟨rfl, by decide +kernel, by decide +kernel, by decide +kernel⟩, by decide⟩
theorem ml_X3_66 : fr_slink RX3 66 mX3_isOneToNine 1 := ⟨lwg_of (List.mem_of_getElem? (i := 244) (by decide +kernel)) rfl, wt_X3_isOneToNine, wi_X3, wc_X3_isOneToNine, ⟨by decide +kernel, by decide +kernel, by decide +kernel⟩, by decide⟩
theorem ml_X3_70 : fr_mlink RX3 70 mX0_moveIn RX0 4 := ⟨lwg_of (List.mem_of_getElem? (i := 247) (by decide +kernel)) rfl, wm_X0_moveIn, ws_X0_moveIn, wi_X0, wc_X0_moveIn, ⟨rfl, by decide +kernel, by decide +kernel, by decide +kernel⟩, by decide⟩
theorem ml_L_28 : fr_mlink RL 28 mX3_weeks RX3 4 := ⟨lwg_of (List.mem_of_getElem? (i := 251) (by decide +kernel)) rfl, wm_X3_weeks, ws_X3_weeks, wi_X3, wc_X3_weeks, ⟨rfl, by decide +kernel, by decide +kernel, by decide +kernel⟩, by decide⟩
theorem ml_X3_74 : fr_mlink RX3 74 mX3_isFamily RX3 1 := ⟨lwg_of (List.mem_of_getElem? (i := 255) (by decide +kernel)) rfl, wm_X3_isFamily, ws_X3_isFamily, wi_X3, wc_X3_isFamily, ⟨rfl, by decide +kernel, by decide +kernel, by decide +kernel⟩, by decide⟩
theorem ml_L_33 : fr_mlink RL 33 mX3_wish RX3 2 := ⟨lwg_of (List.mem_of_getElem? (i := 259) (by decide +kernel)) rfl, wm_X3_wish, ws_X3_wish, wi_X3, wc_X3_wish, ⟨rfl, by decide +kernel, by decide +kernel, by decide +kernel⟩, by decide⟩
theorem ml_X3_89 : fr_mlink RX3 89 mX3_canBecomeWish RX3 2 := ⟨lwg_of (List.mem_of_getElem? (i := 263) (by decide +kernel)) rfl, wm_X3_canBecomeWish, ws_X3_canBecomeWish, wi_X3, wc_X3_canBecomeWish, ⟨rfl, by decide +kernel, by decide +kernel, by decide +kernel⟩, by decide⟩
theorem ml_X3_107 : fr_mlink RX3 107 mX3_areTwo RX3 2 := ⟨lwg_of (List.mem_of_getElem? (i := 267) (by decide +kernel)) rfl, wm_X3_areTwo, ws_X3_areTwo, wi_X3, wc_X3_areTwo, ⟨rfl, by decide +kernel, by decide +kernel, by decide +kernel⟩, by decide⟩
theorem ml_X3_93 : fr_mlink RX3 93 mX0_addWish RX0 1 := ⟨lwg_of (List.mem_of_getElem? (i := 271) (by decide +kernel)) rfl, wm_X0_addWish, ws_X0_addWish, wi_X0, wc_X0_addWish, ⟨rfl, by decide +kernel, by decide +kernel, by decide +kernel⟩, by decide⟩
theorem ml_L_37 : fr_mlink RL 37 mX3_wishes RX3 5 := ⟨lwg_of (List.mem_of_getElem? (i := 275) (by decide +kernel)) rfl, wm_X3_wishes, ws_X3_wishes, wi_X3, wc_X3_wishes, ⟨rfl, by decide +kernel, by decide +kernel, by decide +kernel⟩, by decide⟩
theorem ml_X3_100 : fr_mlink RX3 100 mX0_dropWishes RX0 0 := ⟨lwg_of (List.mem_of_getElem? (i := 279) (by decide +kernel)) rfl, wm_X0_dropWishes, ws_X0_dropWishes, wi_X0, wc_X0_dropWishes, ⟨rfl, by decide +kernel, by decide +kernel, by decide +kernel⟩, by decide⟩
theorem ml_X3_103 : fr_mlink RX3 103 mX3_copySheet RX3 5 := ⟨lwg_of (List.mem_of_getElem? (i := 283) (by decide +kernel)) rfl, wm_X3_copySheet, ws_X3_copySheet, wi_X3, wc_X3_copySheet, ⟨rfl, by decide +kernel, by decide +kernel, by decide +kernel⟩, by decide⟩
theorem ml_L_42 : fr_mlink RL 42 mX3_bar RX3 3 := ⟨lwg_of (List.mem_of_getElem? (i := 287) (by decide +kernel)) rfl, wm_X3_bar, ws_X3_bar, wi_X3, wc_X3_bar, ⟨rfl, by decide +kernel, by decide +kernel, by decide +kernel⟩, by decide⟩
theorem ml_X3_110 : fr_mlink RX3 110 mX0_barFrom RX0 2 := ⟨lwg_of (List.mem_of_getElem? (i := 291) (by decide +kernel)) rfl, wm_X0_barFrom, ws_X0_barFrom, wi_X0, wc_X0_barFrom, ⟨rfl, by decide +kernel, by decide +kernel, by decide +kernel⟩, by decide⟩
theorem ml_L_47 : fr_mlink RL 47 mX3_in RX3 2 := ⟨lwg_of (List.mem_of_getElem? (i := 295) (by decide +kernel)) rfl, wm_X3_in, ws_X3_in, wi_X3, wc_X3_in, ⟨rfl, by decide +kernel, by decide +kernel, by decide +kernel⟩, by decide⟩
theorem ml_L_52 : fr_mlink RL 52 mX3_set RX3 2 := ⟨lwg_of (List.mem_of_getElem? (i := 299) (by decide +kernel)) rfl, wm_X3_set, ws_X3_set, wi_X3, wc_X3_set, ⟨rfl, by decide +kernel, by decide +kernel, by decide +kernel⟩, by decide⟩
theorem ml_L_56 : fr_mlink RL 56 mX3_count RX3 1 := ⟨lwg_of (List.mem_of_getElem? (i := 303) (by decide +kernel)) rfl, wm_X3_count, ws_X3_count, wi_X3, wc_X3_count, ⟨rfl, by decide +kernel, by decide +kernel, by decide +kernel⟩, by decide⟩
theorem ml_X3_117 : fr_mlink RX3 117 mX3_countPresent RX3 0 := ⟨lwg_of (List.mem_of_getElem? (i := 307) (by decide +kernel)) rfl, wm_X3_countPresent, ws_X3_countPresent, wi_X3, wc_X3_countPresent, ⟨rfl, by decide +kernel, by decide +kernel, by decide +kernel⟩, by decide⟩
theorem ml_X3_121 : fr_mlink RX3 121 mX3_countGoing RX3 0 := ⟨lwg_of (List.mem_of_getElem? (i := 311) (by decide +kernel)) rfl, wm_X3_countGoing, ws_X3_countGoing, wi_X3, wc_X3_countGoing, ⟨rfl, by decide +kernel, by decide +kernel, by decide +kernel⟩, by decide⟩
theorem ml_X3_124 : fr_mlink RX3 124 mX3_countRings RX3 0 := ⟨lwg_of (List.mem_of_getElem? (i := 315) (by decide +kernel)) rfl, wm_X3_countRings, ws_X3_countRings, wi_X3, wc_X3_countRings, ⟨rfl, by decide +kernel, by decide +kernel, by decide +kernel⟩, by decide⟩
theorem ml_X3_167 : fr_mlink RX3 167 mX3_faultOfClosing RX3 0 := ⟨lwg_of (List.mem_of_getElem? (i := 319) (by decide +kernel)) rfl, wm_X3_faultOfClosing, ws_X3_faultOfClosing, wi_X3, wc_X3_faultOfClosing, ⟨rfl, by decide +kernel, by decide +kernel, by decide +kernel⟩, by decide⟩
theorem ml_X3_188 : fr_mlink RX3 188 mX3_takes RX3 2 := ⟨lwg_of (List.mem_of_getElem? (i := 323) (by decide +kernel)) rfl, wm_X3_takes, ws_X3_takes, wi_X3, wc_X3_takes, ⟨rfl, by decide +kernel, by decide +kernel, by decide +kernel⟩, by decide⟩
theorem ml_X3_158 : fr_mlink RX3 158 mX3_hindrance RX3 2 := ⟨lwg_of (List.mem_of_getElem? (i := 327) (by decide +kernel)) rfl, wm_X3_hindrance, ws_X3_hindrance, wi_X3, wc_X3_hindrance, ⟨rfl, by decide +kernel, by decide +kernel, by decide +kernel⟩, by decide⟩
theorem ml_X3_224 : fr_mlink RX3 224 mX0_isBarredFrom RX0 1 := ⟨lwg_of (List.mem_of_getElem? (i := 331) (by decide +kernel)) rfl, wm_X0_isBarredFrom, ws_X0_isBarredFrom, wi_X0, wc_X0_isBarredFrom, ⟨rfl, by decide +kernel, by decide +kernel, by decide +kernel⟩, by decide⟩
theorem ml_X3_137 : fr_mlink RX3 137 mX0_sleeps RX0 0 := ⟨lwg_of (List.mem_of_getElem? (i := 335) (by decide +kernel)) rfl, wm_X0_sleeps, ws_X0_sleeps, wi_X0, wc_X0_sleeps, ⟨rfl, by decide +kernel, by decide +kernel, by decide +kernel⟩, by decide⟩
theorem ml_X3_233 : fr_mlink RX3 233 mX0_welcomesPets RX0 0 := ⟨lwg_of (List.mem_of_getElem? (i := 339) (by decide +kernel)) rfl, wm_X0_welcomesPets, ws_X0_welcomesPets, wi_X0, wc_X0_welcomesPets, ⟨rfl, by decide +kernel, by decide +kernel, by decide +kernel⟩, by decide⟩
theorem ml_X3_237 : fr_mlink RX3 237 mX0_weeksAt RX0 1 := ⟨lwg_of (List.mem_of_getElem? (i := 343) (by decide +kernel)) rfl, wm_X0_weeksAt, ws_X0_weeksAt, wi_X0, wc_X0_weeksAt, ⟨rfl, by decide +kernel, by decide +kernel, by decide +kernel⟩, by decide⟩
theorem ml_X0_57 : fr_slink RX0 57 mJ9_min_7cf53 2 := ⟨lwg_of (List.mem_of_getElem? (i := 347) (by decide +kernel)) rfl, wt_J9_min_7cf53, wi_J9, wc_J9_min_7cf53, ⟨by decide +kernel, by decide +kernel, by decide +kernel⟩, by decide⟩
theorem ml_X0_63 : fr_slink RX0 63 mJ9_max_7cf53 2 := ⟨lwg_of (List.mem_of_getElem? (i := 350) (by decide +kernel)) rfl, wt_J9_max_7cf53, wi_J9, wc_J9_max_7cf53, ⟨by decide +kernel, by decide +kernel, by decide +kernel⟩, by decide⟩
theorem ml_X3_244 : fr_mlink RX3 244 mX3_hasRival RX3 1 := ⟨lwg_of (List.mem_of_getElem? (i := 353) (by decide +kernel)) rfl, wm_X3_hasRival, ws_X3_hasRival, wi_X3, wc_X3_hasRival, ⟨rfl, by decide +kernel, by decide +kernel, by decide +kernel⟩, by decide⟩
theorem ml_X3_146 : fr_mlink RX3 146 mX3_firstGuest RX3 1 := ⟨lwg_of (List.mem_of_getElem? (i := 357) (by decide +kernel)) rfl, wm_X3_firstGuest, ws_X3_firstGuest, wi_X3, wc_X3_firstGuest, ⟨rfl, by decide +kernel, by decide +kernel, by decide +kernel⟩, by decide⟩
theorem ml_X3_247 : fr_mlink RX3 247 mX3_isLeastOfRing RX3 1 := ⟨lwg_of (List.mem_of_getElem? (i := 361) (by decide +kernel)) rfl, wm_X3_isLeastOfRing, ws_X3_isLeastOfRing, wi_X3, wc_X3_isLeastOfRing, ⟨rfl, by decide +kernel, by decide +kernel, by decide +kernel⟩, by decide⟩
theorem ml_X3_205 : fr_mlink RX3 205 mX3_ringLength RX3 1 := ⟨lwg_of (List.mem_of_getElem? (i := 365) (by decide +kernel)) rfl, wm_X3_ringLength, ws_X3_ringLength, wi_X3, wc_X3_ringLength, ⟨rfl, by decide +kernel, by decide +kernel, by decide +kernel⟩, by decide⟩
theorem ml_X3_127 : fr_mlink RX3 127 mX3_sumOfRanks RX3 0 := ⟨lwg_of (List.mem_of_getElem? (i := 369) (by decide +kernel)) rfl, wm_X3_sumOfRanks, ws_X3_sumOfRanks, wi_X3, wc_X3_sumOfRanks, ⟨rfl, by decide +kernel, by decide +kernel, by decide +kernel⟩, by decide⟩
theorem ml_X3_241 : fr_mlink RX3 241 mX3_planRank RX3 1 := ⟨lwg_of (List.mem_of_getElem? (i := 373) (by decide +kernel)) rfl, wm_X3_planRank, ws_X3_planRank, wi_X3, wc_X3_planRank, ⟨rfl, by decide +kernel, by decide +kernel, by decide +kernel⟩, by decide⟩
theorem ml_L_70 : fr_mlink RL 70 mX3_rank RX3 2 := ⟨lwg_of (List.mem_of_getElem? (i := 377) (by decide +kernel)) rfl, wm_X3_rank, ws_X3_rank, wi_X3, wc_X3_rank, ⟨rfl, by decide +kernel, by decide +kernel, by decide +kernel⟩, by decide⟩
theorem ml_L_74 : fr_mlink RL 74 mX3_can RX3 2 := ⟨lwg_of (List.mem_of_getElem? (i := 381) (by decide +kernel)) rfl, wm_X3_can, ws_X3_can, wi_X3, wc_X3_can, ⟨rfl, by decide +kernel, by decide +kernel, by decide +kernel⟩, by decide⟩
theorem ml_L_78 : fr_mlink RL 78 mX3_week RX3 2 := ⟨lwg_of (List.mem_of_getElem? (i := 385) (by decide +kernel)) rfl, wm_X3_week, ws_X3_week, wi_X3, wc_X3_week, ⟨rfl, by decide +kernel, by decide +kernel, by decide +kernel⟩, by decide⟩
theorem ml_X3_162 : fr_slink RX3 162 mJ9_max_7cf53 2 := ⟨lwg_of (List.mem_of_getElem? (i := 389) (by decide +kernel)) rfl, wt_J9_max_7cf53, wi_J9, wc_J9_max_7cf53, ⟨by decide +kernel, by decide +kernel, by decide +kernel⟩, by decide⟩
theorem ml_L_82 : fr_mlink RL 82 mX3_put RX3 2 := ⟨lwg_of (List.mem_of_getElem? (i := 390) (by decide +kernel)) rfl, wm_X3_put, ws_X3_put, wi_X3, wc_X3_put, ⟨rfl, by decide +kernel, by decide +kernel, by decide +kernel⟩, by decide⟩
theorem ml_L_87 : fr_mlink RL 87 mX3_wrong RX3 0 := ⟨lwg_of (List.mem_of_getElem? (i := 394) (by decide +kernel)) rfl, wm_X3_wrong, ws_X3_wrong, wi_X3, wc_X3_wrong, ⟨rfl, by decide +kernel, by decide +kernel, by decide +kernel⟩, by decide⟩
theorem ml_X3_170 : fr_mlink RX3 170 mX3_faultOfLength RX3 0 := ⟨lwg_of (List.mem_of_getElem? (i := 398) (by decide +kernel)) rfl, wm_X3_faultOfLength, ws_X3_faultOfLength, wi_X3, wc_X3_faultOfLength, ⟨rfl, by decide +kernel, by decide +kernel, by decide +kernel⟩, by decide⟩
theorem ml_L_91 : fr_mlink RL 91 mX3_best RX3 0 := ⟨lwg_of (List.mem_of_getElem? (i := 402) (by decide +kernel)) rfl, wm_X3_best, ws_X3_best, wi_X3, wc_X3_best, ⟨rfl, by decide +kernel, by decide +kernel, by decide +kernel⟩, by decide⟩
theorem ml_X3_173 : fr_mlink RX3 173 mX3_planRings RX3 1 := ⟨lwg_of (List.mem_of_getElem? (i := 406) (by decide +kernel)) rfl, wm_X3_planRings, ws_X3_planRings, wi_X3, wc_X3_planRings, ⟨rfl, by decide +kernel, by decide +kernel, by decide +kernel⟩, by decide⟩
theorem ml_X3_250 : fr_mlink RX3 250 mX1_clear RX1 1 := ⟨lwg_of (List.mem_of_getElem? (i := 410) (by decide +kernel)) rfl, wm_X1_clear, ws_X1_clear, wi_X1, wc_X1_clear, ⟨rfl, by decide +kernel, by decide +kernel, by decide +kernel⟩, by decide⟩
theorem kl_X1_35 : Cond.constantLong RX1 35 (-9223372036854775808) ∈ lwg := lwg_of (List.mem_of_getElem? (i := 414) (by decide +kernel)) rfl
theorem ml_X3_251 : fr_mlink RX3 251 mX1_allow RX1 3 := ⟨lwg_of (List.mem_of_getElem? (i := 415) (by decide +kernel)) rfl, wm_X1_allow, ws_X1_allow, wi_X1, wc_X1_allow, ⟨rfl, by decide +kernel, by decide +kernel, by decide +kernel⟩, by decide⟩
theorem kl_X1_37 : Cond.constantLong RX1 37 (25937424601) ∈ lwg := lwg_of (List.mem_of_getElem? (i := 419) (by decide +kernel)) rfl
theorem ml_X3_254 : fr_mlink RX3 254 mX1_replacePlan RX1 2 := ⟨lwg_of (List.mem_of_getElem? (i := 420) (by decide +kernel)) rfl, wm_X1_replacePlan, ws_X1_replacePlan, wi_X1, wc_X1_replacePlan, ⟨rfl, by decide +kernel, by decide +kernel, by decide +kernel⟩, by decide⟩
theorem ml_X1_39 : fr_mlink RX1 39 mX1_findRings RX1 1 := ⟨lwg_of (List.mem_of_getElem? (i := 424) (by decide +kernel)) rfl, wm_X1_findRings, ws_X1_findRings, wi_X1, wc_X1_findRings, ⟨rfl, by decide +kernel, by decide +kernel, by decide +kernel⟩, by decide⟩
theorem ml_X1_50 : fr_mlink RX1 50 mX1_openWays RX1 1 := ⟨lwg_of (List.mem_of_getElem? (i := 428) (by decide +kernel)) rfl, wm_X1_openWays, ws_X1_openWays, wi_X1, wc_X1_openWays, ⟨rfl, by decide +kernel, by decide +kernel, by decide +kernel⟩, by decide⟩
theorem ml_X1_53 : fr_mlink RX1 53 mX1_growWays RX1 2 := ⟨lwg_of (List.mem_of_getElem? (i := 432) (by decide +kernel)) rfl, wm_X1_growWays, ws_X1_growWays, wi_X1, wc_X1_growWays, ⟨rfl, by decide +kernel, by decide +kernel, by decide +kernel⟩, by decide⟩
theorem ml_X1_57 : fr_slink RX1 57 mJ6_bitCount_0f7a4 1 := ⟨lwg_of (List.mem_of_getElem? (i := 436) (by decide +kernel)) rfl, wt_J6_bitCount_0f7a4, wi_J6, wc_J6_bitCount_0f7a4, ⟨by decide +kernel, by decide +kernel, by decide +kernel⟩, by decide⟩
theorem kl_J6_265 : Cond.constant RJ6 265 (1431655765) ∈ lwg := lwg_of (List.mem_of_getElem? (i := 439) (by decide +kernel)) rfl
theorem kl_J6_266 : Cond.constant RJ6 266 (858993459) ∈ lwg := lwg_of (List.mem_of_getElem? (i := 440) (by decide +kernel)) rfl
theorem kl_J6_267 : Cond.constant RJ6 267 (252645135) ∈ lwg := lwg_of (List.mem_of_getElem? (i := 441) (by decide +kernel)) rfl
theorem ml_X1_63 : fr_mlink RX1 63 mX1_closeWay RX1 3 := ⟨lwg_of (List.mem_of_getElem? (i := 442) (by decide +kernel)) rfl, wm_X1_closeWay, ws_X1_closeWay, wi_X1, wc_X1_closeWay, ⟨rfl, by decide +kernel, by decide +kernel, by decide +kernel⟩, by decide⟩
theorem ml_X1_70 : fr_slink RX1 70 mJ9_max_f86c9 2 := ⟨lwg_of (List.mem_of_getElem? (i := 446) (by decide +kernel)) rfl, wt_J9_max_f86c9, wi_J9, wc_J9_max_f86c9, ⟨by decide +kernel, by decide +kernel, by decide +kernel⟩, by decide⟩
theorem ml_X1_67 : fr_mlink RX1 67 mX1_growWay RX1 3 := ⟨lwg_of (List.mem_of_getElem? (i := 449) (by decide +kernel)) rfl, wm_X1_growWay, ws_X1_growWay, wi_X1, wc_X1_growWay, ⟨rfl, by decide +kernel, by decide +kernel, by decide +kernel⟩, by decide⟩
theorem ml_X1_43 : fr_mlink RX1 43 mX1_settleAll RX1 0 := ⟨lwg_of (List.mem_of_getElem? (i := 453) (by decide +kernel)) rfl, wm_X1_settleAll, ws_X1_settleAll, wi_X1, wc_X1_settleAll, ⟨rfl, by decide +kernel, by decide +kernel, by decide +kernel⟩, by decide⟩
theorem ml_X1_76 : fr_mlink RX1 76 mX1_settleFirst RX1 1 := ⟨lwg_of (List.mem_of_getElem? (i := 457) (by decide +kernel)) rfl, wm_X1_settleFirst, ws_X1_settleFirst, wi_X1, wc_X1_settleFirst, ⟨rfl, by decide +kernel, by decide +kernel, by decide +kernel⟩, by decide⟩
theorem kl_X1_79 : Cond.constantLong RX1 79 (10) ∈ lwg := lwg_of (List.mem_of_getElem? (i := 461) (by decide +kernel)) rfl
theorem ml_X1_46 : fr_mlink RX1 46 mX1_readPlan RX1 2 := ⟨lwg_of (List.mem_of_getElem? (i := 462) (by decide +kernel)) rfl, wm_X1_readPlan, ws_X1_readPlan, wi_X1, wc_X1_readPlan, ⟨rfl, by decide +kernel, by decide +kernel, by decide +kernel⟩, by decide⟩
theorem ml_X1_81 : fr_slink RX1 81 mJ9_floorMod_f86c9 2 := ⟨lwg_of (List.mem_of_getElem? (i := 466) (by decide +kernel)) rfl, wt_J9_floorMod_f86c9, wi_J9, wc_J9_floorMod_f86c9, ⟨by decide +kernel, by decide +kernel, by decide +kernel⟩, by decide⟩
theorem ml_L_95 : fr_mlink RL 95 mX3_mend RX3 0 := ⟨lwg_of (List.mem_of_getElem? (i := 469) (by decide +kernel)) rfl, wm_X3_mend, ws_X3_mend, wi_X3, wc_X3_mend, ⟨rfl, by decide +kernel, by decide +kernel, by decide +kernel⟩, by decide⟩
theorem ml_L_99 : fr_mlink RL 99 mX3_trade RX3 0 := ⟨lwg_of (List.mem_of_getElem? (i := 473) (by decide +kernel)) rfl, wm_X3_trade, ws_X3_trade, wi_X3, wc_X3_trade, ⟨rfl, by decide +kernel, by decide +kernel, by decide +kernel⟩, by decide⟩
theorem ml_X3_176 : fr_mlink RX3 176 mX3_clearPlan RX3 0 := ⟨lwg_of (List.mem_of_getElem? (i := 477) (by decide +kernel)) rfl, wm_X3_clearPlan, ws_X3_clearPlan, wi_X3, wc_X3_clearPlan, ⟨rfl, by decide +kernel, by decide +kernel, by decide +kernel⟩, by decide⟩
theorem ml_X3_179 : fr_mlink RX3 179 mX3_showHomes RX3 1 := ⟨lwg_of (List.mem_of_getElem? (i := 481) (by decide +kernel)) rfl, wm_X3_showHomes, ws_X3_showHomes, wi_X3, wc_X3_showHomes, ⟨rfl, by decide +kernel, by decide +kernel, by decide +kernel⟩, by decide⟩
theorem ml_X3_258 : fr_mlink RX3 258 mX3_firstWithoutHome RX3 1 := ⟨lwg_of (List.mem_of_getElem? (i := 485) (by decide +kernel)) rfl, wm_X3_firstWithoutHome, ws_X3_firstWithoutHome, wi_X3, wc_X3_firstWithoutHome, ⟨rfl, by decide +kernel, by decide +kernel, by decide +kernel⟩, by decide⟩
theorem ml_X3_261 : fr_mlink RX3 261 mX3_likedMost RX3 2 := ⟨lwg_of (List.mem_of_getElem? (i := 489) (by decide +kernel)) rfl, wm_X3_likedMost, ws_X3_likedMost, wi_X3, wc_X3_likedMost, ⟨rfl, by decide +kernel, by decide +kernel, by decide +kernel⟩, by decide⟩
theorem ml_X3_182 : fr_mlink RX3 182 mX3_sendShownRing RX3 1 := ⟨lwg_of (List.mem_of_getElem? (i := 493) (by decide +kernel)) rfl, wm_X3_sendShownRing, ws_X3_sendShownRing, wi_X3, wc_X3_sendShownRing, ⟨rfl, by decide +kernel, by decide +kernel, by decide +kernel⟩, by decide⟩
theorem ml_X3_264 : fr_mlink RX3 264 mX3_comesRound RX3 1 := ⟨lwg_of (List.mem_of_getElem? (i := 497) (by decide +kernel)) rfl, wm_X3_comesRound, ws_X3_comesRound, wi_X3, wc_X3_comesRound, ⟨rfl, by decide +kernel, by decide +kernel, by decide +kernel⟩, by decide⟩
theorem ml_X3_267 : fr_mlink RX3 267 mX3_sendAsShown RX3 1 := ⟨lwg_of (List.mem_of_getElem? (i := 501) (by decide +kernel)) rfl, wm_X3_sendAsShown, ws_X3_sendAsShown, wi_X3, wc_X3_sendAsShown, ⟨rfl, by decide +kernel, by decide +kernel, by decide +kernel⟩, by decide⟩
theorem ml_L_103 : fr_mlink RL 103 mX3_blocks RX3 0 := ⟨lwg_of (List.mem_of_getElem? (i := 505) (by decide +kernel)) rfl, wm_X3_blocks, ws_X3_blocks, wi_X3, wc_X3_blocks, ⟨rfl, by decide +kernel, by decide +kernel, by decide +kernel⟩, by decide⟩
theorem ml_X3_185 : fr_mlink RX3 185 mX2_clear RX2 1 := ⟨lwg_of (List.mem_of_getElem? (i := 509) (by decide +kernel)) rfl, wm_X2_clear, ws_X2_clear, wi_X2, wc_X2_clear, ⟨rfl, by decide +kernel, by decide +kernel, by decide +kernel⟩, by decide⟩
theorem ml_X3_191 : fr_mlink RX3 191 mX3_isLiked RX3 2 := ⟨lwg_of (List.mem_of_getElem? (i := 513) (by decide +kernel)) rfl, wm_X3_isLiked, ws_X3_isLiked, wi_X3, wc_X3_isLiked, ⟨rfl, by decide +kernel, by decide +kernel, by decide +kernel⟩, by decide⟩
theorem ml_X3_194 : fr_mlink RX3 194 mX2_add RX2 2 := ⟨lwg_of (List.mem_of_getElem? (i := 517) (by decide +kernel)) rfl, wm_X2_add, ws_X2_add, wi_X2, wc_X2_add, ⟨rfl, by decide +kernel, by decide +kernel, by decide +kernel⟩, by decide⟩
theorem ml_X3_198 : fr_mlink RX3 198 mX2_tellShortestRing RX2 1 := ⟨lwg_of (List.mem_of_getElem? (i := 521) (by decide +kernel)) rfl, wm_X2_tellShortestRing, ws_X2_tellShortestRing, wi_X2, wc_X2_tellShortestRing, ⟨rfl, by decide +kernel, by decide +kernel, by decide +kernel⟩, by decide⟩
theorem ml_X2_25 : fr_mlink RX2 25 mX2_lengthFrom RX2 1 := ⟨lwg_of (List.mem_of_getElem? (i := 525) (by decide +kernel)) rfl, wm_X2_lengthFrom, ws_X2_lengthFrom, wi_X2, wc_X2_lengthFrom, ⟨rfl, by decide +kernel, by decide +kernel, by decide +kernel⟩, by decide⟩
theorem ml_X2_29 : fr_slink RX2 29 mX2_leastOf 1 := ⟨lwg_of (List.mem_of_getElem? (i := 529) (by decide +kernel)) rfl, wt_X2_leastOf, wi_X2, wc_X2_leastOf, ⟨by decide +kernel, by decide +kernel, by decide +kernel⟩, by decide⟩
theorem ml_X3_202 : fr_mlink RX3 202 mX3_keepRow RX3 1 := ⟨lwg_of (List.mem_of_getElem? (i := 532) (by decide +kernel)) rfl, wm_X3_keepRow, ws_X3_keepRow, wi_X3, wc_X3_keepRow, ⟨rfl, by decide +kernel, by decide +kernel, by decide +kernel⟩, by decide⟩
theorem ml_L_107 : fr_mlink RL 107 mX3_ring RX3 1 := ⟨lwg_of (List.mem_of_getElem? (i := 536) (by decide +kernel)) rfl, wm_X3_ring, ws_X3_ring, wi_X3, wc_X3_ring, ⟨rfl, by decide +kernel, by decide +kernel, by decide +kernel⟩, by decide⟩
theorem ml_L_111 : fr_mlink RL 111 mX3_chain RX3 1 := ⟨lwg_of (List.mem_of_getElem? (i := 540) (by decide +kernel)) rfl, wm_X3_chain, ws_X3_chain, wi_X3, wc_X3_chain, ⟨rfl, by decide +kernel, by decide +kernel, by decide +kernel⟩, by decide⟩
theorem ml_X3_208 : fr_mlink RX3 208 mX3_addChainWaysTo RX3 2 := ⟨lwg_of (List.mem_of_getElem? (i := 544) (by decide +kernel)) rfl, wm_X3_addChainWaysTo, ws_X3_addChainWaysTo, wi_X3, wc_X3_addChainWaysTo, ⟨rfl, by decide +kernel, by decide +kernel, by decide +kernel⟩, by decide⟩
theorem ml_X3_140 : fr_mlink RX3 140 mX0_worth RX0 0 := ⟨lwg_of (List.mem_of_getElem? (i := 548) (by decide +kernel)) rfl, wm_X0_worth, ws_X0_worth, wi_X0, wc_X0_worth, ⟨rfl, by decide +kernel, by decide +kernel, by decide +kernel⟩, by decide⟩
theorem ml_X0_53 : fr_mlink RX0 53 mX0_sleeps RX0 0 := ⟨lwg_of (List.mem_of_getElem? (i := 552) (by decide +kernel)) rfl, wm_X0_sleeps, ws_X0_sleeps, wi_X0, wc_X0_sleeps, ⟨rfl, by decide +kernel, by decide +kernel, by decide +kernel⟩, by decide⟩
theorem ml_X3_211 : fr_mlink RX3 211 mX2_tellLongestWay RX2 2 := ⟨lwg_of (List.mem_of_getElem? (i := 553) (by decide +kernel)) rfl, wm_X2_tellLongestWay, ws_X2_tellLongestWay, wi_X2, wc_X2_tellLongestWay, ⟨rfl, by decide +kernel, by decide +kernel, by decide +kernel⟩, by decide⟩
theorem ml_X2_32 : fr_mlink RX2 32 mX2_findStarts RX2 0 := ⟨lwg_of (List.mem_of_getElem? (i := 557) (by decide +kernel)) rfl, wm_X2_findStarts, ws_X2_findStarts, wi_X2, wc_X2_findStarts, ⟨rfl, by decide +kernel, by decide +kernel, by decide +kernel⟩, by decide⟩
theorem ml_X2_42 : fr_mlink RX2 42 mX2_startsWithin RX2 1 := ⟨lwg_of (List.mem_of_getElem? (i := 561) (by decide +kernel)) rfl, wm_X2_startsWithin, ws_X2_startsWithin, wi_X2, wc_X2_startsWithin, ⟨rfl, by decide +kernel, by decide +kernel, by decide +kernel⟩, by decide⟩
theorem ml_X2_35 : fr_mlink RX2 35 mX2_mostSteps RX2 1 := ⟨lwg_of (List.mem_of_getElem? (i := 565) (by decide +kernel)) rfl, wm_X2_mostSteps, ws_X2_mostSteps, wi_X2, wc_X2_mostSteps, ⟨rfl, by decide +kernel, by decide +kernel, by decide +kernel⟩, by decide⟩
theorem ml_X2_45 : fr_slink RX2 45 mJ6_bitCount_0f7a4 1 := ⟨lwg_of (List.mem_of_getElem? (i := 569) (by decide +kernel)) rfl, wt_J6_bitCount_0f7a4, wi_J6, wc_J6_bitCount_0f7a4, ⟨by decide +kernel, by decide +kernel, by decide +kernel⟩, by decide⟩
theorem ml_X2_50 : fr_slink RX2 50 mJ9_max_7cf53 2 := ⟨lwg_of (List.mem_of_getElem? (i := 570) (by decide +kernel)) rfl, wt_J9_max_7cf53, wi_J9, wc_J9_max_7cf53, ⟨by decide +kernel, by decide +kernel, by decide +kernel⟩, by decide⟩
theorem ml_X2_38 : fr_mlink RX2 38 mX2_startsApart RX2 2 := ⟨lwg_of (List.mem_of_getElem? (i := 571) (by decide +kernel)) rfl, wm_X2_startsApart, ws_X2_startsApart, wi_X2, wc_X2_startsApart, ⟨rfl, by decide +kernel, by decide +kernel, by decide +kernel⟩, by decide⟩
theorem ml_L_115 : fr_mlink RL 115 mX3_travel RX3 0 := ⟨lwg_of (List.mem_of_getElem? (i := 575) (by decide +kernel)) rfl, wm_X3_travel, ws_X3_travel, wi_X3, wc_X3_travel, ⟨rfl, by decide +kernel, by decide +kernel, by decide +kernel⟩, by decide⟩
theorem ml_X3_215 : fr_mlink RX3 215 mX3_pay RX3 3 := ⟨lwg_of (List.mem_of_getElem? (i := 579) (by decide +kernel)) rfl, wm_X3_pay, ws_X3_pay, wi_X3, wc_X3_pay, ⟨rfl, by decide +kernel, by decide +kernel, by decide +kernel⟩, by decide⟩
theorem ml_L_119 : fr_mlink RL 119 mX3_book RX3 0 := ⟨lwg_of (List.mem_of_getElem? (i := 583) (by decide +kernel)) rfl, wm_X3_book, ws_X3_book, wi_X3, wc_X3_book, ⟨rfl, by decide +kernel, by decide +kernel, by decide +kernel⟩, by decide⟩
theorem ml_X3_219 : fr_mlink RX3 219 mX3_payPlan RX3 1 := ⟨lwg_of (List.mem_of_getElem? (i := 587) (by decide +kernel)) rfl, wm_X3_payPlan, ws_X3_payPlan, wi_X3, wc_X3_payPlan, ⟨rfl, by decide +kernel, by decide +kernel, by decide +kernel⟩, by decide⟩
theorem ml_L_123 : fr_mlink RL 123 mX3_went RX3 2 := ⟨lwg_of (List.mem_of_getElem? (i := 591) (by decide +kernel)) rfl, wm_X3_went, ws_X3_went, wi_X3, wc_X3_went, ⟨rfl, by decide +kernel, by decide +kernel, by decide +kernel⟩, by decide⟩
theorem ml_L_127 : fr_mlink RL 127 mX3_undo RX3 0 := ⟨lwg_of (List.mem_of_getElem? (i := 595) (by decide +kernel)) rfl, wm_X3_undo, ws_X3_undo, wi_X3, wc_X3_undo, ⟨rfl, by decide +kernel, by decide +kernel, by decide +kernel⟩, by decide⟩
theorem ml_L_7 : fr_mlink RL 7 mX3_of RX3 2 := ⟨lwg_of (List.mem_of_getElem? (i := 603) (by decide +kernel)) rfl, wm_X3_of, ws_X3_of, wi_X3, wc_X3_of, ⟨rfl, by decide +kernel, by decide +kernel, by decide +kernel⟩, by decide⟩
theorem ml_X3_150 : fr_mlink RX3 150 mX3_countTaken RX3 1 := ⟨lwg_of (List.mem_of_getElem? (i := 673) (by decide +kernel)) rfl, wm_X3_countTaken, ws_X3_countTaken, wi_X3, wc_X3_countTaken, ⟨rfl, by decide +kernel, by decide +kernel, by decide +kernel⟩, by decide⟩
theorem ml_L_15 : fr_mlink RL 15 mX3_row RX3 1 := ⟨lwg_of (List.mem_of_getElem? (i := 681) (by decide +kernel)) rfl, wm_X3_row, ws_X3_row, wi_X3, wc_X3_row, ⟨rfl, by decide +kernel, by decide +kernel, by decide +kernel⟩, by decide⟩
theorem ml_L_22 : fr_ilink RL 22 mX4_init 0 := ⟨Or.inl (lwg_of (List.mem_of_getElem? (i := 688) (by decide +kernel)) rfl), wm_X4_init, wi_X4, wc_X4_init, rfl, rfl, ⟨by decide +kernel, by decide +kernel, by decide +kernel⟩, by decide⟩
theorem ml_X4_1 : Cond.methodLink RX4 1 objectInit ∈ lwg := lwg_of (List.mem_of_getElem? (i := 691) (by decide +kernel)) rfl
theorem fl_X4_84 : fr_link RX4 84 4 0 := ⟨by decide, by decide, Or.inl (lwg_of (List.mem_of_getElem? (i := 692) (by decide +kernel)) rfl)⟩
theorem fl_X4_87 : fr_link RX4 87 4 1 := ⟨by decide, by decide, Or.inl (lwg_of (List.mem_of_getElem? (i := 693) (by decide +kernel)) rfl)⟩
theorem fl_X4_9 : fr_link RX4 9 4 2 := ⟨by decide, by decide, Or.inl (lwg_of (List.mem_of_getElem? (i := 694) (by decide +kernel)) rfl)⟩
theorem fl_X4_13 : fr_link RX4 13 4 3 := ⟨by decide, by decide, Or.inl (lwg_of (List.mem_of_getElem? (i := 695) (by decide +kernel)) rfl)⟩
theorem fl_X4_16 : fr_link RX4 16 4 4 := ⟨by decide, by decide, Or.inl (lwg_of (List.mem_of_getElem? (i := 696) (by decide +kernel)) rfl)⟩
theorem fl_X4_19 : fr_link RX4 19 4 5 := ⟨by decide, by decide, Or.inl (lwg_of (List.mem_of_getElem? (i := 697) (by decide +kernel)) rfl)⟩
theorem fl_X4_23 : fr_link RX4 23 4 6 := ⟨by decide, by decide, Or.inl (lwg_of (List.mem_of_getElem? (i := 698) (by decide +kernel)) rfl)⟩
theorem fl_X4_26 : fr_link RX4 26 4 7 := ⟨by decide, by decide, Or.inl (lwg_of (List.mem_of_getElem? (i := 699) (by decide +kernel)) rfl)⟩
theorem fl_X4_29 : fr_link RX4 29 4 8 := ⟨by decide, by decide, Or.inl (lwg_of (List.mem_of_getElem? (i := 700) (by decide +kernel)) rfl)⟩
theorem fl_X4_32 : fr_link RX4 32 4 9 := ⟨by decide, by decide, Or.inl (lwg_of (List.mem_of_getElem? (i := 701) (by decide +kernel)) rfl)⟩
theorem fl_X4_35 : fr_link RX4 35 4 10 := ⟨by decide, by decide, Or.inl (lwg_of (List.mem_of_getElem? (i := 702) (by decide +kernel)) rfl)⟩
theorem fl_X4_38 : fr_link RX4 38 4 11 := ⟨by decide, by decide, Or.inl (lwg_of (List.mem_of_getElem? (i := 703) (by decide +kernel)) rfl)⟩
theorem fl_X4_41 : fr_link RX4 41 4 12 := ⟨by decide, by decide, Or.inl (lwg_of (List.mem_of_getElem? (i := 704) (by decide +kernel)) rfl)⟩
theorem fl_X4_44 : fr_link RX4 44 4 13 := ⟨by decide, by decide, Or.inl (lwg_of (List.mem_of_getElem? (i := 705) (by decide +kernel)) rfl)⟩
theorem fl_X4_47 : fr_link RX4 47 4 14 := ⟨by decide, by decide, Or.inl (lwg_of (List.mem_of_getElem? (i := 706) (by decide +kernel)) rfl)⟩
theorem fl_X4_50 : fr_link RX4 50 4 15 := ⟨by decide, by decide, Or.inl (lwg_of (List.mem_of_getElem? (i := 707) (by decide +kernel)) rfl)⟩
theorem fl_X4_53 : fr_link RX4 53 4 16 := ⟨by decide, by decide, Or.inl (lwg_of (List.mem_of_getElem? (i := 708) (by decide +kernel)) rfl)⟩
theorem fl_X4_57 : fr_link RX4 57 4 17 := ⟨by decide, by decide, Or.inl (lwg_of (List.mem_of_getElem? (i := 709) (by decide +kernel)) rfl)⟩
theorem fl_X4_121 : fr_link RX4 121 4 18 := ⟨by decide, by decide, Or.inl (lwg_of (List.mem_of_getElem? (i := 710) (by decide +kernel)) rfl)⟩
theorem fl_X4_98 : fr_link RX4 98 4 19 := ⟨by decide, by decide, Or.inl (lwg_of (List.mem_of_getElem? (i := 711) (by decide +kernel)) rfl)⟩
theorem fl_X4_60 : fr_link RX4 60 4 20 := ⟨by decide, by decide, Or.inl (lwg_of (List.mem_of_getElem? (i := 712) (by decide +kernel)) rfl)⟩
theorem fl_X4_63 : fr_link RX4 63 4 21 := ⟨by decide, by decide, Or.inl (lwg_of (List.mem_of_getElem? (i := 713) (by decide +kernel)) rfl)⟩
theorem fl_X4_181 : fr_link RX4 181 4 22 := ⟨by decide, by decide, Or.inl (lwg_of (List.mem_of_getElem? (i := 714) (by decide +kernel)) rfl)⟩
theorem fl_X4_185 : fr_link RX4 185 4 23 := ⟨by decide, by decide, Or.inl (lwg_of (List.mem_of_getElem? (i := 715) (by decide +kernel)) rfl)⟩
theorem fl_X4_188 : fr_link RX4 188 4 24 := ⟨by decide, by decide, Or.inl (lwg_of (List.mem_of_getElem? (i := 716) (by decide +kernel)) rfl)⟩
theorem fl_X4_191 : fr_link RX4 191 4 25 := ⟨by decide, by decide, Or.inl (lwg_of (List.mem_of_getElem? (i := 717) (by decide +kernel)) rfl)⟩
theorem fl_X4_194 : fr_link RX4 194 4 26 := ⟨by decide, by decide, Or.inl (lwg_of (List.mem_of_getElem? (i := 718) (by decide +kernel)) rfl)⟩
theorem fl_X4_66 : fr_link RX4 66 4 27 := ⟨by decide, by decide, Or.inl (lwg_of (List.mem_of_getElem? (i := 719) (by decide +kernel)) rfl)⟩
theorem fl_X4_69 : fr_link RX4 69 4 28 := ⟨by decide, by decide, Or.inl (lwg_of (List.mem_of_getElem? (i := 720) (by decide +kernel)) rfl)⟩
theorem fl_X4_164 : fr_link RX4 164 4 29 := ⟨by decide, by decide, Or.inl (lwg_of (List.mem_of_getElem? (i := 721) (by decide +kernel)) rfl)⟩
theorem fl_X4_72 : fr_link RX4 72 4 30 := ⟨by decide, by decide, Or.inl (lwg_of (List.mem_of_getElem? (i := 722) (by decide +kernel)) rfl)⟩
theorem fl_X4_75 : fr_link RX4 75 4 31 := ⟨by decide, by decide, Or.inl (lwg_of (List.mem_of_getElem? (i := 723) (by decide +kernel)) rfl)⟩
theorem fl_X4_235 : fr_link RX4 235 4 32 := ⟨by decide, by decide, Or.inl (lwg_of (List.mem_of_getElem? (i := 724) (by decide +kernel)) rfl)⟩
theorem fl_X4_78 : fr_link RX4 78 4 33 := ⟨by decide, by decide, Or.inl (lwg_of (List.mem_of_getElem? (i := 725) (by decide +kernel)) rfl)⟩
theorem fl_X4_161 : fr_link RX4 161 4 34 := ⟨by decide, by decide, Or.inl (lwg_of (List.mem_of_getElem? (i := 726) (by decide +kernel)) rfl)⟩
theorem fl_X4_81 : fr_link RX4 81 4 35 := ⟨by decide, by decide, Or.inl (lwg_of (List.mem_of_getElem? (i := 727) (by decide +kernel)) rfl)⟩
theorem ml_L_66 : fr_mlink RL 66 mX4_thrown RX4 0 := ⟨lwg_of (List.mem_of_getElem? (i := 802) (by decide +kernel)) rfl, wm_X4_thrown, ws_X4_thrown, wi_X4, wc_X4_thrown, ⟨rfl, by decide +kernel, by decide +kernel, by decide +kernel⟩, by decide⟩
end
section
theorem ml_L_27 : fr_mlink RL 27 mX4_family RX4 4 := ⟨lwg_of (List.mem_of_getElem? (i := 806) (by decide +kernel)) rfl, wm_X4_family, ws_X4_family, wi_X4, wc_X4_family, ⟨rfl, by decide +kernel, by decide +kernel, by decide +kernel⟩, by decide⟩
theorem kl_X4_101 : Cond.constantLong RX4 101 (3) ∈ lwg := lwg_of (List.mem_of_getElem? (i := 810) (by decide +kernel)) rfl
theorem ml_X4_90 : fr_slink RX4 90 mX4_lies 3 := ⟨lwg_of (List.mem_of_getElem? (i := 811) (by decide +kernel)) rfl, wt_X4_lies, wi_X4, wc_X4_lies, ⟨by decide +kernel, by decide +kernel, by decide +kernel⟩, by decide⟩
theorem kl_X4_103 : Cond.constantLong RX4 103 (9) ∈ lwg := lwg_of (List.mem_of_getElem? (i := 814) (by decide +kernel)) rfl
theorem ml_L_32 : fr_mlink RL 32 mX4_weeks RX4 4 := ⟨lwg_of (List.mem_of_getElem? (i := 815) (by decide +kernel)) rfl, wm_X4_weeks, ws_X4_weeks, wi_X4, wc_X4_weeks, ⟨rfl, by decide +kernel, by decide +kernel, by decide +kernel⟩, by decide⟩
theorem ml_X4_94 : fr_mlink RX4 94 mX4_isFamily RX4 1 := ⟨lwg_of (List.mem_of_getElem? (i := 819) (by decide +kernel)) rfl, wm_X4_isFamily, ws_X4_isFamily, wi_X4, wc_X4_isFamily, ⟨rfl, by decide +kernel, by decide +kernel, by decide +kernel⟩, by decide⟩
theorem kl_X4_105 : Cond.constantLong RX4 105 (51) ∈ lwg := lwg_of (List.mem_of_getElem? (i := 823) (by decide +kernel)) rfl
theorem ml_L_36 : fr_mlink RL 36 mX4_wish RX4 2 := ⟨lwg_of (List.mem_of_getElem? (i := 824) (by decide +kernel)) rfl, wm_X4_wish, ws_X4_wish, wi_X4, wc_X4_wish, ⟨rfl, by decide +kernel, by decide +kernel, by decide +kernel⟩, by decide⟩
theorem ml_X4_107 : fr_mlink RX4 107 mX4_areTwo RX4 2 := ⟨lwg_of (List.mem_of_getElem? (i := 828) (by decide +kernel)) rfl, wm_X4_areTwo, ws_X4_areTwo, wi_X4, wc_X4_areTwo, ⟨rfl, by decide +kernel, by decide +kernel, by decide +kernel⟩, by decide⟩
theorem ml_X4_111 : fr_mlink RX4 111 mX4_rankOf RX4 2 := ⟨lwg_of (List.mem_of_getElem? (i := 832) (by decide +kernel)) rfl, wm_X4_rankOf, ws_X4_rankOf, wi_X4, wc_X4_rankOf, ⟨rfl, by decide +kernel, by decide +kernel, by decide +kernel⟩, by decide⟩
theorem ml_X4_115 : fr_mlink RX4 115 mX4_wants RX4 2 := ⟨lwg_of (List.mem_of_getElem? (i := 836) (by decide +kernel)) rfl, wm_X4_wants, ws_X4_wants, wi_X4, wc_X4_wants, ⟨rfl, by decide +kernel, by decide +kernel, by decide +kernel⟩, by decide⟩
theorem ml_L_41 : fr_mlink RL 41 mX4_wishes RX4 5 := ⟨lwg_of (List.mem_of_getElem? (i := 840) (by decide +kernel)) rfl, wm_X4_wishes, ws_X4_wishes, wi_X4, wc_X4_wishes, ⟨rfl, by decide +kernel, by decide +kernel, by decide +kernel⟩, by decide⟩
theorem kl_X4_119 : Cond.constantLong RX4 119 (2) ∈ lwg := lwg_of (List.mem_of_getElem? (i := 844) (by decide +kernel)) rfl
theorem ml_L_46 : fr_mlink RL 46 mX4_bar RX4 3 := ⟨lwg_of (List.mem_of_getElem? (i := 845) (by decide +kernel)) rfl, wm_X4_bar, ws_X4_bar, wi_X4, wc_X4_bar, ⟨rfl, by decide +kernel, by decide +kernel, by decide +kernel⟩, by decide⟩
theorem ml_L_51 : fr_mlink RL 51 mX4_in RX4 2 := ⟨lwg_of (List.mem_of_getElem? (i := 849) (by decide +kernel)) rfl, wm_X4_in, ws_X4_in, wi_X4, wc_X4_in, ⟨rfl, by decide +kernel, by decide +kernel, by decide +kernel⟩, by decide⟩
theorem ml_L_55 : fr_mlink RL 55 mX4_set RX4 2 := ⟨lwg_of (List.mem_of_getElem? (i := 853) (by decide +kernel)) rfl, wm_X4_set, ws_X4_set, wi_X4, wc_X4_set, ⟨rfl, by decide +kernel, by decide +kernel, by decide +kernel⟩, by decide⟩
theorem kl_X4_124 : Cond.constantLong RX4 124 (8) ∈ lwg := lwg_of (List.mem_of_getElem? (i := 857) (by decide +kernel)) rfl
theorem kl_X4_126 : Cond.constantLong RX4 126 (10) ∈ lwg := lwg_of (List.mem_of_getElem? (i := 858) (by decide +kernel)) rfl
theorem kl_X4_128 : Cond.constantLong RX4 128 (500) ∈ lwg := lwg_of (List.mem_of_getElem? (i := 859) (by decide +kernel)) rfl
theorem ml_L_73 : fr_mlink RL 73 mX4_rank RX4 2 := ⟨lwg_of (List.mem_of_getElem? (i := 860) (by decide +kernel)) rfl, wm_X4_rank, ws_X4_rank, wi_X4, wc_X4_rank, ⟨rfl, by decide +kernel, by decide +kernel, by decide +kernel⟩, by decide⟩
theorem ml_L_77 : fr_mlink RL 77 mX4_can RX4 2 := ⟨lwg_of (List.mem_of_getElem? (i := 864) (by decide +kernel)) rfl, wm_X4_can, ws_X4_can, wi_X4, wc_X4_can, ⟨rfl, by decide +kernel, by decide +kernel, by decide +kernel⟩, by decide⟩
theorem ml_X4_142 : fr_mlink RX4 142 mX4_barrier RX4 2 := ⟨lwg_of (List.mem_of_getElem? (i := 868) (by decide +kernel)) rfl, wm_X4_barrier, ws_X4_barrier, wi_X4, wc_X4_barrier, ⟨rfl, by decide +kernel, by decide +kernel, by decide +kernel⟩, by decide⟩
theorem ml_X4_130 : fr_mlink RX4 130 mX4_sleeps RX4 1 := ⟨lwg_of (List.mem_of_getElem? (i := 872) (by decide +kernel)) rfl, wm_X4_sleeps, ws_X4_sleeps, wi_X4, wc_X4_sleeps, ⟨rfl, by decide +kernel, by decide +kernel, by decide +kernel⟩, by decide⟩
theorem ml_X4_134 : fr_slink RX4 134 mJ9_min_7cf53 2 := ⟨lwg_of (List.mem_of_getElem? (i := 876) (by decide +kernel)) rfl, wt_J9_min_7cf53, wi_J9, wc_J9_min_7cf53, ⟨by decide +kernel, by decide +kernel, by decide +kernel⟩, by decide⟩
theorem ml_X4_139 : fr_slink RX4 139 mJ9_max_7cf53 2 := ⟨lwg_of (List.mem_of_getElem? (i := 877) (by decide +kernel)) rfl, wt_J9_max_7cf53, wi_J9, wc_J9_max_7cf53, ⟨by decide +kernel, by decide +kernel, by decide +kernel⟩, by decide⟩
theorem ml_L_81 : fr_mlink RL 81 mX4_week RX4 2 := ⟨lwg_of (List.mem_of_getElem? (i := 878) (by decide +kernel)) rfl, wm_X4_week, ws_X4_week, wi_X4, wc_X4_week, ⟨rfl, by decide +kernel, by decide +kernel, by decide +kernel⟩, by decide⟩
theorem ml_L_90 : fr_mlink RL 90 mX4_wrong RX4 0 := ⟨lwg_of (List.mem_of_getElem? (i := 882) (by decide +kernel)) rfl, wm_X4_wrong, ws_X4_wrong, wi_X4, wc_X4_wrong, ⟨rfl, by decide +kernel, by decide +kernel, by decide +kernel⟩, by decide⟩
theorem ml_X4_154 : fr_mlink RX4 154 mX4_open RX4 0 := ⟨lwg_of (List.mem_of_getElem? (i := 886) (by decide +kernel)) rfl, wm_X4_open, ws_X4_open, wi_X4, wc_X4_open, ⟨rfl, by decide +kernel, by decide +kernel, by decide +kernel⟩, by decide⟩
theorem ml_X4_145 : fr_mlink RX4 145 mX4_goesAtAll RX4 1 := ⟨lwg_of (List.mem_of_getElem? (i := 890) (by decide +kernel)) rfl, wm_X4_goesAtAll, ws_X4_goesAtAll, wi_X4, wc_X4_goesAtAll, ⟨rfl, by decide +kernel, by decide +kernel, by decide +kernel⟩, by decide⟩
theorem ml_X4_148 : fr_mlink RX4 148 mX4_takes RX4 2 := ⟨lwg_of (List.mem_of_getElem? (i := 894) (by decide +kernel)) rfl, wm_X4_takes, ws_X4_takes, wi_X4, wc_X4_takes, ⟨rfl, by decide +kernel, by decide +kernel, by decide +kernel⟩, by decide⟩
theorem ml_X4_151 : fr_mlink RX4 151 mX4_guest RX4 1 := ⟨lwg_of (List.mem_of_getElem? (i := 898) (by decide +kernel)) rfl, wm_X4_guest, ws_X4_guest, wi_X4, wc_X4_guest, ⟨rfl, by decide +kernel, by decide +kernel, by decide +kernel⟩, by decide⟩
theorem ml_X4_158 : fr_mlink RX4 158 mX4_ringOf RX4 1 := ⟨lwg_of (List.mem_of_getElem? (i := 902) (by decide +kernel)) rfl, wm_X4_ringOf, ws_X4_ringOf, wi_X4, wc_X4_ringOf, ⟨rfl, by decide +kernel, by decide +kernel, by decide +kernel⟩, by decide⟩
theorem ml_L_59 : fr_mlink RL 59 mX4_count RX4 1 := ⟨lwg_of (List.mem_of_getElem? (i := 906) (by decide +kernel)) rfl, wm_X4_count, ws_X4_count, wi_X4, wc_X4_count, ⟨rfl, by decide +kernel, by decide +kernel, by decide +kernel⟩, by decide⟩
theorem ml_X4_167 : fr_mlink RX4 167 mX4_goers RX4 0 := ⟨lwg_of (List.mem_of_getElem? (i := 910) (by decide +kernel)) rfl, wm_X4_goers, ws_X4_goers, wi_X4, wc_X4_goers, ⟨rfl, by decide +kernel, by decide +kernel, by decide +kernel⟩, by decide⟩
theorem ml_X4_170 : fr_mlink RX4 170 mX4_rings RX4 0 := ⟨lwg_of (List.mem_of_getElem? (i := 914) (by decide +kernel)) rfl, wm_X4_rings, ws_X4_rings, wi_X4, wc_X4_rings, ⟨rfl, by decide +kernel, by decide +kernel, by decide +kernel⟩, by decide⟩
theorem ml_L_65 : fr_mlink RL 65 mX4_of RX4 2 := ⟨lwg_of (List.mem_of_getElem? (i := 918) (by decide +kernel)) rfl, wm_X4_of, ws_X4_of, wi_X4, wc_X4_of, ⟨rfl, by decide +kernel, by decide +kernel, by decide +kernel⟩, by decide⟩
theorem kl_X4_173 : Cond.constantLong RX4 173 (7) ∈ lwg := lwg_of (List.mem_of_getElem? (i := 922) (by decide +kernel)) rfl
theorem ml_X4_175 : fr_mlink RX4 175 mX4_refuse RX4 0 := ⟨lwg_of (List.mem_of_getElem? (i := 923) (by decide +kernel)) rfl, wm_X4_refuse, ws_X4_refuse, wi_X4, wc_X4_refuse, ⟨rfl, by decide +kernel, by decide +kernel, by decide +kernel⟩, by decide⟩
theorem ml_X4_178 : fr_mlink RX4 178 mX4_worth RX4 1 := ⟨lwg_of (List.mem_of_getElem? (i := 927) (by decide +kernel)) rfl, wm_X4_worth, ws_X4_worth, wi_X4, wc_X4_worth, ⟨rfl, by decide +kernel, by decide +kernel, by decide +kernel⟩, by decide⟩
theorem ml_L_86 : fr_mlink RL 86 mX4_put RX4 2 := ⟨lwg_of (List.mem_of_getElem? (i := 931) (by decide +kernel)) rfl, wm_X4_put, ws_X4_put, wi_X4, wc_X4_put, ⟨rfl, by decide +kernel, by decide +kernel, by decide +kernel⟩, by decide⟩
theorem ml_L_94 : fr_mlink RL 94 mX4_best RX4 0 := ⟨lwg_of (List.mem_of_getElem? (i := 935) (by decide +kernel)) rfl, wm_X4_best, ws_X4_best, wi_X4, wc_X4_best, ⟨rfl, by decide +kernel, by decide +kernel, by decide +kernel⟩, by decide⟩
theorem ml_X4_212 : fr_mlink RX4 212 mX4_all RX4 1 := ⟨lwg_of (List.mem_of_getElem? (i := 939) (by decide +kernel)) rfl, wm_X4_all, ws_X4_all, wi_X4, wc_X4_all, ⟨rfl, by decide +kernel, by decide +kernel, by decide +kernel⟩, by decide⟩
theorem ml_X4_208 : fr_mlink RX4 208 mX4_goes RX4 5 := ⟨lwg_of (List.mem_of_getElem? (i := 943) (by decide +kernel)) rfl, wm_X4_goes, ws_X4_goes, wi_X4, wc_X4_goes, ⟨rfl, by decide +kernel, by decide +kernel, by decide +kernel⟩, by decide⟩
theorem ml_X4_197 : fr_mlink RX4 197 mX4_mayBe RX4 4 := ⟨lwg_of (List.mem_of_getElem? (i := 947) (by decide +kernel)) rfl, wm_X4_mayBe, ws_X4_mayBe, wi_X4, wc_X4_mayBe, ⟨rfl, by decide +kernel, by decide +kernel, by decide +kernel⟩, by decide⟩
theorem ml_X4_201 : fr_mlink RX4 201 mX4_offers RX4 3 := ⟨lwg_of (List.mem_of_getElem? (i := 951) (by decide +kernel)) rfl, wm_X4_offers, ws_X4_offers, wi_X4, wc_X4_offers, ⟨rfl, by decide +kernel, by decide +kernel, by decide +kernel⟩, by decide⟩
theorem ml_X4_205 : fr_mlink RX4 205 mX4_isShort RX4 2 := ⟨lwg_of (List.mem_of_getElem? (i := 955) (by decide +kernel)) rfl, wm_X4_isShort, ws_X4_isShort, wi_X4, wc_X4_isShort, ⟨rfl, by decide +kernel, by decide +kernel, by decide +kernel⟩, by decide⟩
theorem ml_L_98 : fr_mlink RL 98 mX4_mend RX4 0 := ⟨lwg_of (List.mem_of_getElem? (i := 959) (by decide +kernel)) rfl, wm_X4_mend, ws_X4_mend, wi_X4, wc_X4_mend, ⟨rfl, by decide +kernel, by decide +kernel, by decide +kernel⟩, by decide⟩
theorem ml_L_102 : fr_mlink RL 102 mX4_trade RX4 0 := ⟨lwg_of (List.mem_of_getElem? (i := 963) (by decide +kernel)) rfl, wm_X4_trade, ws_X4_trade, wi_X4, wc_X4_trade, ⟨rfl, by decide +kernel, by decide +kernel, by decide +kernel⟩, by decide⟩
theorem ml_X4_219 : fr_mlink RX4 219 mX4_leaver RX4 0 := ⟨lwg_of (List.mem_of_getElem? (i := 967) (by decide +kernel)) rfl, wm_X4_leaver, ws_X4_leaver, wi_X4, wc_X4_leaver, ⟨rfl, by decide +kernel, by decide +kernel, by decide +kernel⟩, by decide⟩
theorem ml_X4_216 : fr_mlink RX4 216 mX4_firstOf RX4 1 := ⟨lwg_of (List.mem_of_getElem? (i := 971) (by decide +kernel)) rfl, wm_X4_firstOf, ws_X4_firstOf, wi_X4, wc_X4_firstOf, ⟨rfl, by decide +kernel, by decide +kernel, by decide +kernel⟩, by decide⟩
theorem ml_X4_222 : fr_mlink RX4 222 mX4_isRound RX4 1 := ⟨lwg_of (List.mem_of_getElem? (i := 975) (by decide +kernel)) rfl, wm_X4_isRound, ws_X4_isRound, wi_X4, wc_X4_isRound, ⟨rfl, by decide +kernel, by decide +kernel, by decide +kernel⟩, by decide⟩
theorem ml_L_106 : fr_mlink RL 106 mX4_blocks RX4 0 := ⟨lwg_of (List.mem_of_getElem? (i := 979) (by decide +kernel)) rfl, wm_X4_blocks, ws_X4_blocks, wi_X4, wc_X4_blocks, ⟨rfl, by decide +kernel, by decide +kernel, by decide +kernel⟩, by decide⟩
theorem ml_X4_228 : fr_mlink RX4 228 mX4_closes RX4 3 := ⟨lwg_of (List.mem_of_getElem? (i := 983) (by decide +kernel)) rfl, wm_X4_closes, ws_X4_closes, wi_X4, wc_X4_closes, ⟨rfl, by decide +kernel, by decide +kernel, by decide +kernel⟩, by decide⟩
theorem ml_X4_225 : fr_mlink RX4 225 mX4_wouldRather RX4 2 := ⟨lwg_of (List.mem_of_getElem? (i := 987) (by decide +kernel)) rfl, wm_X4_wouldRather, ws_X4_wouldRather, wi_X4, wc_X4_wouldRather, ⟨rfl, by decide +kernel, by decide +kernel, by decide +kernel⟩, by decide⟩
theorem ml_X4_232 : fr_mlink RX4 232 mX4_tells RX4 1 := ⟨lwg_of (List.mem_of_getElem? (i := 991) (by decide +kernel)) rfl, wm_X4_tells, ws_X4_tells, wi_X4, wc_X4_tells, ⟨rfl, by decide +kernel, by decide +kernel, by decide +kernel⟩, by decide⟩
theorem ml_L_110 : fr_mlink RL 110 mX4_ring RX4 1 := ⟨lwg_of (List.mem_of_getElem? (i := 995) (by decide +kernel)) rfl, wm_X4_ring, ws_X4_ring, wi_X4, wc_X4_ring, ⟨rfl, by decide +kernel, by decide +kernel, by decide +kernel⟩, by decide⟩
theorem ml_L_114 : fr_mlink RL 114 mX4_chain RX4 1 := ⟨lwg_of (List.mem_of_getElem? (i := 999) (by decide +kernel)) rfl, wm_X4_chain, ws_X4_chain, wi_X4, wc_X4_chain, ⟨rfl, by decide +kernel, by decide +kernel, by decide +kernel⟩, by decide⟩
theorem ml_X4_238 : fr_mlink RX4 238 mX4_goesOn RX4 3 := ⟨lwg_of (List.mem_of_getElem? (i := 1003) (by decide +kernel)) rfl, wm_X4_goesOn, ws_X4_goesOn, wi_X4, wc_X4_goesOn, ⟨rfl, by decide +kernel, by decide +kernel, by decide +kernel⟩, by decide⟩
theorem ml_L_118 : fr_mlink RL 118 mX4_travel RX4 0 := ⟨lwg_of (List.mem_of_getElem? (i := 1007) (by decide +kernel)) rfl, wm_X4_travel, ws_X4_travel, wi_X4, wc_X4_travel, ⟨rfl, by decide +kernel, by decide +kernel, by decide +kernel⟩, by decide⟩
theorem ml_L_122 : fr_mlink RL 122 mX4_book RX4 0 := ⟨lwg_of (List.mem_of_getElem? (i := 1011) (by decide +kernel)) rfl, wm_X4_book, ws_X4_book, wi_X4, wc_X4_book, ⟨rfl, by decide +kernel, by decide +kernel, by decide +kernel⟩, by decide⟩
theorem ml_X4_241 : fr_mlink RX4 241 mX4_pays RX4 2 := ⟨lwg_of (List.mem_of_getElem? (i := 1015) (by decide +kernel)) rfl, wm_X4_pays, ws_X4_pays, wi_X4, wc_X4_pays, ⟨rfl, by decide +kernel, by decide +kernel, by decide +kernel⟩, by decide⟩
theorem ml_L_126 : fr_mlink RL 126 mX4_went RX4 2 := ⟨lwg_of (List.mem_of_getElem? (i := 1019) (by decide +kernel)) rfl, wm_X4_went, ws_X4_went, wi_X4, wc_X4_went, ⟨rfl, by decide +kernel, by decide +kernel, by decide +kernel⟩, by decide⟩
theorem ml_L_130 : fr_mlink RL 130 mX4_undo RX4 0 := ⟨lwg_of (List.mem_of_getElem? (i := 1023) (by decide +kernel)) rfl, wm_X4_undo, ws_X4_undo, wi_X4, wc_X4_undo, ⟨rfl, by decide +kernel, by decide +kernel, by decide +kernel⟩, by decide⟩
theorem ml_L_134 : fr_mlink RL 134 mX4_row RX4 1 := ⟨lwg_of (List.mem_of_getElem? (i := 1027) (by decide +kernel)) rfl, wm_X4_row, ws_X4_row, wi_X4, wc_X4_row, ⟨rfl, by decide +kernel, by decide +kernel, by decide +kernel⟩, by decide⟩
theorem ob_m : Cond.instanceMethod objectInit ∈ lwg := lwg_of (List.mem_of_getElem? (i := 91) (by decide +kernel)) rfl
theorem ob_c : Cond.code objectInit ⟨#[0xb1]⟩ 1 none ∈ lwg := lwg_of (List.mem_of_getElem? (i := 92) (by decide +kernel)) rfl
end
section
/-! The two objects of the law, by keys. 0: the HomeRings; 1 households, 2 goesTo, 3 booked, 4 told, 5 shown, 6 ringSearch, 7 ways; 8 homes, 9 before, 10 starts; 11 places, 12 scores, 13 open, 14 rings, 15 settled; 20 + f: a household, 30 + f: its ranks; 40: the reference, 40 + k: the array of its field k. -/
def sk (i : Nat) : Option Shp :=
  if 20 ≤ i ∧ i < 30 then some (.inl (0, fun k => if k = 0 then some (i + 10) else none))
  else if 30 ≤ i ∧ i < 40 then some (.inr (.inl (0, 10)))
  else match i with
  | 0 => some (.inl (3, fun k => if k < 7 then some (k + 1) else none))
  | 1 => some (.inr (.inr (10, fun k => if k < 10 then some (20 + k) else none)))
  | 2 => some (.inr (.inl (0, 10)))
  | 3 => some (.inr (.inl (0, 600)))
  | 4 => some (.inr (.inl (0, 10)))
  | 5 => some (.inr (.inl (0, 10)))
  | 6 => some (.inl (1, fun k => if k < 5 then some (11 + k) else none))
  | 7 => some (.inl (2, fun k => if k < 3 then some (8 + k) else none))
  | 8 => some (.inr (.inl (0, 10)))
  | 9 => some (.inr (.inl (0, 11)))
  | 10 => some (.inr (.inl (0, 1024)))
  | 11 => some (.inr (.inl (2, 10)))
  | 12 => some (.inr (.inl (2, 100)))
  | 13 => some (.inr (.inl (2, 4608)))
  | 14 => some (.inr (.inl (2, 1024)))
  | 15 => some (.inr (.inl (2, 1024)))
  | 40 => some (.inl (4, fun k => if fr_isR 4 k = true then some (40 + k) else none))
  | 42 => some (.inr (.inl (0, 10)))
  | 43 => some (.inr (.inl (0, 10)))
  | 44 => some (.inr (.inl (0, 10)))
  | 45 => some (.inr (.inl (1, 10)))
  | 46 => some (.inr (.inl (0, 10)))
  | 47 => some (.inr (.inl (0, 10)))
  | 48 => some (.inr (.inl (0, 10)))
  | 49 => some (.inr (.inl (0, 10)))
  | 50 => some (.inr (.inl (0, 10)))
  | 51 => some (.inr (.inl (1, 10)))
  | 52 => some (.inr (.inl (0, 10)))
  | 53 => some (.inr (.inl (0, 100)))
  | 54 => some (.inr (.inl (1, 100)))
  | 55 => some (.inr (.inl (0, 10)))
  | 60 => some (.inr (.inl (0, 10)))
  | 61 => some (.inr (.inl (0, 10)))
  | 67 => some (.inr (.inl (1, 10)))
  | 68 => some (.inr (.inl (0, 10)))
  | 70 => some (.inr (.inl (0, 10)))
  | 71 => some (.inr (.inl (0, 10)))
  | 73 => some (.inr (.inl (0, 10)))
  | 75 => some (.inr (.inl (0, 600)))
  | _ => none
theorem sk_hh {f : Nat} (h : f < 10) : sk (20 + f) = some (.inl (0, fun k => if k = 0 then some (20 + f + 10) else none)) := by
  unfold sk
  rw [if_pos ⟨by omega, by omega⟩]
theorem sk_rk {f : Nat} (h : f < 10) : sk (30 + f) = some (.inr (.inl (0, 10))) := by
  unfold sk
  rw [if_neg (by omega), if_pos ⟨by omega, by omega⟩]
def shq (q : Nat → Nat) : Shp → Shp
  | .inl o => .inl (o.1, fun k => (o.2 k).map q)
  | .inr (.inl o) => .inr (.inl o)
  | .inr (.inr o) => .inr (.inr (o.1, fun k => (o.2 k).map q))
def WOK (L : List Nat) (Sh : Nat → Shp) (q qi : Nat → Nat) : Prop := (∀ i, i < 100 → qi (q i) = i) ∧ (∀ a, qi a < 100 → q (qi a) = a) ∧ ∀ i s, sk i = some s → i < 100 ∧ fr_at L Sh (q i) (shq q s)
def tv (q : Nat → Nat) : Value → Value
  | .ref i => .ref (q i)
  | v => v
def tl (q : Nat → Nat) (lv : LV) : LV := lv.map (fun p => (p.1, tv q p.2))
theorem tv_cat (q : Nat → Nat) (v : Value) : (tv q v).category = v.category := by cases v <;> rfl
theorem tv_sum (q : Nat → Nat) : ∀ st : List Value, ((st.map (tv q)).map fun v => v.category).sum = (st.map fun v => v.category).sum
  | [] => rfl
  | v :: r => by
    have := tv_sum q r
    simp only [List.map_cons, List.sum_cons, tv_cat] at this ⊢
    omega
theorem tl_G (q : Nat → Nat) (i : Nat) : ∀ lv : LV, lvG i (tl q lv) = (lvG i lv).map (tv q)
  | [] => rfl
  | a :: r => by
    have := tl_G q i r
    show cond (Nat.beq a.1 i) (some (tv q a.2)) (lvG i (tl q r)) = (cond (Nat.beq a.1 i) (some a.2) (lvG i r)).map (tv q)
    rw [this]
    cases Nat.beq a.1 i <;> rfl
theorem tl_put (q : Nat → Nat) (i : Nat) (v : Value) : ∀ lv : LV, lv_put i (tv q v) (tl q lv) = tl q (lv_put i v lv)
  | [] => rfl
  | a :: r => by
    have := tl_put q i v r
    show cond (Nat.blt a.1 i) ((a.1, tv q a.2) :: lv_put i (tv q v) (tl q r)) _ = tl q (cond (Nat.blt a.1 i) (a :: lv_put i v r) _)
    rw [this]
    cases Nat.blt a.1 i <;> rfl
theorem tl_S1 (q : Nat → Nat) (i : Nat) (v : Value) (lv : LV) : lvS1 i (tv q v) (tl q lv) = tl q (lvS1 i v lv) := by
  unfold lvS1
  rw [← tl_put]
  congr 1
  simp only [tl, List.filter_map]
  congr 1
  apply List.filter_congr
  intro x _
  simp [tv_cat]
theorem tl_S2 (q : Nat → Nat) (i : Nat) (v : Value) (lv : LV) : lvS2 i (tv q v) (tl q lv) = tl q (lvS2 i v lv) := by
  unfold lvS2
  rw [← tl_put]
  congr 1
  simp only [tl, List.filter_map]
  congr 1
  apply List.filter_congr
  intro x _
  simp [tv_cat]
def km (qi : Nat → Nat) (N : Mem) : Mem := fun a j => N (qi a) j
def kj (qi : Nat → Nat) (N : Mej) : Mej := fun a j => N (qi a) j
theorem km_set {L : List Nat} {Sh : Nat → Shp} {q qi : Nat → Nat} (hW : WOK L Sh q qi) {i : Nat} (hi : i < 100) (N : Mem) (k : Nat) (v : Int32) : sM (km qi N) (q i) k v = km qi (sM N i k v) := by
  funext a j
  rw [sM_at]
  show _ = sM N i k v (qi a) j
  rw [sM_at]
  by_cases h : a = q i
  · subst h
    rw [hW.1 i hi]
    by_cases h2 : j = k
    · simp [h2]
    · simp [h2, km, hW.1 i hi]
  · have h2 : qi a ≠ i := fun e => h (by rw [← e, hW.2.1 a (by omega)])
    simp [h, h2, km]
theorem kj_set {L : List Nat} {Sh : Nat → Shp} {q qi : Nat → Nat} (hW : WOK L Sh q qi) {i : Nat} (hi : i < 100) (N : Mej) (k : Nat) (v : Int64) : sJ (kj qi N) (q i) k v = kj qi (sJ N i k v) := by
  funext a j
  rw [sJ_at]
  show _ = sJ N i k v (qi a) j
  rw [sJ_at]
  by_cases h : a = q i
  · subst h
    rw [hW.1 i hi]
    by_cases h2 : j = k
    · simp [h2]
    · simp [h2, kj, hW.1 i hi]
  · have h2 : qi a ≠ i := fun e => h (by rw [← e, hW.2.1 a (by omega)])
    simp [h, h2, kj]
abbrev PK : Type := Option Value → Mem → Mej → Prop
def pk (L : List Nat) (Sh : Nat → Shp) (q qi : Nat → Nat) (Post : PK) : PST := fun r L1 Sh1 M1 J1 => ∃ (r' : Option Value) (N : Mem) (K : Mej), r = r'.map (tv q) ∧ L1 = L ∧ Sh1 = Sh ∧ M1 = km qi N ∧ J1 = kj qi K ∧ Post r' N K
/-- from this frame the method comes to its end with Post, in any world of that shape -/
def EK (d : Nat) (mi : MI) (Post : PK) (pc : Nat) (lv : LV) (st : List Value) (N : Mem) (K : Mej) : Prop :=
  ∀ l D cy A L Sh q qi, WOK L Sh q qi → EE l D cy d 0 0 mi A (pk L Sh q qi Post) 0 0 pc (tl q lv) (st.map (tv q)) L Sh (km qi N) (kj qi K)
/-- the contract of a method, in any world of that shape -/
def CK (d : Nat) (mi : MI) (args : List Value) (N : Mem) (K : Mej) (Post : PK) : Prop :=
  ∀ l D cy L Sh q qi, WOK L Sh q qi → Cn l D cy d 0 0 mi (args.map (tv q)) L Sh (km qi N) (kj qi K) (pk L Sh q qi Post)
/-- exactly: the answer, and the memory behind it -/
abbrev PX (r : Option Value) (N : Mem) (K : Mej) : PK := fun r1 N1 K1 => r1 = r ∧ N1 = N ∧ K1 = K
theorem tl_args (q : Nat → Nat) : ∀ (vs : List Value) (i : Nat), lv_args i (vs.map (tv q)) = tl q (lv_args i vs)
  | [], _ => rfl
  | v :: r, i => by
    have h := fun j => tl_args q r j
    cases v <;> first | (show _ :: _ = _ :: _; congr 1; exact h _)
theorem tl_sl (q : Nat → Nat) : ∀ vs : List Value, (lg_sl (vs.map (tv q))).length = (lg_sl vs).length
  | [] => rfl
  | v :: r => by
    have h := tl_sl q r
    cases v <;> simp [lg_sl, tv, Value.category] at h ⊢ <;> omega
theorem CK.start {d : Nat} {mi : MI} {args : List Value} {N : Mem} {K : Mej} {Post : PK} (lv : LV) (hy : plainFor mi.1 = true) (hlen : (lg_sl args).length ≤ mi.2.2.1) (hlv : lv_args 0 args = lv) (k : EK d mi Post 0 lv [] N K) : CK d mi args N K Post := by
  intro l D cy L Sh q qi hW
  refine Cn.start (tl q lv) hy (by rw [tl_sl]; exact hlen) (by rw [tl_args, hlv]) (fun A => ?_)
  exact k l D cy A L Sh q qi hW
section KROWS
variable {d : Nat} {mi : MI} {Post : PK} {pc n : Nat} {lv : LV} {st rest : List Value} {N : Mem} {K : Mej}

theorem K_iadd {x y : Int32} (hd : decode mi.2.1 pc = .ok (.iadd, 1))(hn : pc + 1 = n) (k : EK d mi Post n lv (.int (x + y) :: rest) N K) : EK d mi Post pc lv (.int y :: .int x :: rest) N K := by
  intro l D cy A L Sh q qi hW
  exact E_iadd hd hn (k l D cy A L Sh q qi hW)
theorem K_isub {x y : Int32} (hd : decode mi.2.1 pc = .ok (.isub, 1))(hn : pc + 1 = n) (k : EK d mi Post n lv (.int (x - y) :: rest) N K) : EK d mi Post pc lv (.int y :: .int x :: rest) N K := by
  intro l D cy A L Sh q qi hW
  exact E_isub hd hn (k l D cy A L Sh q qi hW)
theorem K_imul {x y : Int32} (hd : decode mi.2.1 pc = .ok (.imul, 1))(hn : pc + 1 = n) (k : EK d mi Post n lv (.int (x * y) :: rest) N K) : EK d mi Post pc lv (.int y :: .int x :: rest) N K := by
  intro l D cy A L Sh q qi hW
  exact E_imul hd hn (k l D cy A L Sh q qi hW)
theorem K_iand {x y : Int32} (hd : decode mi.2.1 pc = .ok (.iand, 1))(hn : pc + 1 = n) (k : EK d mi Post n lv (.int (x &&& y) :: rest) N K) : EK d mi Post pc lv (.int y :: .int x :: rest) N K := by
  intro l D cy A L Sh q qi hW
  exact E_iand hd hn (k l D cy A L Sh q qi hW)
theorem K_ior {x y : Int32} (hd : decode mi.2.1 pc = .ok (.ior, 1))(hn : pc + 1 = n) (k : EK d mi Post n lv (.int (x ||| y) :: rest) N K) : EK d mi Post pc lv (.int y :: .int x :: rest) N K := by
  intro l D cy A L Sh q qi hW
  exact E_ior hd hn (k l D cy A L Sh q qi hW)
theorem K_ixor {x y : Int32} (hd : decode mi.2.1 pc = .ok (.ixor, 1))(hn : pc + 1 = n) (k : EK d mi Post n lv (.int (x ^^^ y) :: rest) N K) : EK d mi Post pc lv (.int y :: .int x :: rest) N K := by
  intro l D cy A L Sh q qi hW
  exact E_ixor hd hn (k l D cy A L Sh q qi hW)
theorem K_ishl {x y : Int32} (hd : decode mi.2.1 pc = .ok (.ishl, 1))(hn : pc + 1 = n) (k : EK d mi Post n lv (.int (x <<< (y &&& 31)) :: rest) N K) : EK d mi Post pc lv (.int y :: .int x :: rest) N K := by
  intro l D cy A L Sh q qi hW
  exact E_ishl hd hn (k l D cy A L Sh q qi hW)
theorem K_ishr {x y : Int32} (hd : decode mi.2.1 pc = .ok (.ishr, 1))(hn : pc + 1 = n) (k : EK d mi Post n lv (.int (x >>> (y &&& 31)) :: rest) N K) : EK d mi Post pc lv (.int y :: .int x :: rest) N K := by
  intro l D cy A L Sh q qi hW
  exact E_ishr hd hn (k l D cy A L Sh q qi hW)
theorem K_iushr {x y : Int32} (hd : decode mi.2.1 pc = .ok (.iushr, 1))(hn : pc + 1 = n) (k : EK d mi Post n lv (.int ((x.toUInt32 >>> (y.toUInt32 &&& Int32.toUInt32 31)).toInt32) :: rest) N K) : EK d mi Post pc lv (.int y :: .int x :: rest) N K := by
  intro l D cy A L Sh q qi hW
  exact E_iushr hd hn (k l D cy A L Sh q qi hW)
theorem K_ladd {x y : Int64} (hd : decode mi.2.1 pc = .ok (.ladd, 1))(hn : pc + 1 = n) (k : EK d mi Post n lv (.long (x + y) :: rest) N K) : EK d mi Post pc lv (.long y :: .long x :: rest) N K := by
  intro l D cy A L Sh q qi hW
  exact E_ladd hd hn (k l D cy A L Sh q qi hW)
theorem K_lsub {x y : Int64} (hd : decode mi.2.1 pc = .ok (.lsub, 1))(hn : pc + 1 = n) (k : EK d mi Post n lv (.long (x - y) :: rest) N K) : EK d mi Post pc lv (.long y :: .long x :: rest) N K := by
  intro l D cy A L Sh q qi hW
  exact E_lsub hd hn (k l D cy A L Sh q qi hW)
theorem K_lmul {x y : Int64} (hd : decode mi.2.1 pc = .ok (.lmul, 1))(hn : pc + 1 = n) (k : EK d mi Post n lv (.long (x * y) :: rest) N K) : EK d mi Post pc lv (.long y :: .long x :: rest) N K := by
  intro l D cy A L Sh q qi hW
  exact E_lmul hd hn (k l D cy A L Sh q qi hW)
theorem K_lxor {x y : Int64} (hd : decode mi.2.1 pc = .ok (.lxor, 1))(hn : pc + 1 = n) (k : EK d mi Post n lv (.long (x ^^^ y) :: rest) N K) : EK d mi Post pc lv (.long y :: .long x :: rest) N K := by
  intro l D cy A L Sh q qi hW
  exact E_lxor hd hn (k l D cy A L Sh q qi hW)
theorem K_irem {x y : Int32} (hd : decode mi.2.1 pc = .ok (.irem, 1))(hne : ¬ y = 0)(hn : pc + 1 = n) (k : EK d mi Post n lv (.int (x - x / y * y) :: rest) N K) : EK d mi Post pc lv (.int y :: .int x :: rest) N K := by
  intro l D cy A L Sh q qi hW
  exact E_irem hd hne hn (k l D cy A L Sh q qi hW)
theorem K_ldiv {x y : Int64} (hd : decode mi.2.1 pc = .ok (.ldiv, 1))(hne : ¬ y = 0)(hn : pc + 1 = n) (k : EK d mi Post n lv (.long (x / y) :: rest) N K) : EK d mi Post pc lv (.long y :: .long x :: rest) N K := by
  intro l D cy A L Sh q qi hW
  exact E_ldiv hd hne hn (k l D cy A L Sh q qi hW)
theorem K_lrem {x y : Int64} (hd : decode mi.2.1 pc = .ok (.lrem, 1))(hne : ¬ y = 0)(hn : pc + 1 = n) (k : EK d mi Post n lv (.long (x - x / y * y) :: rest) N K) : EK d mi Post pc lv (.long y :: .long x :: rest) N K := by
  intro l D cy A L Sh q qi hW
  exact E_lrem hd hne hn (k l D cy A L Sh q qi hW)
theorem K_ineg {x : Int32} (hd : decode mi.2.1 pc = .ok (.ineg, 1))(hn : pc + 1 = n) (k : EK d mi Post n lv (.int (-x) :: rest) N K) : EK d mi Post pc lv (.int x :: rest) N K := by
  intro l D cy A L Sh q qi hW
  exact E_ineg hd hn (k l D cy A L Sh q qi hW)
theorem K_i2l {x : Int32} (hd : decode mi.2.1 pc = .ok (.i2l, 1))(hn : pc + 1 = n) (k : EK d mi Post n lv (.long x.toInt64 :: rest) N K) : EK d mi Post pc lv (.int x :: rest) N K := by
  intro l D cy A L Sh q qi hW
  exact E_i2l hd hn (k l D cy A L Sh q qi hW)
theorem K_i2b {x : Int32} (hd : decode mi.2.1 pc = .ok (.i2b, 1))(hn : pc + 1 = n) (k : EK d mi Post n lv (.int x.toInt8.toInt32 :: rest) N K) : EK d mi Post pc lv (.int x :: rest) N K := by
  intro l D cy A L Sh q qi hW
  exact E_i2b hd hn (k l D cy A L Sh q qi hW)
theorem K_lneg {x : Int64} (hd : decode mi.2.1 pc = .ok (.lneg, 1))(hn : pc + 1 = n) (k : EK d mi Post n lv (.long (-x) :: rest) N K) : EK d mi Post pc lv (.long x :: rest) N K := by
  intro l D cy A L Sh q qi hW
  exact E_lneg hd hn (k l D cy A L Sh q qi hW)
theorem K_l2i {x : Int64} (hd : decode mi.2.1 pc = .ok (.l2i, 1))(hn : pc + 1 = n) (k : EK d mi Post n lv (.int x.toInt32 :: rest) N K) : EK d mi Post pc lv (.long x :: rest) N K := by
  intro l D cy A L Sh q qi hW
  exact E_l2i hd hn (k l D cy A L Sh q qi hW)
theorem K_lcmp {x y : Int64} (hd : decode mi.2.1 pc = .ok (.lcmp, 1))(hn : pc + 1 = n) (k : EK d mi Post n lv (.int (lg_cmp x y) :: rest) N K) : EK d mi Post pc lv (.long y :: .long x :: rest) N K := by
  intro l D cy A L Sh q qi hW
  exact E_lcmp hd hn (k l D cy A L Sh q qi hW)
theorem K_dup {va : Value} (hd : decode mi.2.1 pc = .ok (.dup, 1))(hva : va.category = 1)(hn : pc + 1 = n) (k : EK d mi Post n lv (va :: va :: rest) N K) : EK d mi Post pc lv (va :: rest) N K := by
  intro l D cy A L Sh q qi hW
  exact E_dup hd ((tv_cat q va).trans hva) hn (k l D cy A L Sh q qi hW)
theorem K_dup2 {va vb : Value} (hd : decode mi.2.1 pc = .ok (.dup2, 1))(hva : va.category = 1) (hvb : vb.category = 1)(hn : pc + 1 = n) (k : EK d mi Post n lv (va :: vb :: va :: vb :: rest) N K) : EK d mi Post pc lv (va :: vb :: rest) N K := by
  intro l D cy A L Sh q qi hW
  exact E_dup2 hd ((tv_cat q va).trans hva) ((tv_cat q vb).trans hvb) hn (k l D cy A L Sh q qi hW)
theorem K_pop {va : Value} (hd : decode mi.2.1 pc = .ok (.pop, 1))(hva : va.category = 1)(hn : pc + 1 = n) (k : EK d mi Post n lv (rest) N K) : EK d mi Post pc lv (va :: rest) N K := by
  intro l D cy A L Sh q qi hW
  exact E_pop hd ((tv_cat q va).trans hva) hn (k l D cy A L Sh q qi hW)
theorem K_iconst {z : Int} {v : Int32} (hd : decode mi.2.1 pc = .ok (.iconst z, 1))(hv : Int32.ofInt z = v)(hn : pc + 1 = n) (k : EK d mi Post n lv (.int v :: rest) N K) : EK d mi Post pc lv (rest) N K := by
  intro l D cy A L Sh q qi hW
  exact E_iconst hd hv hn (k l D cy A L Sh q qi hW)
theorem K_bipush {z : Int} {v : Int32} (hd : decode mi.2.1 pc = .ok (.bipush z, 2))(hv : (Int8.ofInt z).toInt32 = v)(hn : pc + 2 = n) (k : EK d mi Post n lv (.int v :: rest) N K) : EK d mi Post pc lv (rest) N K := by
  intro l D cy A L Sh q qi hW
  exact E_bipush hd hv hn (k l D cy A L Sh q qi hW)
theorem K_sipush {z : Int} {v : Int32} (hd : decode mi.2.1 pc = .ok (.sipush z, 3))(hv : (Int16.ofInt z).toInt32 = v)(hn : pc + 3 = n) (k : EK d mi Post n lv (.int v :: rest) N K) : EK d mi Post pc lv (rest) N K := by
  intro l D cy A L Sh q qi hW
  exact E_sipush hd hv hn (k l D cy A L Sh q qi hW)
theorem K_lconst {z : Fin 2} {v : Int64} (hd : decode mi.2.1 pc = .ok (.lconst z, 1))(hv : Int64.ofNat (z : Nat) = v)(hn : pc + 1 = n) (k : EK d mi Post n lv (.long v :: rest) N K) : EK d mi Post pc lv (rest) N K := by
  intro l D cy A L Sh q qi hW
  exact E_lconst hd hv hn (k l D cy A L Sh q qi hW)
theorem K_ldcw {ix : Nat} {v : Int32} (hd : decode mi.2.1 pc = .ok (.ldc_w ix, 3))(hw : Cond.constant mi.1.cls ix v ∈ lwg)(hn : pc + 3 = n) (k : EK d mi Post n lv (.int v :: rest) N K) : EK d mi Post pc lv (rest) N K := by
  intro l D cy A L Sh q qi hW
  exact E_ldcw hd hw hn (k l D cy A L Sh q qi hW)
theorem K_ldc2 {ix : Nat} {v : Int64} (hd : decode mi.2.1 pc = .ok (.ldc2_w ix, 3))(hw : Cond.constantLong mi.1.cls ix v ∈ lwg)(hn : pc + 3 = n) (k : EK d mi Post n lv (.long v :: rest) N K) : EK d mi Post pc lv (rest) N K := by
  intro l D cy A L Sh q qi hW
  exact E_ldc2 hd hw hn (k l D cy A L Sh q qi hW)
theorem K_iload_n {z : Fin 4} {x : Int32} (hd : decode mi.2.1 pc = .ok (.iload_n z, 1))(hg : lvG (z : Nat) lv = some (.int x))(hn : pc + 1 = n) (k : EK d mi Post n lv (.int x :: rest) N K) : EK d mi Post pc lv (rest) N K := by
  intro l D cy A L Sh q qi hW
  exact E_iload_n hd (by rw [tl_G, hg]; rfl) hn (k l D cy A L Sh q qi hW)
theorem K_iload {z : Nat} {x : Int32} (hd : decode mi.2.1 pc = .ok (.iload z, 2))(hg : lvG z lv = some (.int x))(hn : pc + 2 = n) (k : EK d mi Post n lv (.int x :: rest) N K) : EK d mi Post pc lv (rest) N K := by
  intro l D cy A L Sh q qi hW
  exact E_iload hd (by rw [tl_G, hg]; rfl) hn (k l D cy A L Sh q qi hW)
theorem K_istore_n {z : Fin 4} {x : Int32} {lv' : LV} (hd : decode mi.2.1 pc = .ok (.istore_n z, 1)) (hb : (z : Nat) < mi.2.2.1) (hs : lvS1 (z : Nat) (.int x) lv = lv') (hn : pc + 1 = n) (k : EK d mi Post n lv' rest N K) : EK d mi Post pc lv (.int x :: rest) N K := by
  subst hs
  intro l D cy A L Sh q qi hW
  exact E_istore_n hd hb (tl_S1 q (z : Nat) (.int x) lv) hn (k l D cy A L Sh q qi hW)
theorem K_istore {z : Nat} {x : Int32} {lv' : LV} (hd : decode mi.2.1 pc = .ok (.istore z, 2)) (hb : z < mi.2.2.1) (hs : lvS1 z (.int x) lv = lv') (hn : pc + 2 = n) (k : EK d mi Post n lv' rest N K) : EK d mi Post pc lv (.int x :: rest) N K := by
  subst hs
  intro l D cy A L Sh q qi hW
  exact E_istore hd hb (tl_S1 q z (.int x) lv) hn (k l D cy A L Sh q qi hW)
theorem K_lload_n {z : Fin 4} {x : Int64} (hd : decode mi.2.1 pc = .ok (.lload_n z, 1))(hg : lvG (z : Nat) lv = some (.long x))(hn : pc + 1 = n) (k : EK d mi Post n lv (.long x :: rest) N K) : EK d mi Post pc lv (rest) N K := by
  intro l D cy A L Sh q qi hW
  exact E_lload_n hd (by rw [tl_G, hg]; rfl) hn (k l D cy A L Sh q qi hW)
theorem K_lload {z : Nat} {x : Int64} (hd : decode mi.2.1 pc = .ok (.lload z, 2))(hg : lvG z lv = some (.long x))(hn : pc + 2 = n) (k : EK d mi Post n lv (.long x :: rest) N K) : EK d mi Post pc lv (rest) N K := by
  intro l D cy A L Sh q qi hW
  exact E_lload hd (by rw [tl_G, hg]; rfl) hn (k l D cy A L Sh q qi hW)
theorem K_lstore_n {z : Fin 4} {x : Int64} {lv' : LV} (hd : decode mi.2.1 pc = .ok (.lstore_n z, 1)) (hb : (z : Nat) + 1 < mi.2.2.1) (hs : lvS2 (z : Nat) (.long x) lv = lv') (hn : pc + 1 = n) (k : EK d mi Post n lv' rest N K) : EK d mi Post pc lv (.long x :: rest) N K := by
  subst hs
  intro l D cy A L Sh q qi hW
  exact E_lstore_n hd hb (tl_S2 q (z : Nat) (.long x) lv) hn (k l D cy A L Sh q qi hW)
theorem K_lstore {z : Nat} {x : Int64} {lv' : LV} (hd : decode mi.2.1 pc = .ok (.lstore z, 2)) (hb : z + 1 < mi.2.2.1) (hs : lvS2 z (.long x) lv = lv') (hn : pc + 2 = n) (k : EK d mi Post n lv' rest N K) : EK d mi Post pc lv (.long x :: rest) N K := by
  subst hs
  intro l D cy A L Sh q qi hW
  exact E_lstore hd hb (tl_S2 q z (.long x) lv) hn (k l D cy A L Sh q qi hW)
theorem K_aload_n {z : Fin 4} {x : Nat} (hd : decode mi.2.1 pc = .ok (.aload_n z, 1))(hg : lvG (z : Nat) lv = some (.ref x))(hn : pc + 1 = n) (k : EK d mi Post n lv (.ref x :: rest) N K) : EK d mi Post pc lv (rest) N K := by
  intro l D cy A L Sh q qi hW
  exact E_aload_n hd (by rw [tl_G, hg]; rfl) hn (k l D cy A L Sh q qi hW)
theorem K_aload {z : Nat} {x : Nat} (hd : decode mi.2.1 pc = .ok (.aload z, 2))(hg : lvG z lv = some (.ref x))(hn : pc + 2 = n) (k : EK d mi Post n lv (.ref x :: rest) N K) : EK d mi Post pc lv (rest) N K := by
  intro l D cy A L Sh q qi hW
  exact E_aload hd (by rw [tl_G, hg]; rfl) hn (k l D cy A L Sh q qi hW)
theorem K_astore_n {z : Fin 4} {x : Nat} {lv' : LV} (hd : decode mi.2.1 pc = .ok (.astore_n z, 1)) (hb : (z : Nat) < mi.2.2.1) (hs : lvS1 (z : Nat) (.ref x) lv = lv') (hn : pc + 1 = n) (k : EK d mi Post n lv' rest N K) : EK d mi Post pc lv (.ref x :: rest) N K := by
  subst hs
  intro l D cy A L Sh q qi hW
  exact E_astore_n hd hb (tl_S1 q (z : Nat) (.ref x) lv) hn (k l D cy A L Sh q qi hW)
theorem K_astore {z : Nat} {x : Nat} {lv' : LV} (hd : decode mi.2.1 pc = .ok (.astore z, 2)) (hb : z < mi.2.2.1) (hs : lvS1 z (.ref x) lv = lv') (hn : pc + 2 = n) (k : EK d mi Post n lv' rest N K) : EK d mi Post pc lv (.ref x :: rest) N K := by
  subst hs
  intro l D cy A L Sh q qi hW
  exact E_astore hd hb (tl_S1 q z (.ref x) lv) hn (k l D cy A L Sh q qi hW)
theorem K_iinc {z : Nat} {i : Int} {x v : Int32} {lv' : LV} (hd : decode mi.2.1 pc = .ok (.iinc z i, 3)) (hg : lvG z lv = some (.int x)) (hv : x + Int32.ofInt i = v) (hb : z < mi.2.2.1) (hs : lvS1 z (.int v) lv = lv') (hn : pc + 3 = n) (k : EK d mi Post n lv' rest N K) : EK d mi Post pc lv rest N K := by
  subst hs
  intro l D cy A L Sh q qi hW
  exact E_iinc hd (by rw [tl_G, hg]; rfl) hv hb (tl_S1 q z (.int v) lv) hn (k l D cy A L Sh q qi hW)
theorem K_if_eq {x : Int32} {off : Int} {tgt : Nat} (hd : decode mi.2.1 pc = .ok (.ifCond .eq off, 3)) (ht : (pc : Int) + off = (tgt : Int)) (hn : pc + 3 = n) (kt : x = 0 → EK d mi Post tgt lv rest N K) (kf : ¬ x = 0 → EK d mi Post n lv rest N K) : EK d mi Post pc lv (.int x :: rest) N K := by
  intro l D cy A L Sh q qi hW
  exact E_if_eq hd ht hn (fun h => kt h l D cy A L Sh q qi hW) (fun h => kf h l D cy A L Sh q qi hW)
theorem K_if_ne {x : Int32} {off : Int} {tgt : Nat} (hd : decode mi.2.1 pc = .ok (.ifCond .ne off, 3)) (ht : (pc : Int) + off = (tgt : Int)) (hn : pc + 3 = n) (kt : ¬ x = 0 → EK d mi Post tgt lv rest N K) (kf : x = 0 → EK d mi Post n lv rest N K) : EK d mi Post pc lv (.int x :: rest) N K := by
  intro l D cy A L Sh q qi hW
  exact E_if_ne hd ht hn (fun h => kt h l D cy A L Sh q qi hW) (fun h => kf h l D cy A L Sh q qi hW)
theorem K_if_lt {x : Int32} {off : Int} {tgt : Nat} (hd : decode mi.2.1 pc = .ok (.ifCond .lt off, 3)) (ht : (pc : Int) + off = (tgt : Int)) (hn : pc + 3 = n) (kt : x < 0 → EK d mi Post tgt lv rest N K) (kf : ¬ x < 0 → EK d mi Post n lv rest N K) : EK d mi Post pc lv (.int x :: rest) N K := by
  intro l D cy A L Sh q qi hW
  exact E_if_lt hd ht hn (fun h => kt h l D cy A L Sh q qi hW) (fun h => kf h l D cy A L Sh q qi hW)
theorem K_if_ge {x : Int32} {off : Int} {tgt : Nat} (hd : decode mi.2.1 pc = .ok (.ifCond .ge off, 3)) (ht : (pc : Int) + off = (tgt : Int)) (hn : pc + 3 = n) (kt : 0 ≤ x → EK d mi Post tgt lv rest N K) (kf : ¬ 0 ≤ x → EK d mi Post n lv rest N K) : EK d mi Post pc lv (.int x :: rest) N K := by
  intro l D cy A L Sh q qi hW
  exact E_if_ge hd ht hn (fun h => kt h l D cy A L Sh q qi hW) (fun h => kf h l D cy A L Sh q qi hW)
theorem K_if_gt {x : Int32} {off : Int} {tgt : Nat} (hd : decode mi.2.1 pc = .ok (.ifCond .gt off, 3)) (ht : (pc : Int) + off = (tgt : Int)) (hn : pc + 3 = n) (kt : 0 < x → EK d mi Post tgt lv rest N K) (kf : ¬ 0 < x → EK d mi Post n lv rest N K) : EK d mi Post pc lv (.int x :: rest) N K := by
  intro l D cy A L Sh q qi hW
  exact E_if_gt hd ht hn (fun h => kt h l D cy A L Sh q qi hW) (fun h => kf h l D cy A L Sh q qi hW)
theorem K_if_le {x : Int32} {off : Int} {tgt : Nat} (hd : decode mi.2.1 pc = .ok (.ifCond .le off, 3)) (ht : (pc : Int) + off = (tgt : Int)) (hn : pc + 3 = n) (kt : x ≤ 0 → EK d mi Post tgt lv rest N K) (kf : ¬ x ≤ 0 → EK d mi Post n lv rest N K) : EK d mi Post pc lv (.int x :: rest) N K := by
  intro l D cy A L Sh q qi hW
  exact E_if_le hd ht hn (fun h => kt h l D cy A L Sh q qi hW) (fun h => kf h l D cy A L Sh q qi hW)
theorem K_icmp_eq {x y : Int32} {off : Int} {tgt : Nat} (hd : decode mi.2.1 pc = .ok (.if_icmp .eq off, 3)) (ht : (pc : Int) + off = (tgt : Int)) (hn : pc + 3 = n) (kt : x = y → EK d mi Post tgt lv rest N K) (kf : ¬ x = y → EK d mi Post n lv rest N K) : EK d mi Post pc lv (.int y :: .int x :: rest) N K := by
  intro l D cy A L Sh q qi hW
  exact E_icmp_eq hd ht hn (fun h => kt h l D cy A L Sh q qi hW) (fun h => kf h l D cy A L Sh q qi hW)
theorem K_icmp_ne {x y : Int32} {off : Int} {tgt : Nat} (hd : decode mi.2.1 pc = .ok (.if_icmp .ne off, 3)) (ht : (pc : Int) + off = (tgt : Int)) (hn : pc + 3 = n) (kt : ¬ x = y → EK d mi Post tgt lv rest N K) (kf : x = y → EK d mi Post n lv rest N K) : EK d mi Post pc lv (.int y :: .int x :: rest) N K := by
  intro l D cy A L Sh q qi hW
  exact E_icmp_ne hd ht hn (fun h => kt h l D cy A L Sh q qi hW) (fun h => kf h l D cy A L Sh q qi hW)
theorem K_icmp_lt {x y : Int32} {off : Int} {tgt : Nat} (hd : decode mi.2.1 pc = .ok (.if_icmp .lt off, 3)) (ht : (pc : Int) + off = (tgt : Int)) (hn : pc + 3 = n) (kt : x < y → EK d mi Post tgt lv rest N K) (kf : ¬ x < y → EK d mi Post n lv rest N K) : EK d mi Post pc lv (.int y :: .int x :: rest) N K := by
  intro l D cy A L Sh q qi hW
  exact E_icmp_lt hd ht hn (fun h => kt h l D cy A L Sh q qi hW) (fun h => kf h l D cy A L Sh q qi hW)
theorem K_icmp_ge {x y : Int32} {off : Int} {tgt : Nat} (hd : decode mi.2.1 pc = .ok (.if_icmp .ge off, 3)) (ht : (pc : Int) + off = (tgt : Int)) (hn : pc + 3 = n) (kt : y ≤ x → EK d mi Post tgt lv rest N K) (kf : ¬ y ≤ x → EK d mi Post n lv rest N K) : EK d mi Post pc lv (.int y :: .int x :: rest) N K := by
  intro l D cy A L Sh q qi hW
  exact E_icmp_ge hd ht hn (fun h => kt h l D cy A L Sh q qi hW) (fun h => kf h l D cy A L Sh q qi hW)
theorem K_icmp_gt {x y : Int32} {off : Int} {tgt : Nat} (hd : decode mi.2.1 pc = .ok (.if_icmp .gt off, 3)) (ht : (pc : Int) + off = (tgt : Int)) (hn : pc + 3 = n) (kt : y < x → EK d mi Post tgt lv rest N K) (kf : ¬ y < x → EK d mi Post n lv rest N K) : EK d mi Post pc lv (.int y :: .int x :: rest) N K := by
  intro l D cy A L Sh q qi hW
  exact E_icmp_gt hd ht hn (fun h => kt h l D cy A L Sh q qi hW) (fun h => kf h l D cy A L Sh q qi hW)
theorem K_icmp_le {x y : Int32} {off : Int} {tgt : Nat} (hd : decode mi.2.1 pc = .ok (.if_icmp .le off, 3)) (ht : (pc : Int) + off = (tgt : Int)) (hn : pc + 3 = n) (kt : x ≤ y → EK d mi Post tgt lv rest N K) (kf : ¬ x ≤ y → EK d mi Post n lv rest N K) : EK d mi Post pc lv (.int y :: .int x :: rest) N K := by
  intro l D cy A L Sh q qi hW
  exact E_icmp_le hd ht hn (fun h => kt h l D cy A L Sh q qi hW) (fun h => kf h l D cy A L Sh q qi hW)
theorem K_goto {off : Int} {tgt : Nat} (hd : decode mi.2.1 pc = .ok (.goto off, 3)) (ht : (pc : Int) + off = (tgt : Int)) (k : EK d mi Post tgt lv rest N K) : EK d mi Post pc lv rest N K := by
  intro l D cy A L Sh q qi hW
  exact E_goto hd ht (k l D cy A L Sh q qi hW)
theorem K_tswO {dflt lo hi : Int} {offs : Array Int} {len : Nat} {x : Int32} {tgt : Nat} (hd : decode mi.2.1 pc = .ok (.tableswitch dflt lo hi offs, len)) (h : x.toInt < lo ∨ hi < x.toInt) (ht : (pc : Int) + dflt = (tgt : Int)) (k : EK d mi Post tgt lv rest N K) : EK d mi Post pc lv (.int x :: rest) N K := by
  intro l D cy A L Sh q qi hW
  exact E_tswO hd h ht (k l D cy A L Sh q qi hW)
theorem K_tswI {dflt lo hi off : Int} {offs : Array Int} {len : Nat} {x : Int32} {tgt : Nat} (hd : decode mi.2.1 pc = .ok (.tableswitch dflt lo hi offs, len)) (h1 : ¬ x.toInt < lo) (h2 : ¬ hi < x.toInt) (ho : offs[(x.toInt - lo).toNat]? = some off) (ht : (pc : Int) + off = (tgt : Int)) (k : EK d mi Post tgt lv rest N K) : EK d mi Post pc lv (.int x :: rest) N K := by
  intro l D cy A L Sh q qi hW
  exact E_tswI hd h1 h2 ho ht (k l D cy A L Sh q qi hW)
theorem K_pick {lv' : LV} (ks : List Nat) (h : lv_pick lv ks = lv') (k : EK d mi Post pc lv' st N K) : EK d mi Post pc lv st N K := by
  subst h
  intro l D cy A L Sh q qi hW
  refine E_lv (fun x hx => ?_) (k l D cy A L Sh q qi hW)
  obtain ⟨y, hy, rfl⟩ := List.mem_map.mp hx
  obtain ⟨i, -, hi⟩ := List.mem_filterMap.mp hy
  exact List.mem_map.mpr ⟨y, List.mem_of_getElem? hi, rfl⟩
theorem K_iret {v : Int32} (hd : decode mi.2.1 pc = .ok (.ireturn, 1)) (hr : mi.2.2.2 = some .int) (hp : Post (some (.int v)) N K) : EK d mi Post pc lv [.int v] N K := by
  intro l D cy A L Sh q qi hW
  exact E_iret hd hr (Nat.le_refl 0) (Nat.le_refl 0) ⟨some (.int v), N, K, rfl, rfl, rfl, rfl, rfl, hp⟩
theorem K_zret {v : Int32} (hd : decode mi.2.1 pc = .ok (.ireturn, 1)) (hr : mi.2.2.2 = some .boolean) (hv : narrow .boolean (.int v) = .int v) (hp : Post (some (.int v)) N K) : EK d mi Post pc lv [.int v] N K := by
  intro l D cy A L Sh q qi hW
  exact E_zret hd hr hv (Nat.le_refl 0) (Nat.le_refl 0) ⟨some (.int v), N, K, rfl, rfl, rfl, rfl, rfl, hp⟩
theorem K_lret {v : Int64} (hd : decode mi.2.1 pc = .ok (.lreturn, 1)) (hr : mi.2.2.2 = some .long) (hp : Post (some (.long v)) N K) : EK d mi Post pc lv [.long v] N K := by
  intro l D cy A L Sh q qi hW
  exact E_lret hd hr (Nat.le_refl 0) (Nat.le_refl 0) ⟨some (.long v), N, K, rfl, rfl, rfl, rfl, rfl, hp⟩
theorem K_ret (hd : decode mi.2.1 pc = .ok (.return_, 1)) (hr : mi.2.2.2 = none) (hp : Post none N K) : EK d mi Post pc lv [] N K := by
  intro l D cy A L Sh q qi hW
  exact E_ret hd hr (Nat.le_refl 0) (Nat.le_refl 0) ⟨none, N, K, rfl, rfl, rfl, rfl, rfl, hp⟩
theorem km_at {L : List Nat} {Sh : Nat → Shp} {q qi : Nat → Nat} (hW : WOK L Sh q qi) {i : Nat} {s : Shp} (hs : sk i = some s) (N : Mem) (k : Nat) : km qi N (q i) k = N i k := by
  show N (qi (q i)) k = _
  rw [hW.1 i (hW.2.2 i s hs).1]
theorem kj_at {L : List Nat} {Sh : Nat → Shp} {q qi : Nat → Nat} (hW : WOK L Sh q qi) {i : Nat} {s : Shp} (hs : sk i = some s) (N : Mej) (k : Nat) : kj qi N (q i) k = N i k := by
  show N (qi (q i)) k = _
  rw [hW.1 i (hW.2.2 i s hs).1]
theorem K_getI {i ci k idx : Nat} {rf : Nat → Option Nat} {v : Int32} (hd : decode mi.2.1 pc = .ok (.getfield idx, 3)) (hw : fr_link mi.1.cls idx ci k) (hs : sk i = some (.inl (ci, rf))) (hi : fr_isR ci k = false) (hv : N i k = v) (hn : pc + 3 = n) (kk : EK d mi Post n lv (.int v :: rest) N K) : EK d mi Post pc lv (.ref i :: rest) N K := by
  intro l D cy A L Sh q qi hW
  exact E_getI hd hw (hW.2.2 i _ hs).2 hi ((km_at hW hs N k).trans hv) hn (kk l D cy A L Sh q qi hW)
theorem K_getR {i ci k idx r : Nat} {rf : Nat → Option Nat} (hd : decode mi.2.1 pc = .ok (.getfield idx, 3)) (hw : fr_link mi.1.cls idx ci k) (hs : sk i = some (.inl (ci, rf))) (hi : fr_isR ci k = true) (hv : rf k = some r) (hn : pc + 3 = n) (kk : EK d mi Post n lv (.ref r :: rest) N K) : EK d mi Post pc lv (.ref i :: rest) N K := by
  intro l D cy A L Sh q qi hW
  exact E_getR hd hw (hW.2.2 i _ hs).2 hi (by show (rf k).map q = some (q r); rw [hv]; rfl) hn (kk l D cy A L Sh q qi hW)
theorem K_putI {i ci k idx : Nat} {rf : Nat → Option Nat} {v : Int32} (hd : decode mi.2.1 pc = .ok (.putfield idx, 3)) (hw : fr_link mi.1.cls idx ci k) (hs : sk i = some (.inl (ci, rf))) (hi : fr_isR ci k = false) (hf : (fr_TT ci k).2.2.2 = false) (hty : fr_ty ci k = .int) (hn : pc + 3 = n) (kk : EK d mi Post n lv rest (sM N i k v) K) : EK d mi Post pc lv (.int v :: .ref i :: rest) N K := by
  intro l D cy A L Sh q qi hW
  refine E_putI hd hw (hW.2.2 i _ hs).2 hi hf hty hn ?_
  rw [km_set hW (hW.2.2 i _ hs).1]
  exact kk l D cy A L Sh q qi hW
theorem K_putZ {i ci k idx : Nat} {rf : Nat → Option Nat} {v : Int32} (hd : decode mi.2.1 pc = .ok (.putfield idx, 3)) (hw : fr_link mi.1.cls idx ci k) (hs : sk i = some (.inl (ci, rf))) (hi : fr_isR ci k = false) (hf : (fr_TT ci k).2.2.2 = false) (hty : fr_ty ci k = .boolean) (hv : v = 0 ∨ v = 1) (hn : pc + 3 = n) (kk : EK d mi Post n lv rest (sM N i k v) K) : EK d mi Post pc lv (.int v :: .ref i :: rest) N K := by
  intro l D cy A L Sh q qi hW
  refine E_putZ hd hw (hW.2.2 i _ hs).2 hi hf hty hv hn ?_
  rw [km_set hW (hW.2.2 i _ hs).1]
  exact kk l D cy A L Sh q qi hW
theorem K_iald {i m j : Nat} {v : Int32} (hd : decode mi.2.1 pc = .ok (.iaload, 1)) (hs : sk i = some (.inr (.inl (0, m)))) (hj : j < m) (hm : m < 2 ^ 31) (hv : N i j = v) (hn : pc + 1 = n) (kk : EK d mi Post n lv (.int v :: rest) N K) : EK d mi Post pc lv (.int (nI j) :: .ref i :: rest) N K := by
  intro l D cy A L Sh q qi hW
  exact E_iald hd (hW.2.2 i _ hs).2 hj hm ((km_at hW hs N j).trans hv) hn (kk l D cy A L Sh q qi hW)
theorem K_zald {i m j : Nat} {v : Int32} (hd : decode mi.2.1 pc = .ok (.baload, 1)) (hs : sk i = some (.inr (.inl (1, m)))) (hj : j < m) (hm : m < 2 ^ 31) (hv : N i j = v) (hn : pc + 1 = n) (kk : EK d mi Post n lv (.int v :: rest) N K) : EK d mi Post pc lv (.int (nI j) :: .ref i :: rest) N K := by
  intro l D cy A L Sh q qi hW
  exact E_zald hd (hW.2.2 i _ hs).2 hj hm ((km_at hW hs N j).trans hv) hn (kk l D cy A L Sh q qi hW)
theorem K_lald {i m j : Nat} {v : Int64} (hd : decode mi.2.1 pc = .ok (.laload, 1)) (hs : sk i = some (.inr (.inl (2, m)))) (hj : j < m) (hm : m < 2 ^ 31) (hv : K i j = v) (hn : pc + 1 = n) (kk : EK d mi Post n lv (.long v :: rest) N K) : EK d mi Post pc lv (.int (nI j) :: .ref i :: rest) N K := by
  intro l D cy A L Sh q qi hW
  exact E_lald hd (hW.2.2 i _ hs).2 hj hm ((kj_at hW hs K j).trans hv) hn (kk l D cy A L Sh q qi hW)
theorem K_aald {i m j r : Nat} {rf : Nat → Option Nat} (hd : decode mi.2.1 pc = .ok (.aaload, 1)) (hs : sk i = some (.inr (.inr (m, rf)))) (hj : j < m) (hm : m < 2 ^ 31) (hv : rf j = some r) (hn : pc + 1 = n) (kk : EK d mi Post n lv (.ref r :: rest) N K) : EK d mi Post pc lv (.int (nI j) :: .ref i :: rest) N K := by
  intro l D cy A L Sh q qi hW
  exact E_aald hd (hW.2.2 i _ hs).2 hj hm (by show (rf j).map q = some (q r); rw [hv]; rfl) hn (kk l D cy A L Sh q qi hW)
theorem K_iast {i m j : Nat} {v : Int32} (hd : decode mi.2.1 pc = .ok (.iastore, 1)) (hs : sk i = some (.inr (.inl (0, m)))) (hj : j < m) (hm : m < 2 ^ 31) (hn : pc + 1 = n) (kk : EK d mi Post n lv rest (sM N i j v) K) : EK d mi Post pc lv (.int v :: .int (nI j) :: .ref i :: rest) N K := by
  intro l D cy A L Sh q qi hW
  refine E_iast hd (hW.2.2 i _ hs).2 hj hm hn ?_
  rw [km_set hW (hW.2.2 i _ hs).1]
  exact kk l D cy A L Sh q qi hW
theorem K_zast {i m j : Nat} {v : Int32} (hd : decode mi.2.1 pc = .ok (.bastore, 1)) (hs : sk i = some (.inr (.inl (1, m)))) (hj : j < m) (hm : m < 2 ^ 31) (hv : v = 0 ∨ v = 1) (hn : pc + 1 = n) (kk : EK d mi Post n lv rest (sM N i j v) K) : EK d mi Post pc lv (.int v :: .int (nI j) :: .ref i :: rest) N K := by
  intro l D cy A L Sh q qi hW
  refine E_zast hd (hW.2.2 i _ hs).2 hj hm hv hn ?_
  rw [km_set hW (hW.2.2 i _ hs).1]
  exact kk l D cy A L Sh q qi hW
theorem K_last {i m j : Nat} {v : Int64} (hd : decode mi.2.1 pc = .ok (.lastore, 1)) (hs : sk i = some (.inr (.inl (2, m)))) (hj : j < m) (hm : m < 2 ^ 31) (hn : pc + 1 = n) (kk : EK d mi Post n lv rest N (sJ K i j v)) : EK d mi Post pc lv (.long v :: .int (nI j) :: .ref i :: rest) N K := by
  intro l D cy A L Sh q qi hW
  refine E_last hd (hW.2.2 i _ hs).2 hj hm hn ?_
  rw [kj_set hW (hW.2.2 i _ hs).1]
  exact kk l D cy A L Sh q qi hW
theorem K_alen {i m : Nat} (hd : decode mi.2.1 pc = .ok (.arraylength, 1)) (hs : sk i = some (.inr (.inl (2, m)))) (hn : pc + 1 = n) (kk : EK d mi Post n lv (.int (nI m) :: rest) N K) : EK d mi Post pc lv (.ref i :: rest) N K := by
  intro l D cy A L Sh q qi hW
  exact E_alen hd (hW.2.2 i _ hs).2 hn (kk l D cy A L Sh q qi hW)
theorem rev_tv (q : Nat → Nat) (As st : List Value) : (As.map (tv q)).reverse ++ st.map (tv q) = (As.reverse ++ st).map (tv q) := by simp
/-- a call: any contract -/
theorem K_callV {mj : MI} {b ci idx na d1 : Nat} {rf : Nat → Option Nat} (As : List Value) {Post1 : PK} (hd : decode mi.2.1 pc = .ok (.invokevirtual idx, 3)) (hw : fr_mlink mi.1.cls idx mj (fr_RR ci) na) (hci : ci < 5) (hb : sk b = some (.inl (ci, rf))) (hst : As.reverse ++ .ref b :: rest = st) (hlen : As.length = na) (hroom : (rest.map fun v => v.category).sum ≤ 8)
    (hM : CK d1 mj (.ref b :: As) N K Post1) (hd1 : d1 + 1 ≤ d) (hn : pc + 3 = n) (kk : ∀ r N1 K1, Post1 r N1 K1 → EK d mi Post n lv (r.toList ++ rest) N1 K1) : EK d mi Post pc lv st N K := by
  subst hst
  intro l D cy A L Sh q qi hW
  refine E_callV (As.map (tv q)) (rest := rest.map (tv q)) (b := q b) hd hw hci (hW.2.2 b _ hb).2 ?_ (by rw [List.length_map]; exact hlen) (by rw [tv_sum]; exact hroom) (hM l D cy L Sh q qi hW) hd1 (Nat.le_refl 0) (Nat.le_refl 0) hn ?_
  · exact rev_tv q As (.ref b :: rest)
  · rintro r L1 Sh1 M1 J1 ⟨r', N1, K1, h1, h2, h3, h4, h5, h6⟩
    subst h1; subst h2; subst h3; subst h4; subst h5
    have := kk r' N1 K1 h6 l D cy A L1 Sh1 q qi hW
    cases r' with
    | none => exact this
    | some v => exact this
theorem K_callS {mj : MI} {idx na d1 : Nat} (As : List Value) {Post1 : PK} (hd : decode mi.2.1 pc = .ok (.invokestatic idx, 3)) (hw : fr_slink mi.1.cls idx mj na) (hst : As.reverse ++ rest = st) (hlen : As.length = na) (hroom : (rest.map fun v => v.category).sum ≤ 8)
    (hM : CK d1 mj As N K Post1) (hd1 : d1 + 1 ≤ d) (hn : pc + 3 = n) (kk : ∀ r N1 K1, Post1 r N1 K1 → EK d mi Post n lv (r.toList ++ rest) N1 K1) : EK d mi Post pc lv st N K := by
  subst hst
  intro l D cy A L Sh q qi hW
  refine E_callS (As.map (tv q)) (rest := rest.map (tv q)) hd hw ?_ (by rw [List.length_map]; exact hlen) (by rw [tv_sum]; exact hroom) (hM l D cy L Sh q qi hW) hd1 (Nat.le_refl 0) (Nat.le_refl 0) hn ?_
  · exact rev_tv q As rest
  · rintro r L1 Sh1 M1 J1 ⟨r', N1, K1, h1, h2, h3, h4, h5, h6⟩
    subst h1; subst h2; subst h3; subst h4; subst h5
    have := kk r' N1 K1 h6 l D cy A L1 Sh1 q qi hW
    cases r' with
    | none => exact this
    | some v => exact this
/-- calls with an exact contract: an answer, or none -/
theorem K_cv {mj : MI} {b ci idx na d1 : Nat} {rf : Nat → Option Nat} (As : List Value) {v : Value} {N1 : Mem} {K1 : Mej} (hd : decode mi.2.1 pc = .ok (.invokevirtual idx, 3)) (hw : fr_mlink mi.1.cls idx mj (fr_RR ci) na) (hci : ci < 5) (hb : sk b = some (.inl (ci, rf))) (hst : As.reverse ++ .ref b :: rest = st) (hlen : As.length = na) (hroom : (rest.map fun v => v.category).sum ≤ 8) (hM : CK d1 mj (.ref b :: As) N K (PX (some v) N1 K1)) (hd1 : d1 + 1 ≤ d) (hn : pc + 3 = n) (kk : EK d mi Post n lv (v :: rest) N1 K1) : EK d mi Post pc lv st N K := by
  refine K_callV As hd hw hci hb hst hlen hroom hM hd1 hn ?_
  rintro r N2 K2 ⟨h1, h2, h3⟩
  subst h1; subst h2; subst h3
  exact kk
theorem K_c0 {mj : MI} {b ci idx na d1 : Nat} {rf : Nat → Option Nat} (As : List Value) {N1 : Mem} {K1 : Mej} (hd : decode mi.2.1 pc = .ok (.invokevirtual idx, 3)) (hw : fr_mlink mi.1.cls idx mj (fr_RR ci) na) (hci : ci < 5) (hb : sk b = some (.inl (ci, rf))) (hst : As.reverse ++ .ref b :: rest = st) (hlen : As.length = na) (hroom : (rest.map fun v => v.category).sum ≤ 8) (hM : CK d1 mj (.ref b :: As) N K (PX none N1 K1)) (hd1 : d1 + 1 ≤ d) (hn : pc + 3 = n) (kk : EK d mi Post n lv rest N1 K1) : EK d mi Post pc lv st N K := by
  refine K_callV As hd hw hci hb hst hlen hroom hM hd1 hn ?_
  rintro r N2 K2 ⟨h1, h2, h3⟩
  subst h1; subst h2; subst h3
  exact kk
theorem K_sv {mj : MI} {idx na d1 : Nat} (As : List Value) {v : Value} {N1 : Mem} {K1 : Mej} (hd : decode mi.2.1 pc = .ok (.invokestatic idx, 3)) (hw : fr_slink mi.1.cls idx mj na) (hst : As.reverse ++ rest = st) (hlen : As.length = na) (hroom : (rest.map fun v => v.category).sum ≤ 8) (hM : CK d1 mj As N K (PX (some v) N1 K1)) (hd1 : d1 + 1 ≤ d) (hn : pc + 3 = n) (kk : EK d mi Post n lv (v :: rest) N1 K1) : EK d mi Post pc lv st N K := by
  refine K_callS As hd hw hst hlen hroom hM hd1 hn ?_
  rintro r N2 K2 ⟨h1, h2, h3⟩
  subst h1; subst h2; subst h3
  exact kk
end KROWS
end
section
def bI (b : Bool) : Int32 := cond b 1 0
def oI (p : Option Nat) : Int32 := match p with
  | none => -1
  | some g => nI g
theorem bI_t : bI true = 1 := rfl
theorem bI_f : bI false = 0 := rfl
theorem bI_01 (b : Bool) : bI b = 0 ∨ bI b = 1 := by cases b <;> simp [bI]
theorem bI_nar (b : Bool) : narrow .boolean (.int (bI b)) = .int (bI b) := by cases b <;> rfl
theorem bI_inj {a b : Bool} (h : bI a = bI b) : a = b := by
  cases a <;> cases b <;> first | rfl | (exact absurd h (by decide))
theorem nx_and (a b : Nat) : nI a &&& nI b = nI (a &&& b) := by
  apply Int32.toBitVec_inj.mp
  show (Int32.ofNat a).toBitVec &&& (Int32.ofNat b).toBitVec = (Int32.ofNat (a &&& b)).toBitVec
  simp only [Int32.toBitVec_ofNat']
  apply BitVec.eq_of_getLsbD_eq
  intro i hi
  simp [BitVec.getLsbD_ofNat, hi]
theorem nx_or (a b : Nat) : nI a ||| nI b = nI (a ||| b) := by
  apply Int32.toBitVec_inj.mp
  show (Int32.ofNat a).toBitVec ||| (Int32.ofNat b).toBitVec = (Int32.ofNat (a ||| b)).toBitVec
  simp only [Int32.toBitVec_ofNat']
  apply BitVec.eq_of_getLsbD_eq
  intro i hi
  simp [BitVec.getLsbD_ofNat, hi]
theorem nx_xor (a b : Nat) : nI a ^^^ nI b = nI (a ^^^ b) := by
  apply Int32.toBitVec_inj.mp
  show (Int32.ofNat a).toBitVec ^^^ (Int32.ofNat b).toBitVec = (Int32.ofNat (a ^^^ b)).toBitVec
  simp only [Int32.toBitVec_ofNat']
  apply BitVec.eq_of_getLsbD_eq
  intro i hi
  simp [BitVec.getLsbD_ofNat, hi]
theorem nx_c : ∀ k, k < 32 → ((nI k &&& 31).toBitVec.smod 32).toNat = k := by decide +kernel
theorem nx_shr {a k : Nat} (ha : a < 2 ^ 31) (hk : k < 32) : nI a >>> (nI k &&& 31) = nI (a >>> k) := by
  rw [pk_shrN ha _ k (nx_c k hk), Nat.shiftRight_eq_div_pow]
theorem nx_shl {a k : Nat} (hk : k < 32) (h : a * 2 ^ k < 2 ^ 32) : nI a <<< (nI k &&& 31) = nI (a * 2 ^ k) := pk_shlN _ k (nx_c k hk) h
theorem nx_bit (a k : Nat) : nI (a >>> k) &&& nI 1 = bI (a.testBit k) := by
  rw [nx_and]
  rw [Nat.testBit]
  have h : (a >>> k) &&& 1 = (a >>> k) % 2 := Nat.and_one_is_mod _
  rw [h]
  have h2 : 1 &&& (a >>> k) = (a >>> k) % 2 := by rw [Nat.and_comm]; exact Nat.and_one_is_mod _
  rw [h2]
  rcases Nat.mod_two_eq_zero_or_one (a >>> k) with e | e <;> rw [e] <;> rfl
theorem nI_neg1 {a : Nat} (h : a < 2 ^ 31) : ¬ nI a = -1 := by
  intro e
  have := congrArg Int32.toInt e
  rw [nI_toInt h] at this
  have h2 : (-1 : Int32).toInt = -1 := by decide
  omega
def oB (p : Option Nat) : Prop := ∀ g, p = some g → g < 2 ^ 31
theorem oI_none {p : Option Nat} (h : oB p) : oI p = -1 ↔ p = none := by
  cases p with
  | none => exact ⟨fun _ => rfl, fun _ => rfl⟩
  | some g => exact ⟨fun e => absurd e (nI_neg1 (h g rfl)), fun e => by cases e⟩
theorem oI_some {p : Option Nat} {g : Nat} (h : oB p) (hg : g < 2 ^ 31) : oI p = nI g ↔ p = some g := by
  cases p with
  | none => exact ⟨fun e => absurd e.symm (nI_neg1 hg), fun e => by cases e⟩
  | some f => exact ⟨fun e => by rw [(nI_eq (h f rfl) hg).mp e], fun e => by cases e; rfl⟩
theorem oI_eq {p p2 : Option Nat} (h : oB p) (h2 : oB p2) : oI p = oI p2 ↔ p = p2 := by
  cases p2 with
  | none => exact oI_none h
  | some g => exact oI_some h (h2 g rfl)
theorem oI_neg {p : Option Nat} (h : oB p) : oI p < 0 ↔ p = none := by
  cases p with
  | none => exact ⟨fun _ => rfl, fun _ => by decide⟩
  | some g => exact ⟨fun e => absurd e (nI_pos (h g rfl)), fun e => by cases e⟩
section NROWS
variable {d : Nat} {mi : MI} {Post : PK} {pc n : Nat} {lv : LV} {st rest : List Value} {N : Mem} {K : Mej}

theorem K_addN {a b : Nat} (hd : decode mi.2.1 pc = .ok (.iadd, 1))  (hn : pc + 1 = n) (k : EK d mi Post n lv (.int (nI (a + b)) :: rest) N K) : EK d mi Post pc lv (.int (nI b) :: .int (nI a) :: rest) N K := K_iadd hd hn (by rw [nI_add a b]; exact k)
theorem K_mulN {a b : Nat} (hd : decode mi.2.1 pc = .ok (.imul, 1))  (hn : pc + 1 = n) (k : EK d mi Post n lv (.int (nI (a * b)) :: rest) N K) : EK d mi Post pc lv (.int (nI b) :: .int (nI a) :: rest) N K := K_imul hd hn (by rw [pk_mul a b]; exact k)
theorem K_subN {a b : Nat} (hd : decode mi.2.1 pc = .ok (.isub, 1)) (h : b ≤ a) (hn : pc + 1 = n) (k : EK d mi Post n lv (.int (nI (a - b)) :: rest) N K) : EK d mi Post pc lv (.int (nI b) :: .int (nI a) :: rest) N K := K_isub hd hn (by rw [pk_sub h]; exact k)
theorem K_andN {a b : Nat} (hd : decode mi.2.1 pc = .ok (.iand, 1))  (hn : pc + 1 = n) (k : EK d mi Post n lv (.int (nI (a &&& b)) :: rest) N K) : EK d mi Post pc lv (.int (nI b) :: .int (nI a) :: rest) N K := K_iand hd hn (by rw [nx_and a b]; exact k)
theorem K_orN {a b : Nat} (hd : decode mi.2.1 pc = .ok (.ior, 1))  (hn : pc + 1 = n) (k : EK d mi Post n lv (.int (nI (a ||| b)) :: rest) N K) : EK d mi Post pc lv (.int (nI b) :: .int (nI a) :: rest) N K := K_ior hd hn (by rw [nx_or a b]; exact k)
theorem K_xorN {a b : Nat} (hd : decode mi.2.1 pc = .ok (.ixor, 1))  (hn : pc + 1 = n) (k : EK d mi Post n lv (.int (nI (a ^^^ b)) :: rest) N K) : EK d mi Post pc lv (.int (nI b) :: .int (nI a) :: rest) N K := K_ixor hd hn (by rw [nx_xor a b]; exact k)
theorem K_shrN {a b : Nat} (hd : decode mi.2.1 pc = .ok (.ishr, 1)) (ha : a < 2 ^ 31) (hb : b < 32) (hn : pc + 1 = n) (k : EK d mi Post n lv (.int (nI (a >>> b)) :: rest) N K) : EK d mi Post pc lv (.int (nI b) :: .int (nI a) :: rest) N K := K_ishr hd hn (by rw [nx_shr ha hb]; exact k)
theorem K_shlN {a b : Nat} (hd : decode mi.2.1 pc = .ok (.ishl, 1)) (hb : b < 32) (h : a * 2 ^ b < 2 ^ 32) (hn : pc + 1 = n) (k : EK d mi Post n lv (.int (nI (a * 2 ^ b)) :: rest) N K) : EK d mi Post pc lv (.int (nI b) :: .int (nI a) :: rest) N K := K_ishl hd hn (by rw [nx_shl hb h]; exact k)
theorem K_bitN {a b : Nat} (hd : decode mi.2.1 pc = .ok (.iand, 1))  (hn : pc + 1 = n) (k : EK d mi Post n lv (.int (bI (a.testBit b)) :: rest) N K) : EK d mi Post pc lv (.int (nI 1) :: .int (nI (a >>> b)) :: rest) N K := K_iand hd hn (by rw [nx_bit a b]; exact k)
theorem K_shl1 {b : Nat} (hd : decode mi.2.1 pc = .ok (.ishl, 1)) (hb : b < 31) (hn : pc + 1 = n) (k : EK d mi Post n lv (.int (nI (2 ^ b)) :: rest) N K) : EK d mi Post pc lv (.int (nI b) :: .int (nI 1) :: rest) N K := K_ishl hd hn (by rw [nx_shl (by omega) (by rw [Nat.one_mul]; exact Nat.pow_lt_pow_right (by omega) (by omega)), Nat.one_mul]; exact k)
theorem K_incN {z a : Nat} {lv' : LV} (hd : decode mi.2.1 pc = .ok (.iinc z 1, 3)) (hg : lvG z lv = some (.int (nI a))) (hb : z < mi.2.2.1) (hs : lvS1 z (.int (nI (a + 1))) lv = lv') (hn : pc + 3 = n) (k : EK d mi Post n lv' rest N K) : EK d mi Post pc lv rest N K := K_iinc hd hg (nI_1 a) hb hs hn k
theorem K_decN {z a : Nat} {lv' : LV} (hd : decode mi.2.1 pc = .ok (.iinc z (-1), 3)) (hg : lvG z lv = some (.int (nI (a + 1)))) (hb : z < mi.2.2.1) (hs : lvS1 z (.int (nI a)) lv = lv') (hn : pc + 3 = n) (k : EK d mi Post n lv' rest N K) : EK d mi Post pc lv rest N K := K_iinc hd hg (pk_m1 a) hb hs hn k
theorem K_icmp_eqN {a b : Nat} {off : Int} {tgt : Nat} (hd : decode mi.2.1 pc = .ok (.if_icmp .eq off, 3)) (ht : (pc : Int) + off = (tgt : Int)) (hn : pc + 3 = n) (ha : a < 2 ^ 31) (hb : b < 2 ^ 31) (kt : a = b → EK d mi Post tgt lv rest N K) (kf : a ≠ b → EK d mi Post n lv rest N K) : EK d mi Post pc lv (.int (nI b) :: .int (nI a) :: rest) N K := K_icmp_eq hd ht hn (fun h => kt ((nI_eq ha hb).mp h)) (fun h => kf (fun e => h ((nI_eq ha hb).mpr e)))
theorem K_icmp_neN {a b : Nat} {off : Int} {tgt : Nat} (hd : decode mi.2.1 pc = .ok (.if_icmp .ne off, 3)) (ht : (pc : Int) + off = (tgt : Int)) (hn : pc + 3 = n) (ha : a < 2 ^ 31) (hb : b < 2 ^ 31) (kt : a ≠ b → EK d mi Post tgt lv rest N K) (kf : a = b → EK d mi Post n lv rest N K) : EK d mi Post pc lv (.int (nI b) :: .int (nI a) :: rest) N K := K_icmp_ne hd ht hn (fun h => kt (fun e => h ((nI_eq ha hb).mpr e))) (fun h => kf ((nI_eq ha hb).mp h))
theorem K_icmp_ltN {a b : Nat} {off : Int} {tgt : Nat} (hd : decode mi.2.1 pc = .ok (.if_icmp .lt off, 3)) (ht : (pc : Int) + off = (tgt : Int)) (hn : pc + 3 = n) (ha : a < 2 ^ 31) (hb : b < 2 ^ 31) (kt : a < b → EK d mi Post tgt lv rest N K) (kf : b ≤ a → EK d mi Post n lv rest N K) : EK d mi Post pc lv (.int (nI b) :: .int (nI a) :: rest) N K := K_icmp_lt hd ht hn (fun h => kt ((nI_ltI ha hb).mp h)) (fun h => kf (Nat.not_lt.mp (fun e => h ((nI_ltI ha hb).mpr e))))
theorem K_icmp_geN {a b : Nat} {off : Int} {tgt : Nat} (hd : decode mi.2.1 pc = .ok (.if_icmp .ge off, 3)) (ht : (pc : Int) + off = (tgt : Int)) (hn : pc + 3 = n) (ha : a < 2 ^ 31) (hb : b < 2 ^ 31) (kt : b ≤ a → EK d mi Post tgt lv rest N K) (kf : a < b → EK d mi Post n lv rest N K) : EK d mi Post pc lv (.int (nI b) :: .int (nI a) :: rest) N K := K_icmp_ge hd ht hn (fun h => kt ((nI_leI hb ha).mp h)) (fun h => kf (Nat.not_le.mp (fun e => h ((nI_leI hb ha).mpr e))))
theorem K_icmp_gtN {a b : Nat} {off : Int} {tgt : Nat} (hd : decode mi.2.1 pc = .ok (.if_icmp .gt off, 3)) (ht : (pc : Int) + off = (tgt : Int)) (hn : pc + 3 = n) (ha : a < 2 ^ 31) (hb : b < 2 ^ 31) (kt : b < a → EK d mi Post tgt lv rest N K) (kf : a ≤ b → EK d mi Post n lv rest N K) : EK d mi Post pc lv (.int (nI b) :: .int (nI a) :: rest) N K := K_icmp_gt hd ht hn (fun h => kt ((nI_ltI hb ha).mp h)) (fun h => kf (Nat.not_lt.mp (fun e => h ((nI_ltI hb ha).mpr e))))
theorem K_icmp_leN {a b : Nat} {off : Int} {tgt : Nat} (hd : decode mi.2.1 pc = .ok (.if_icmp .le off, 3)) (ht : (pc : Int) + off = (tgt : Int)) (hn : pc + 3 = n) (ha : a < 2 ^ 31) (hb : b < 2 ^ 31) (kt : a ≤ b → EK d mi Post tgt lv rest N K) (kf : b < a → EK d mi Post n lv rest N K) : EK d mi Post pc lv (.int (nI b) :: .int (nI a) :: rest) N K := K_icmp_le hd ht hn (fun h => kt ((nI_leI ha hb).mp h)) (fun h => kf (Nat.not_le.mp (fun e => h ((nI_leI ha hb).mpr e))))
theorem K_if_eqN {a : Nat} {off : Int} {tgt : Nat} (hd : decode mi.2.1 pc = .ok (.ifCond .eq off, 3)) (ht : (pc : Int) + off = (tgt : Int)) (hn : pc + 3 = n) (ha : a < 2 ^ 31) (kt : a = 0 → EK d mi Post tgt lv rest N K) (kf : a ≠ 0 → EK d mi Post n lv rest N K) : EK d mi Post pc lv (.int (nI a) :: rest) N K := K_if_eq hd ht hn (fun h => kt ((nI_eq ha (show (0 : Nat) < 2 ^ 31 by decide)).mp h)) (fun h => kf (fun e => h ((nI_eq ha (show (0 : Nat) < 2 ^ 31 by decide)).mpr e)))
theorem K_if_neN {a : Nat} {off : Int} {tgt : Nat} (hd : decode mi.2.1 pc = .ok (.ifCond .ne off, 3)) (ht : (pc : Int) + off = (tgt : Int)) (hn : pc + 3 = n) (ha : a < 2 ^ 31) (kt : a ≠ 0 → EK d mi Post tgt lv rest N K) (kf : a = 0 → EK d mi Post n lv rest N K) : EK d mi Post pc lv (.int (nI a) :: rest) N K := K_if_ne hd ht hn (fun h => kt (fun e => h ((nI_eq ha (show (0 : Nat) < 2 ^ 31 by decide)).mpr e))) (fun h => kf ((nI_eq ha (show (0 : Nat) < 2 ^ 31 by decide)).mp h))
theorem K_if_ltN {a : Nat} {off : Int} {tgt : Nat} (hd : decode mi.2.1 pc = .ok (.ifCond .lt off, 3)) (ht : (pc : Int) + off = (tgt : Int)) (hn : pc + 3 = n) (ha : a < 2 ^ 31) (kt : False → EK d mi Post tgt lv rest N K) (kf : True → EK d mi Post n lv rest N K) : EK d mi Post pc lv (.int (nI a) :: rest) N K := K_if_lt hd ht hn (fun h => kt (nI_pos ha h)) (fun h => kf (trivial))
theorem K_if_geN {a : Nat} {off : Int} {tgt : Nat} (hd : decode mi.2.1 pc = .ok (.ifCond .ge off, 3)) (ht : (pc : Int) + off = (tgt : Int)) (hn : pc + 3 = n) (ha : a < 2 ^ 31) (kt : True → EK d mi Post tgt lv rest N K) (kf : False → EK d mi Post n lv rest N K) : EK d mi Post pc lv (.int (nI a) :: rest) N K := K_if_ge hd ht hn (fun h => kt (trivial)) (fun h => kf (h (nI_pos' ha)))
theorem K_if_gtN {a : Nat} {off : Int} {tgt : Nat} (hd : decode mi.2.1 pc = .ok (.ifCond .gt off, 3)) (ht : (pc : Int) + off = (tgt : Int)) (hn : pc + 3 = n) (ha : a < 2 ^ 31) (kt : 0 < a → EK d mi Post tgt lv rest N K) (kf : a = 0 → EK d mi Post n lv rest N K) : EK d mi Post pc lv (.int (nI a) :: rest) N K := K_if_gt hd ht hn (fun h => kt ((nI_ltI (show (0 : Nat) < 2 ^ 31 by decide) ha).mp h)) (fun h => kf (Nat.eq_zero_of_not_pos (fun e => h ((nI_ltI (show (0 : Nat) < 2 ^ 31 by decide) ha).mpr e))))
theorem K_if_leN {a : Nat} {off : Int} {tgt : Nat} (hd : decode mi.2.1 pc = .ok (.ifCond .le off, 3)) (ht : (pc : Int) + off = (tgt : Int)) (hn : pc + 3 = n) (ha : a < 2 ^ 31) (kt : a = 0 → EK d mi Post tgt lv rest N K) (kf : 0 < a → EK d mi Post n lv rest N K) : EK d mi Post pc lv (.int (nI a) :: rest) N K := K_if_le hd ht hn (fun h => kt (Nat.le_zero.mp ((nI_leI ha (show (0 : Nat) < 2 ^ 31 by decide)).mp h))) (fun h => kf (Nat.pos_of_ne_zero (fun e => h ((nI_leI ha (show (0 : Nat) < 2 ^ 31 by decide)).mpr (Nat.le_of_eq e)))))
theorem K_if_eqB {b : Bool} {off : Int} {tgt : Nat} (hd : decode mi.2.1 pc = .ok (.ifCond .eq off, 3)) (ht : (pc : Int) + off = (tgt : Int)) (hn : pc + 3 = n)  (kt : b = false → EK d mi Post tgt lv rest N K) (kf : b = true → EK d mi Post n lv rest N K) : EK d mi Post pc lv (.int (bI b) :: rest) N K := K_if_eq hd ht hn (fun h => kt (bI_inj (b := false) h)) (fun h => kf (by cases b with | true => rfl | false => exact absurd rfl h))
theorem K_if_neB {b : Bool} {off : Int} {tgt : Nat} (hd : decode mi.2.1 pc = .ok (.ifCond .ne off, 3)) (ht : (pc : Int) + off = (tgt : Int)) (hn : pc + 3 = n)  (kt : b = true → EK d mi Post tgt lv rest N K) (kf : b = false → EK d mi Post n lv rest N K) : EK d mi Post pc lv (.int (bI b) :: rest) N K := K_if_ne hd ht hn (fun h => kt (by cases b with | true => rfl | false => exact absurd rfl h)) (fun h => kf (bI_inj (b := false) h))
theorem K_icmp_neB1 {b : Bool} {off : Int} {tgt : Nat} (hd : decode mi.2.1 pc = .ok (.if_icmp .ne off, 3)) (ht : (pc : Int) + off = (tgt : Int)) (hn : pc + 3 = n)  (kt : b = false → EK d mi Post tgt lv rest N K) (kf : b = true → EK d mi Post n lv rest N K) : EK d mi Post pc lv (.int (nI 1) :: .int (bI b) :: rest) N K := K_icmp_ne hd ht hn (fun h => kt (by cases b with | false => rfl | true => exact absurd rfl h)) (fun h => kf (bI_inj (b := true) h))
theorem K_icmp_eqB1 {b : Bool} {off : Int} {tgt : Nat} (hd : decode mi.2.1 pc = .ok (.if_icmp .eq off, 3)) (ht : (pc : Int) + off = (tgt : Int)) (hn : pc + 3 = n)  (kt : b = true → EK d mi Post tgt lv rest N K) (kf : b = false → EK d mi Post n lv rest N K) : EK d mi Post pc lv (.int (nI 1) :: .int (bI b) :: rest) N K := K_icmp_eq hd ht hn (fun h => kt (bI_inj (b := true) h)) (fun h => kf (by cases b with | false => rfl | true => exact absurd rfl h))
theorem K_icmp_eqO {p : Option Nat} {off : Int} {tgt : Nat} (hd : decode mi.2.1 pc = .ok (.if_icmp .eq off, 3)) (ht : (pc : Int) + off = (tgt : Int)) (hn : pc + 3 = n) (ho : oB p) (kt : p = none → EK d mi Post tgt lv rest N K) (kf : p ≠ none → EK d mi Post n lv rest N K) : EK d mi Post pc lv (.int (-1) :: .int (oI p) :: rest) N K := K_icmp_eq hd ht hn (fun h => kt ((oI_none ho).mp h)) (fun h => kf (fun e => h ((oI_none ho).mpr e)))
theorem K_icmp_neO {p : Option Nat} {off : Int} {tgt : Nat} (hd : decode mi.2.1 pc = .ok (.if_icmp .ne off, 3)) (ht : (pc : Int) + off = (tgt : Int)) (hn : pc + 3 = n) (ho : oB p) (kt : p ≠ none → EK d mi Post tgt lv rest N K) (kf : p = none → EK d mi Post n lv rest N K) : EK d mi Post pc lv (.int (-1) :: .int (oI p) :: rest) N K := K_icmp_ne hd ht hn (fun h => kt (fun e => h ((oI_none ho).mpr e))) (fun h => kf ((oI_none ho).mp h))
theorem K_icmp_eqOO {p p2 : Option Nat} {off : Int} {tgt : Nat} (hd : decode mi.2.1 pc = .ok (.if_icmp .eq off, 3)) (ht : (pc : Int) + off = (tgt : Int)) (hn : pc + 3 = n) (ho : oB p) (ho2 : oB p2) (kt : p = p2 → EK d mi Post tgt lv rest N K) (kf : p ≠ p2 → EK d mi Post n lv rest N K) : EK d mi Post pc lv (.int (oI p2) :: .int (oI p) :: rest) N K := K_icmp_eq hd ht hn (fun h => kt ((oI_eq ho ho2).mp h)) (fun h => kf (fun e => h ((oI_eq ho ho2).mpr e)))
theorem K_icmp_neOO {p p2 : Option Nat} {off : Int} {tgt : Nat} (hd : decode mi.2.1 pc = .ok (.if_icmp .ne off, 3)) (ht : (pc : Int) + off = (tgt : Int)) (hn : pc + 3 = n) (ho : oB p) (ho2 : oB p2) (kt : p ≠ p2 → EK d mi Post tgt lv rest N K) (kf : p = p2 → EK d mi Post n lv rest N K) : EK d mi Post pc lv (.int (oI p2) :: .int (oI p) :: rest) N K := K_icmp_ne hd ht hn (fun h => kt (fun e => h ((oI_eq ho ho2).mpr e))) (fun h => kf ((oI_eq ho ho2).mp h))
theorem K_icmp_eqON {p : Option Nat} {g : Nat} {off : Int} {tgt : Nat} (hd : decode mi.2.1 pc = .ok (.if_icmp .eq off, 3)) (ht : (pc : Int) + off = (tgt : Int)) (hn : pc + 3 = n) (ho : oB p) (hg : g < 2 ^ 31) (kt : p = some g → EK d mi Post tgt lv rest N K) (kf : p ≠ some g → EK d mi Post n lv rest N K) : EK d mi Post pc lv (.int (nI g) :: .int (oI p) :: rest) N K := K_icmp_eq hd ht hn (fun h => kt ((oI_some ho hg).mp h)) (fun h => kf (fun e => h ((oI_some ho hg).mpr e)))
theorem K_icmp_neON {p : Option Nat} {g : Nat} {off : Int} {tgt : Nat} (hd : decode mi.2.1 pc = .ok (.if_icmp .ne off, 3)) (ht : (pc : Int) + off = (tgt : Int)) (hn : pc + 3 = n) (ho : oB p) (hg : g < 2 ^ 31) (kt : p ≠ some g → EK d mi Post tgt lv rest N K) (kf : p = some g → EK d mi Post n lv rest N K) : EK d mi Post pc lv (.int (nI g) :: .int (oI p) :: rest) N K := K_icmp_ne hd ht hn (fun h => kt (fun e => h ((oI_some ho hg).mpr e))) (fun h => kf ((oI_some ho hg).mp h))
theorem K_if_ltO {p : Option Nat} {off : Int} {tgt : Nat} (hd : decode mi.2.1 pc = .ok (.ifCond .lt off, 3)) (ht : (pc : Int) + off = (tgt : Int)) (hn : pc + 3 = n) (ho : oB p) (kt : p = none → EK d mi Post tgt lv rest N K) (kf : p ≠ none → EK d mi Post n lv rest N K) : EK d mi Post pc lv (.int (oI p) :: rest) N K := K_if_lt hd ht hn (fun h => kt ((oI_neg ho).mp h)) (fun h => kf (fun e => h ((oI_neg ho).mpr e)))
theorem K_if_geO {p : Option Nat} {off : Int} {tgt : Nat} (hd : decode mi.2.1 pc = .ok (.ifCond .ge off, 3)) (ht : (pc : Int) + off = (tgt : Int)) (hn : pc + 3 = n) (ho : oB p) (kt : p ≠ none → EK d mi Post tgt lv rest N K) (kf : p = none → EK d mi Post n lv rest N K) : EK d mi Post pc lv (.int (oI p) :: rest) N K := K_if_ge hd ht hn (fun h => kt (fun e => absurd h (by rw [e]; decide))) (fun h => kf (by cases p with | none => rfl | some g => exact absurd (nI_pos' (ho g rfl)) h))
end NROWS
end
section
set_option maxRecDepth 100000 in
theorem c_J9_max_7cf53 {d : Nat} {N : Mem} {K : Mej} {a b : Nat} (ha : a < 2 ^ 31) (hb : b < 2 ^ 31) : CK d mJ9_max_7cf53 [.int (nI a), .int (nI b)] N K (PX (some (.int (nI (max a b)))) N K) := by
  refine CK.start [(0, _), (1, _)] (by decide +kernel) (Nat.le_of_ble_eq_true rfl) rfl ?_
  refine K_iload_n dJ9_max_7cf53_0 rfl rfl ?_
  refine K_iload_n dJ9_max_7cf53_1 rfl rfl ?_
  first | refine K_icmp_ltN (tgt := 9) dJ9_max_7cf53_2 (by decide) rfl (by first | omega | fail) (by first | omega | fail) (fun c2 => ?_) (fun c2 => ?_) | refine K_icmp_lt (tgt := 9) dJ9_max_7cf53_2 (by decide) rfl (fun c2 => ?_) (fun c2 => ?_)
  · refine K_iload_n dJ9_max_7cf53_9 rfl rfl ?_
    refine K_iret dJ9_max_7cf53_10 rfl ?_
    refine ⟨?_, rfl, rfl⟩
    congr 3
    omega
  · refine K_iload_n dJ9_max_7cf53_5 rfl rfl ?_
    refine K_goto (tgt := 10) dJ9_max_7cf53_6 (by decide) ?_
    refine K_iret dJ9_max_7cf53_10 rfl ?_
    refine ⟨?_, rfl, rfl⟩
    congr 3
    omega
set_option maxRecDepth 100000 in
theorem c_J9_min_7cf53 {d : Nat} {N : Mem} {K : Mej} {a b : Nat} (ha : a < 2 ^ 31) (hb : b < 2 ^ 31) : CK d mJ9_min_7cf53 [.int (nI a), .int (nI b)] N K (PX (some (.int (nI (min a b)))) N K) := by
  refine CK.start [(0, _), (1, _)] (by decide +kernel) (Nat.le_of_ble_eq_true rfl) rfl ?_
  refine K_iload_n dJ9_min_7cf53_0 rfl rfl ?_
  refine K_iload_n dJ9_min_7cf53_1 rfl rfl ?_
  first | refine K_icmp_gtN (tgt := 9) dJ9_min_7cf53_2 (by decide) rfl (by first | omega | fail) (by first | omega | fail) (fun c2 => ?_) (fun c2 => ?_) | refine K_icmp_gt (tgt := 9) dJ9_min_7cf53_2 (by decide) rfl (fun c2 => ?_) (fun c2 => ?_)
  · refine K_iload_n dJ9_min_7cf53_9 rfl rfl ?_
    refine K_iret dJ9_min_7cf53_10 rfl ?_
    refine ⟨?_, rfl, rfl⟩
    congr 3
    omega
  · refine K_iload_n dJ9_min_7cf53_5 rfl rfl ?_
    refine K_goto (tgt := 10) dJ9_min_7cf53_6 (by decide) ?_
    refine K_iret dJ9_min_7cf53_10 rfl ?_
    refine ⟨?_, rfl, rfl⟩
    congr 3
    omega
def mxL (x y : Int64) : Int64 := if x < y then y else x
set_option maxRecDepth 100000 in
theorem c_J9_max_f86c9 {d : Nat} {N : Mem} {K : Mej} {x y : Int64} : CK d mJ9_max_f86c9 [.long x, .long y] N K (PX (some (.long (mxL x y))) N K) := by
  refine CK.start [(0, _), (2, _)] (by decide +kernel) (Nat.le_of_ble_eq_true rfl) rfl ?_
  refine K_lload_n dJ9_max_f86c9_0 rfl rfl ?_
  refine K_lload_n dJ9_max_f86c9_1 rfl rfl ?_
  refine K_lcmp dJ9_max_f86c9_2 rfl ?_
  first | refine K_if_ltN (tgt := 10) dJ9_max_f86c9_3 (by decide) rfl (by first | omega | fail) (fun c3 => ?_) (fun c3 => ?_) | refine K_if_ltO (tgt := 10) dJ9_max_f86c9_3 (by decide) rfl (by first | assumption | fail) (fun c3 => ?_) (fun c3 => ?_) | refine K_if_lt (tgt := 10) dJ9_max_f86c9_3 (by decide) rfl (fun c3 => ?_) (fun c3 => ?_)
  · refine K_lload_n dJ9_max_f86c9_10 rfl rfl ?_
    refine K_lret dJ9_max_f86c9_11 rfl ?_
    refine ⟨?_, rfl, rfl⟩
    rw [lg_cmp_lt] at c3
    simp [mxL, c3]
  · refine K_lload_n dJ9_max_f86c9_6 rfl rfl ?_
    refine K_goto (tgt := 11) dJ9_max_f86c9_7 (by decide) ?_
    refine K_lret dJ9_max_f86c9_11 rfl ?_
    refine ⟨?_, rfl, rfl⟩
    rw [lg_cmp_lt] at c3
    simp [mxL, c3]
end
section
section
variable {d : Nat} {mi : MI} {Post : PK} {pc n : Nat} {lv : LV} {st rest : List Value} {N : Mem} {K : Mej}
theorem K_rk {f idx : Nat} (hd : decode mi.2.1 pc = .ok (.getfield idx, 3)) (hw : fr_link mi.1.cls idx 0 0) (hf : f < 10) (hn : pc + 3 = n) (kk : EK d mi Post n lv (.ref (30 + f) :: rest) N K) : EK d mi Post pc lv (.ref (20 + f) :: rest) N K :=
  K_getR hd hw (sk_hh hf) rfl (by show some (20 + f + 10) = some (30 + f); congr 1; omega) hn kk
theorem K_hh {f : Nat} (hd : decode mi.2.1 pc = .ok (.aaload, 1)) (hf : f < 10) (hn : pc + 1 = n) (kk : EK d mi Post n lv (.ref (20 + f) :: rest) N K) : EK d mi Post pc lv (.int (nI f) :: .ref 1 :: rest) N K :=
  K_aald (i := 1) hd rfl hf (by decide) (by show (if f < 10 then some (20 + f) else none) = some (20 + f); rw [if_pos hf]) hn kk
end
/-- a household's beds to let, its worth -/
def vSl (kd bd : Nat) : Nat := if kd = 1 ∨ kd = 3 then bd - 1 else bd
def vWo (kd bd : Nat) : Nat := 10 * vSl kd bd + (if kd = 2 then 5 else if kd = 3 then 15 else 0)
def vPe (kd : Nat) : Bool := decide (kd = 2 ∨ kd = 3)
/-- the cells (a, j), j < i, hold v -/
def fillM (N : Mem) (a i : Nat) (v : Int32) : Mem := fun b j => if b = a ∧ j < i then v else N b j
theorem fillM_0 (N : Mem) (a : Nat) (v : Int32) : fillM N a 0 v = N := by
  funext b j
  simp [fillM]
theorem fillM_s (N : Mem) (a i : Nat) (v : Int32) : sM (fillM N a i v) a i v = fillM N a (i + 1) v := by
  funext b j
  rw [sM_at]
  unfold fillM
  by_cases hb : b = a
  · subst hb
    by_cases hj : j = i
    · subst hj; simp
    · by_cases h2 : j < i
      · rw [if_neg (by omega), if_pos ⟨rfl, h2⟩, if_pos ⟨rfl, by omega⟩]
      · rw [if_neg (by omega), if_neg (by omega), if_neg (by omega)]
  · simp [hb]
set_option maxRecDepth 100000 in
theorem c_X0_sleeps {d : Nat} {N : Mem} {K : Mej} {f kd bd : Nat} (hf : f < 10) (h1 : N (20 + f) 2 = nI kd) (h2 : N (20 + f) 3 = nI bd) (hk : kd < 4) (hb : 1 ≤ bd) : CK d mX0_sleeps [.ref (20 + f)] N K (PX (some (.int (nI (vSl kd bd)))) N K) := by
  refine CK.start [(0, _)] (plainFor_of_name (by decide)) (Nat.le_of_ble_eq_true rfl) rfl ?_
  refine K_aload_n dX0_sleeps_0 rfl rfl ?_
  refine K_getI dX0_sleeps_1 fl_X0_19 (by first | rfl | exact sk_rk (by omega) | exact sk_hh (by omega)) rfl (by first | assumption | rfl) rfl ?_
  refine K_iconst (v := nI 1) dX0_sleeps_4 (by decide) rfl ?_
  refine K_icmp_eqN (tgt := 16) dX0_sleeps_5 (by decide) rfl (by first | omega | fail) (by first | omega | fail) (fun c5 => ?_) (fun c5 => ?_)
  · refine K_aload_n dX0_sleeps_16 rfl rfl ?_
    refine K_getI dX0_sleeps_17 fl_X0_22 (by first | rfl | exact sk_rk (by omega) | exact sk_hh (by omega)) rfl (by first | assumption | rfl) rfl ?_
    refine K_iconst (v := nI 1) dX0_sleeps_20 (by decide) rfl ?_
    first | refine K_subN dX0_sleeps_21 (by first | omega | fail) rfl ?_ | refine K_isub dX0_sleeps_21 rfl ?_
    refine K_goto (tgt := 29) dX0_sleeps_22 (by decide) ?_
    refine K_iret dX0_sleeps_29 rfl ?_
    refine ⟨?_, rfl, rfl⟩
    simp only [vSl]
    congr 4
    split <;> omega
  · refine K_aload_n dX0_sleeps_8 rfl rfl ?_
    refine K_getI dX0_sleeps_9 fl_X0_19 (by first | rfl | exact sk_rk (by omega) | exact sk_hh (by omega)) rfl (by first | assumption | rfl) rfl ?_
    refine K_iconst (v := nI 3) dX0_sleeps_12 (by decide) rfl ?_
    refine K_icmp_neN (tgt := 25) dX0_sleeps_13 (by decide) rfl (by first | omega | fail) (by first | omega | fail) (fun c13 => ?_) (fun c13 => ?_)
    · refine K_aload_n dX0_sleeps_25 rfl rfl ?_
      refine K_getI dX0_sleeps_26 fl_X0_22 (by first | rfl | exact sk_rk (by omega) | exact sk_hh (by omega)) rfl (by first | assumption | rfl) rfl ?_
      refine K_iret dX0_sleeps_29 rfl ?_
      refine ⟨?_, rfl, rfl⟩
      simp only [vSl]
      congr 4
      split <;> omega
    · refine K_aload_n dX0_sleeps_16 rfl rfl ?_
      refine K_getI dX0_sleeps_17 fl_X0_22 (by first | rfl | exact sk_rk (by omega) | exact sk_hh (by omega)) rfl (by first | assumption | rfl) rfl ?_
      refine K_iconst (v := nI 1) dX0_sleeps_20 (by decide) rfl ?_
      first | refine K_subN dX0_sleeps_21 (by first | omega | fail) rfl ?_ | refine K_isub dX0_sleeps_21 rfl ?_
      refine K_goto (tgt := 29) dX0_sleeps_22 (by decide) ?_
      refine K_iret dX0_sleeps_29 rfl ?_
      refine ⟨?_, rfl, rfl⟩
      simp only [vSl]
      congr 4
      split <;> omega
set_option maxRecDepth 100000 in
theorem c_X0_worth {d : Nat} (hd : 1 ≤ d) {N : Mem} {K : Mej} {f kd bd : Nat} (hf : f < 10) (h1 : N (20 + f) 2 = nI kd) (h2 : N (20 + f) 3 = nI bd) (hk : kd < 4) (hb : 1 ≤ bd) : CK d mX0_worth [.ref (20 + f)] N K (PX (some (.int (nI (vWo kd bd)))) N K) := by
  refine CK.start [(0, _)] (plainFor_of_name (by decide)) (Nat.le_of_ble_eq_true rfl) rfl ?_
  refine K_aload_n dX0_worth_0 rfl rfl ?_
  refine K_getI dX0_worth_1 fl_X0_19 (by first | rfl | exact sk_rk (by omega) | exact sk_hh (by omega)) rfl (by first | assumption | rfl) rfl ?_
  refine K_iconst (v := nI 2) dX0_worth_4 (by decide) rfl ?_
  refine K_icmp_neN (tgt := 12) dX0_worth_5 (by decide) rfl (by first | omega | fail) (by first | omega | fail) (fun c5 => ?_) (fun c5 => ?_)
  · refine K_aload_n dX0_worth_12 rfl rfl ?_
    refine K_getI dX0_worth_13 fl_X0_19 (by first | rfl | exact sk_rk (by omega) | exact sk_hh (by omega)) rfl (by first | assumption | rfl) rfl ?_
    refine K_iconst (v := nI 3) dX0_worth_16 (by decide) rfl ?_
    refine K_icmp_neN (tgt := 25) dX0_worth_17 (by decide) rfl (by first | omega | fail) (by first | omega | fail) (fun c17 => ?_) (fun c17 => ?_)
    · refine K_iconst (v := nI 0) dX0_worth_25 (by decide) rfl ?_
      refine K_istore_n (lv' := [(0, _), (1, _)]) dX0_worth_26 (by decide) rfl rfl ?_
      refine K_bipush (v := nI 10) dX0_worth_27 (by decide) rfl ?_
      refine K_aload_n dX0_worth_29 rfl rfl ?_
      refine K_cv (ci := 0) (d1 := d - 1) [] dX0_worth_30 ml_X0_53 (by decide) (sk_hh (by omega)) rfl rfl (Nat.le_of_ble_eq_true rfl) (c_X0_sleeps hf h1 h2 hk hb) (by omega) rfl ?_
      refine K_mulN dX0_worth_33 rfl ?_
      refine K_iload_n dX0_worth_34 rfl rfl ?_
      refine K_addN dX0_worth_35 rfl ?_
      refine K_iret dX0_worth_36 rfl ?_
      refine ⟨?_, rfl, rfl⟩
      simp only [vWo]
      congr 4
      simp_all
    · refine K_bipush (v := nI 15) dX0_worth_20 (by decide) rfl ?_
      refine K_goto (tgt := 26) dX0_worth_22 (by decide) ?_
      refine K_istore_n (lv' := [(0, _), (1, _)]) dX0_worth_26 (by decide) rfl rfl ?_
      refine K_bipush (v := nI 10) dX0_worth_27 (by decide) rfl ?_
      refine K_aload_n dX0_worth_29 rfl rfl ?_
      refine K_cv (ci := 0) (d1 := d - 1) [] dX0_worth_30 ml_X0_53 (by decide) (sk_hh (by omega)) rfl rfl (Nat.le_of_ble_eq_true rfl) (c_X0_sleeps hf h1 h2 hk hb) (by omega) rfl ?_
      refine K_mulN dX0_worth_33 rfl ?_
      refine K_iload_n dX0_worth_34 rfl rfl ?_
      refine K_addN dX0_worth_35 rfl ?_
      refine K_iret dX0_worth_36 rfl ?_
      refine ⟨?_, rfl, rfl⟩
      simp only [vWo]
      congr 4
      simp_all
  · refine K_iconst (v := nI 5) dX0_worth_8 (by decide) rfl ?_
    refine K_goto (tgt := 26) dX0_worth_9 (by decide) ?_
    refine K_istore_n (lv' := [(0, _), (1, _)]) dX0_worth_26 (by decide) rfl rfl ?_
    refine K_bipush (v := nI 10) dX0_worth_27 (by decide) rfl ?_
    refine K_aload_n dX0_worth_29 rfl rfl ?_
    refine K_cv (ci := 0) (d1 := d - 1) [] dX0_worth_30 ml_X0_53 (by decide) (sk_hh (by omega)) rfl rfl (Nat.le_of_ble_eq_true rfl) (c_X0_sleeps hf h1 h2 hk hb) (by omega) rfl ?_
    refine K_mulN dX0_worth_33 rfl ?_
    refine K_iload_n dX0_worth_34 rfl rfl ?_
    refine K_addN dX0_worth_35 rfl ?_
    refine K_iret dX0_worth_36 rfl ?_
    refine ⟨?_, rfl, rfl⟩
    simp only [vWo]
    congr 4
    simp_all
set_option maxRecDepth 100000 in
theorem c_X0_welcomesPets {d : Nat} {N : Mem} {K : Mej} {f kd : Nat} (hf : f < 10) (h1 : N (20 + f) 2 = nI kd) (hk : kd < 4) : CK d mX0_welcomesPets [.ref (20 + f)] N K (PX (some (.int (bI (vPe kd)))) N K) := by
  refine CK.start [(0, _)] (plainFor_of_name (by decide)) (Nat.le_of_ble_eq_true rfl) rfl ?_
  refine K_aload_n dX0_welcomesPets_0 rfl rfl ?_
  refine K_getI dX0_welcomesPets_1 fl_X0_19 (by first | rfl | exact sk_rk (by omega) | exact sk_hh (by omega)) rfl (by first | assumption | rfl) rfl ?_
  refine K_iconst (v := nI 2) dX0_welcomesPets_4 (by decide) rfl ?_
  refine K_icmp_eqN (tgt := 16) dX0_welcomesPets_5 (by decide) rfl (by first | omega | fail) (by first | omega | fail) (fun c5 => ?_) (fun c5 => ?_)
  · refine K_iconst (v := nI 1) dX0_welcomesPets_16 (by decide) rfl ?_
    refine K_goto (tgt := 21) dX0_welcomesPets_17 (by decide) ?_
    refine K_zret dX0_welcomesPets_21 rfl (by first | rfl | exact bI_nar _) ?_
    refine ⟨?_, rfl, rfl⟩
    simp_all [vPe]
    rfl
  · refine K_aload_n dX0_welcomesPets_8 rfl rfl ?_
    refine K_getI dX0_welcomesPets_9 fl_X0_19 (by first | rfl | exact sk_rk (by omega) | exact sk_hh (by omega)) rfl (by first | assumption | rfl) rfl ?_
    refine K_iconst (v := nI 3) dX0_welcomesPets_12 (by decide) rfl ?_
    refine K_icmp_neN (tgt := 20) dX0_welcomesPets_13 (by decide) rfl (by first | omega | fail) (by first | omega | fail) (fun c13 => ?_) (fun c13 => ?_)
    · refine K_iconst (v := nI 0) dX0_welcomesPets_20 (by decide) rfl ?_
      refine K_zret dX0_welcomesPets_21 rfl (by first | rfl | exact bI_nar _) ?_
      refine ⟨?_, rfl, rfl⟩
      simp_all [vPe]
      rfl
    · refine K_iconst (v := nI 1) dX0_welcomesPets_16 (by decide) rfl ?_
      refine K_goto (tgt := 21) dX0_welcomesPets_17 (by decide) ?_
      refine K_zret dX0_welcomesPets_21 rfl (by first | rfl | exact bI_nar _) ?_
      refine ⟨?_, rfl, rfl⟩
      simp_all [vPe]
      rfl
set_option maxRecDepth 100000 in
theorem c_X0_weeksAt {d : Nat} (hd : 1 ≤ d) {N : Mem} {K : Mej} {f g tf tt ff ft : Nat} (hf : f < 10) (hg : g < 10) (h1 : N (20 + f) 9 = nI tf) (h2 : N (20 + f) 10 = nI tt) (h3 : N (20 + g) 7 = nI ff) (h4 : N (20 + g) 8 = nI ft) (b1 : tf ≤ 51) (b2 : tt ≤ 51) (b3 : ff ≤ 51) (b4 : ft ≤ 51) : CK d mX0_weeksAt [.ref (20 + f), .ref (20 + g)] N K (PX (some (.int (nI (min tt ft) - nI (max tf ff) + nI 1))) N K) := by
  refine CK.start [(0, _), (1, _)] (plainFor_of_name (by decide)) (Nat.le_of_ble_eq_true rfl) rfl ?_
  refine K_aload_n dX0_weeksAt_0 rfl rfl ?_
  refine K_getI dX0_weeksAt_1 fl_X0_44 (sk_hh hf) rfl h2 rfl ?_
  refine K_aload_n dX0_weeksAt_4 rfl rfl ?_
  refine K_getI dX0_weeksAt_5 fl_X0_38 (sk_hh hg) rfl h4 rfl ?_
  refine K_sv (d1 := d - 1) [_, _] dX0_weeksAt_8 ml_X0_57 rfl rfl (Nat.le_of_ble_eq_true rfl) (c_J9_min_7cf53 (by omega) (by omega)) (by omega) rfl ?_
  refine K_aload_n dX0_weeksAt_11 rfl rfl ?_
  refine K_getI dX0_weeksAt_12 fl_X0_41 (sk_hh hf) rfl h1 rfl ?_
  refine K_aload_n dX0_weeksAt_15 rfl rfl ?_
  refine K_getI dX0_weeksAt_16 fl_X0_35 (sk_hh hg) rfl h3 rfl ?_
  refine K_sv (d1 := d - 1) [_, _] dX0_weeksAt_19 ml_X0_63 rfl rfl (Nat.le_of_ble_eq_true rfl) (c_J9_max_7cf53 (by omega) (by omega)) (by omega) rfl ?_
  refine K_isub dX0_weeksAt_22 rfl ?_
  refine K_iconst (v := nI 1) dX0_weeksAt_23 (by decide) rfl ?_
  refine K_iadd dX0_weeksAt_24 rfl ?_
  refine K_iret dX0_weeksAt_25 rfl ?_
  exact ⟨rfl, rfl, rfl⟩
set_option maxRecDepth 100000 in
theorem c_X0_moveIn {d : Nat} {N : Mem} {K : Mej} {f : Nat} {x y z : Int32} {b : Bool} (hf : f < 10) : CK d mX0_moveIn [.ref (20 + f), .int x, .int y, .int z, .int (bI b)] N K (PX none (sM (sM (sM (sM N (20 + f) 2 x) (20 + f) 3 y) (20 + f) 4 z) (20 + f) 5 (bI b)) K) := by
  refine CK.start [(0, _), (1, _), (2, _), (3, _), (4, _)] (plainFor_of_name (by decide)) (Nat.le_of_ble_eq_true rfl) rfl ?_
  refine K_aload_n dX0_moveIn_0 rfl rfl ?_
  refine K_iload_n dX0_moveIn_1 rfl rfl ?_
  refine K_putI dX0_moveIn_2 fl_X0_19 (by first | rfl | exact sk_rk (by omega) | exact sk_hh (by omega)) rfl rfl rfl rfl ?_
  refine K_aload_n dX0_moveIn_5 rfl rfl ?_
  refine K_iload_n dX0_moveIn_6 rfl rfl ?_
  refine K_putI dX0_moveIn_7 fl_X0_22 (by first | rfl | exact sk_rk (by omega) | exact sk_hh (by omega)) rfl rfl rfl rfl ?_
  refine K_aload_n dX0_moveIn_10 rfl rfl ?_
  refine K_iload_n dX0_moveIn_11 rfl rfl ?_
  refine K_putI dX0_moveIn_12 fl_X0_25 (by first | rfl | exact sk_rk (by omega) | exact sk_hh (by omega)) rfl rfl rfl rfl ?_
  refine K_aload_n dX0_moveIn_15 rfl rfl ?_
  refine K_iload dX0_moveIn_16 rfl rfl ?_
  refine K_putZ dX0_moveIn_18 fl_X0_28 (by first | rfl | exact sk_rk (by omega) | exact sk_hh (by omega)) rfl rfl rfl (by first | exact bI_01 _ | exact Or.inl rfl | exact Or.inr rfl | assumption) rfl ?_
  refine K_ret dX0_moveIn_21 rfl ?_
  exact ⟨rfl, rfl, rfl⟩
set_option maxRecDepth 100000 in
theorem c_X0_addWish {d : Nat} {N : Mem} {K : Mej} {f g c : Nat} (hf : f < 10) (hg : g < 10) (h1 : N (20 + f) 1 = nI c) : CK d mX0_addWish [.ref (20 + f), .int (nI g)] N K (PX none (sM (sM N (20 + f) 1 (nI (c + 1))) (30 + f) g (nI (c + 1))) K) := by
  refine CK.start [(0, _), (1, _)] (plainFor_of_name (by decide)) (Nat.le_of_ble_eq_true rfl) rfl ?_
  refine K_aload_n dX0_addWish_0 rfl rfl ?_
  refine K_dup dX0_addWish_1 rfl rfl ?_
  refine K_getI dX0_addWish_2 fl_X0_15 (by first | rfl | exact sk_rk (by omega) | exact sk_hh (by omega)) rfl (by first | assumption | exact sM_eq _ _ _ _ | rfl) rfl ?_
  refine K_iconst (v := nI 1) dX0_addWish_5 (by decide) rfl ?_
  refine K_addN dX0_addWish_6 rfl ?_
  refine K_putI dX0_addWish_7 fl_X0_15 (by first | rfl | exact sk_rk (by omega) | exact sk_hh (by omega)) rfl rfl rfl rfl ?_
  refine K_aload_n dX0_addWish_10 rfl rfl ?_
  refine K_rk dX0_addWish_11 fl_X0_9 (by first | omega | fail) rfl ?_
  refine K_iload_n dX0_addWish_14 rfl rfl ?_
  refine K_aload_n dX0_addWish_15 rfl rfl ?_
  refine K_getI dX0_addWish_16 fl_X0_15 (by first | rfl | exact sk_rk (by omega) | exact sk_hh (by omega)) rfl (by first | assumption | exact sM_eq _ _ _ _ | rfl) rfl ?_
  refine K_iast dX0_addWish_19 (by first | rfl | exact sk_rk (by omega) | exact sk_hh (by omega)) (by first | omega | fail) (by decide) rfl ?_
  refine K_ret dX0_addWish_20 rfl ?_
  exact ⟨rfl, rfl, rfl⟩
theorem l_X0_dropWishes {d : Nat} {Post : PK} {N : Mem} {K : Mej} {f : Nat} (hf : f < 10) (hP : Post none (fillM N (30 + f) 10 (nI 0)) K) : ∀ k i : Nat, i + k = 10 → EK d mX0_dropWishes Post 7 [(0, .ref (20 + f)), (1, .int (nI i))] [] (fillM N (30 + f) i (nI 0)) K
  | 0, i, h => by
    obtain rfl : i = 10 := by omega
    refine K_iload_n dX0_dropWishes_7 rfl rfl ?_
    refine K_bipush (v := nI 10) dX0_dropWishes_8 (by decide) rfl ?_
    first | refine K_icmp_geN (tgt := 26) dX0_dropWishes_10 (by decide) rfl (by first | omega | fail) (by first | omega | fail) (fun c10 => ?_) (fun c10 => ?_) | refine K_icmp_ge (tgt := 26) dX0_dropWishes_10 (by decide) rfl (fun c10 => ?_) (fun c10 => ?_)
    · refine K_ret dX0_dropWishes_26 rfl ?_
      exact hP
    · omega
  | k + 1, i, h => by
    have ih := l_X0_dropWishes (d := d) hf hP k (i + 1) (by omega)
    refine K_iload_n dX0_dropWishes_7 rfl rfl ?_
    refine K_bipush (v := nI 10) dX0_dropWishes_8 (by decide) rfl ?_
    first | refine K_icmp_geN (tgt := 26) dX0_dropWishes_10 (by decide) rfl (by first | omega | fail) (by first | omega | fail) (fun c10 => ?_) (fun c10 => ?_) | refine K_icmp_ge (tgt := 26) dX0_dropWishes_10 (by decide) rfl (fun c10 => ?_) (fun c10 => ?_)
    · omega
    · refine K_aload_n dX0_dropWishes_13 rfl rfl ?_
      refine K_rk dX0_dropWishes_14 fl_X0_9 (by first | omega | fail) rfl ?_
      refine K_iload_n dX0_dropWishes_17 rfl rfl ?_
      refine K_iconst (v := nI 0) dX0_dropWishes_18 (by decide) rfl ?_
      refine K_iast dX0_dropWishes_19 (by first | rfl | exact sk_rk (by omega) | exact sk_hh (by omega)) (by first | omega | fail) (by decide) rfl ?_
      first | refine K_incN (lv' := [(0, _), (1, _)]) dX0_dropWishes_20 rfl (by decide) rfl rfl ?_ | refine K_iinc (lv' := [(0, _), (1, _)]) dX0_dropWishes_20 rfl rfl (by decide) rfl rfl ?_
      refine K_goto (tgt := 7) dX0_dropWishes_23 (by decide) ?_
      rw [fillM_s]
      exact ih
set_option maxRecDepth 100000 in
theorem c_X0_dropWishes {d : Nat} {N : Mem} {K : Mej} {f : Nat} (hf : f < 10) : CK d mX0_dropWishes [.ref (20 + f)] N K (PX none (fillM (sM N (20 + f) 1 (nI 0)) (30 + f) 10 (nI 0)) K) := by
  refine CK.start [(0, _)] (plainFor_of_name (by decide)) (Nat.le_of_ble_eq_true rfl) rfl ?_
  refine K_aload_n dX0_dropWishes_0 rfl rfl ?_
  refine K_iconst (v := nI 0) dX0_dropWishes_1 (by decide) rfl ?_
  refine K_putI dX0_dropWishes_2 fl_X0_15 (by first | rfl | exact sk_rk (by omega) | exact sk_hh (by omega)) rfl rfl rfl rfl ?_
  refine K_iconst (v := nI 0) dX0_dropWishes_5 (by decide) rfl ?_
  refine K_istore_n (lv' := [(0, _), (1, _)]) dX0_dropWishes_6 (by decide) rfl rfl ?_
  have h := l_X0_dropWishes (d := d) (Post := PX none (fillM (sM N (20 + f) 1 (nI 0)) (30 + f) 10 (nI 0)) K) (N := sM N (20 + f) 1 (nI 0)) (K := K) hf ⟨rfl, rfl, rfl⟩ 10 0 rfl
  rw [fillM_0] at h
  exact h
def bmS (m g : Nat) (b : Bool) : Nat := cond b (m ||| 2 ^ g) (m &&& (2 ^ g ^^^ 4294967295))
theorem bmS_bit {m g : Nat} {b : Bool} {i : Nat} (hg : g < 10) (hi : i < 10) : (bmS m g b).testBit i = if i = g then b else m.testBit i := by
  have h32 : (4294967295 : Nat) = 2 ^ 32 - 1 := by decide
  cases b with
  | true =>
    simp only [bmS, cond, Nat.testBit_or, Nat.testBit_two_pow]
    by_cases h : i = g
    · simp [h]
    · have : ¬ g = i := fun e => h e.symm
      simp [h, this]
  | false =>
    simp only [bmS, cond, Nat.testBit_and, Nat.testBit_xor, Nat.testBit_two_pow, h32, Nat.testBit_two_pow_sub_one]
    by_cases h : i = g
    · simp [h, show g < 32 by omega]
    · have : ¬ g = i := fun e => h e.symm
      simp [h, this, show i < 32 by omega]
theorem bmS_lt {m g : Nat} {b : Bool} (hg : g < 10) (hm : m < 1024) : bmS m g b < 1024 := by
  cases b with
  | true => exact Nat.or_lt_two_pow (n := 10) hm (Nat.pow_lt_pow_right (by omega) hg)
  | false => exact Nat.lt_of_le_of_lt Nat.and_le_left hm
set_option maxRecDepth 100000 in
theorem c_X0_barFrom {d : Nat} {N : Mem} {K : Mej} {f g m : Nat} {b : Bool} (hf : f < 10) (hg : g < 10) (h1 : N (20 + f) 11 = nI m) : CK d mX0_barFrom [.ref (20 + f), .int (nI g), .int (bI b)] N K (PX none (sM N (20 + f) 11 (nI (bmS m g b))) K) := by
  refine CK.start [(0, _), (1, _), (2, _)] (plainFor_of_name (by decide)) (Nat.le_of_ble_eq_true rfl) rfl ?_
  refine K_aload_n dX0_barFrom_0 rfl rfl ?_
  refine K_iload_n dX0_barFrom_1 rfl rfl ?_
  first | refine K_if_eqB (tgt := 16) dX0_barFrom_2 (by decide) rfl (fun c2 => ?_) (fun c2 => ?_) | refine K_if_eqN (tgt := 16) dX0_barFrom_2 (by decide) rfl (by first | omega | fail) (fun c2 => ?_) (fun c2 => ?_) | refine K_if_eq (tgt := 16) dX0_barFrom_2 (by decide) rfl (fun c2 => ?_) (fun c2 => ?_)
  · refine K_aload_n dX0_barFrom_16 rfl rfl ?_
    refine K_getI dX0_barFrom_17 fl_X0_47 (by first | rfl | exact sk_rk (by omega) | exact sk_hh (by omega)) rfl (by first | assumption | rfl) rfl ?_
    refine K_iconst (v := nI 1) dX0_barFrom_20 (by decide) rfl ?_
    refine K_iload_n dX0_barFrom_21 rfl rfl ?_
    first | refine K_shl1 dX0_barFrom_22 (by first | omega | fail) rfl ?_ | refine K_shlN dX0_barFrom_22 (by first | omega | fail) (by first | omega | fail) rfl ?_ | refine K_ishl dX0_barFrom_22 rfl ?_
    refine K_iconst (v := (-1)) dX0_barFrom_23 (by decide) rfl ?_
    first | refine K_xorN dX0_barFrom_24 rfl ?_ | refine K_ixor dX0_barFrom_24 rfl ?_
    first | refine K_bitN dX0_barFrom_25 rfl ?_ | refine K_andN dX0_barFrom_25 rfl ?_ | refine K_iand dX0_barFrom_25 rfl ?_
    refine K_putI dX0_barFrom_26 fl_X0_47 (by first | rfl | exact sk_rk (by omega) | exact sk_hh (by omega)) rfl rfl rfl rfl ?_
    refine K_ret dX0_barFrom_29 rfl ?_
    refine ⟨rfl, ?_, rfl⟩
    subst c2
    first | rfl | (rw [show ((-1) : Int32) = nI 4294967295 from by decide, nx_xor, nx_and]; rfl)
  · refine K_aload_n dX0_barFrom_5 rfl rfl ?_
    refine K_getI dX0_barFrom_6 fl_X0_47 (by first | rfl | exact sk_rk (by omega) | exact sk_hh (by omega)) rfl (by first | assumption | rfl) rfl ?_
    refine K_iconst (v := nI 1) dX0_barFrom_9 (by decide) rfl ?_
    refine K_iload_n dX0_barFrom_10 rfl rfl ?_
    first | refine K_shl1 dX0_barFrom_11 (by first | omega | fail) rfl ?_ | refine K_shlN dX0_barFrom_11 (by first | omega | fail) (by first | omega | fail) rfl ?_ | refine K_ishl dX0_barFrom_11 rfl ?_
    first | refine K_orN dX0_barFrom_12 rfl ?_ | refine K_ior dX0_barFrom_12 rfl ?_
    refine K_goto (tgt := 26) dX0_barFrom_13 (by decide) ?_
    refine K_putI dX0_barFrom_26 fl_X0_47 (by first | rfl | exact sk_rk (by omega) | exact sk_hh (by omega)) rfl rfl rfl rfl ?_
    refine K_ret dX0_barFrom_29 rfl ?_
    refine ⟨rfl, ?_, rfl⟩
    subst c2
    first | rfl | (rw [show ((-1) : Int32) = nI 4294967295 from by decide, nx_xor, nx_and]; rfl)
set_option maxRecDepth 100000 in
theorem c_X0_isBarredFrom {d : Nat} {N : Mem} {K : Mej} {f g m : Nat} (hf : f < 10) (hg : g < 10) (h1 : N (20 + f) 11 = nI m) (hm : m < 1024) : CK d mX0_isBarredFrom [.ref (20 + f), .int (nI g)] N K (PX (some (.int (bI (m.testBit g)))) N K) := by
  refine CK.start [(0, _), (1, _)] (plainFor_of_name (by decide)) (Nat.le_of_ble_eq_true rfl) rfl ?_
  refine K_aload_n dX0_isBarredFrom_0 rfl rfl ?_
  refine K_getI dX0_isBarredFrom_1 fl_X0_47 (by first | rfl | exact sk_rk (by omega) | exact sk_hh (by omega)) rfl (by first | assumption | rfl) rfl ?_
  refine K_iload_n dX0_isBarredFrom_4 rfl rfl ?_
  first | refine K_shrN dX0_isBarredFrom_5 (by first | omega | fail) (by first | omega | fail) rfl ?_ | refine K_ishr dX0_isBarredFrom_5 rfl ?_
  refine K_iconst (v := nI 1) dX0_isBarredFrom_6 (by decide) rfl ?_
  first | refine K_bitN dX0_isBarredFrom_7 rfl ?_ | refine K_andN dX0_isBarredFrom_7 rfl ?_ | refine K_iand dX0_isBarredFrom_7 rfl ?_
  refine K_iconst (v := nI 1) dX0_isBarredFrom_8 (by decide) rfl ?_
  first | refine K_icmp_neN (tgt := 16) dX0_isBarredFrom_9 (by decide) rfl (by first | omega | fail) (by first | omega | fail) (fun c9 => ?_) (fun c9 => ?_) | refine K_icmp_neB1 (tgt := 16) dX0_isBarredFrom_9 (by decide) rfl (fun c9 => ?_) (fun c9 => ?_) | refine K_icmp_neO (tgt := 16) dX0_isBarredFrom_9 (by decide) rfl (by first | assumption | fail) (fun c9 => ?_) (fun c9 => ?_) | refine K_icmp_neOO (tgt := 16) dX0_isBarredFrom_9 (by decide) rfl (by first | assumption | fail) (by first | assumption | fail) (fun c9 => ?_) (fun c9 => ?_) | refine K_icmp_neON (tgt := 16) dX0_isBarredFrom_9 (by decide) rfl (by first | assumption | fail) (by first | omega | fail) (fun c9 => ?_) (fun c9 => ?_) | refine K_icmp_ne (tgt := 16) dX0_isBarredFrom_9 (by decide) rfl (fun c9 => ?_) (fun c9 => ?_)
  · refine K_iconst (v := nI 0) dX0_isBarredFrom_16 (by decide) rfl ?_
    refine K_zret dX0_isBarredFrom_17 rfl (by first | rfl | exact bI_nar _) ?_
    refine ⟨?_, rfl, rfl⟩
    rw [c9]
    rfl
  · refine K_iconst (v := nI 1) dX0_isBarredFrom_12 (by decide) rfl ?_
    refine K_goto (tgt := 17) dX0_isBarredFrom_13 (by decide) ?_
    refine K_zret dX0_isBarredFrom_17 rfl (by first | rfl | exact bI_nar _) ?_
    refine ⟨?_, rfl, rfl⟩
    rw [c9]
    rfl
end
section
/-! The ghost state S: numbers, truths, maybe-numbers, points. RX: the class holds S; WF: S is in bounds. -/
abbrev GS : Type := (Nat → Nat → Nat) × (Nat → Nat → Nat → Bool) × (Nat → Nat → Nat → Option Nat) × (Nat → Int32)
def s_n (S : GS) : Nat := S.1 0 0
def s_st (S : GS) : Nat := S.1 0 1
def s_mo (S : GS) : Nat := S.1 0 2
def s_li (S : GS) : Nat := S.1 0 3
def s_yr (S : GS) : Nat := S.1 0 4
def s_tc (S : GS) : Nat := S.1 0 5
def s_kd (S : GS) (f : Nat) : Nat := S.1 1 f
def s_bd (S : GS) (f : Nat) : Nat := S.1 2 f
def s_ps (S : GS) (f : Nat) : Nat := S.1 3 f
def s_ff (S : GS) (f : Nat) : Nat := S.1 4 f
def s_ft (S : GS) (f : Nat) : Nat := S.1 5 f
def s_tf (S : GS) (f : Nat) : Nat := S.1 6 f
def s_tt (S : GS) (f : Nat) : Nat := S.1 7 f
def s_wc (S : GS) (f : Nat) : Nat := S.1 8 f
def s_td (S : GS) (i : Nat) : Nat := S.1 9 i
def s_wl (S : GS) (f : Nat) : Nat → Nat := S.1 (20 + f)
def s_pt (S : GS) (f : Nat) : Bool := S.2.1 0 f 0
def s_pr (S : GS) (f : Nat) : Bool := S.2.1 1 f 0
def s_br (S : GS) (f g : Nat) : Bool := S.2.1 2 f g
def s_ch (S : GS) : Bool := S.2.1 3 0 0
def s_pl (S : GS) (f : Nat) : Option Nat := S.2.2.1 0 f 0
def s_bk (S : GS) (y f : Nat) : Option Nat := S.2.2.1 1 y f
def s_po (S : GS) (f : Nat) : Int32 := S.2.2.2 f
/-- the rank of g in the first c of the wishes w: 1 and on; 0 if it isn't there -/
def rkF (w : Nat → Nat) : Nat → Nat → Nat
  | 0, _ => 0
  | c + 1, g => if rkF w c g = 0 then (if w c = g then c + 1 else 0) else rkF w c g
def s_rk (S : GS) (f g : Nat) : Nat := rkF (s_wl S f) (s_wc S f) g
theorem rkF_le (w : Nat → Nat) (g : Nat) : ∀ c, rkF w c g ≤ c
  | 0 => Nat.le_refl 0
  | c + 1 => by
    have := rkF_le w g c
    unfold rkF
    split
    · split <;> omega
    · omega
theorem rkF_some {w : Nat → Nat} {g : Nat} : ∀ {c : Nat}, 0 < rkF w c g → w (rkF w c g - 1) = g
  | 0, h => absurd h (Nat.lt_irrefl 0)
  | c + 1, h => by
    unfold rkF at h ⊢
    split
    · next e =>
      rw [if_pos e] at h
      split
      · next e2 => exact e2
      · next e2 => rw [if_neg e2] at h; omega
    · next e => exact rkF_some (Nat.pos_of_ne_zero e)
theorem rkF_none {w : Nat → Nat} {g : Nat} : ∀ {c : Nat}, rkF w c g = 0 → ∀ k, k < c → w k ≠ g
  | 0, _, k, h => absurd h (Nat.not_lt_zero k)
  | c + 1, h, k, hk => by
    unfold rkF at h
    split at h
    · next e =>
      split at h
      · omega
      · next e2 =>
        rcases Nat.lt_succ_iff_lt_or_eq.mp hk with hk | rfl
        · exact rkF_none e k hk
        · exact e2
    · next e => exact absurd h e
def pl11 (f : Nat) : Int64 := lN (11 ^ (9 - f))
def RX (S : GS) (N : Mem) (K : Mej) : Prop :=
  (N 0 7 = nI (s_n S) ∧ N 0 8 = nI (s_yr S) ∧ N 0 9 = nI (s_tc S) ∧ N 0 10 = nI (s_st S) ∧ N 0 11 = nI (s_mo S) ∧ N 0 12 = nI (s_li S) ∧ N 0 13 = bI (s_ch S)) ∧
  (∀ f, f < 10 → N (20 + f) 1 = nI (s_wc S f) ∧ N (20 + f) 2 = nI (s_kd S f) ∧ N (20 + f) 3 = nI (s_bd S f) ∧ N (20 + f) 4 = nI (s_ps S f) ∧ N (20 + f) 5 = bI (s_pt S f) ∧ N (20 + f) 6 = bI (s_pr S f) ∧ N (20 + f) 7 = nI (s_ff S f) ∧ N (20 + f) 8 = nI (s_ft S f) ∧ N (20 + f) 9 = nI (s_tf S f) ∧ N (20 + f) 10 = nI (s_tt S f) ∧ (∃ m, m < 1024 ∧ N (20 + f) 11 = nI m ∧ ∀ g, g < 10 → m.testBit g = s_br S f g) ∧ N (20 + f) 12 = s_po S f) ∧
  (∀ f g, f < 10 → g < 10 → N (30 + f) g = nI (s_rk S f g)) ∧
  (∀ f, f < 10 → N 2 f = oI (s_pl S f)) ∧
  (∀ y f, y < s_yr S → f < 10 → N 3 (y * 10 + f) = oI (s_bk S y f)) ∧
  (∀ i, i < s_tc S → N 4 i = nI (s_td S i)) ∧
  (∀ f, f < 10 → K 11 f = pl11 f)
def WF (S : GS) : Prop :=
  (s_n S ≤ 10 ∧ s_yr S ≤ 60 ∧ s_tc S ≤ 10 ∧ (1 ≤ s_st S ∧ s_st S ≤ 8) ∧ (2 ≤ s_mo S ∧ s_mo S ≤ 10) ∧ s_li S ≤ 500) ∧
  (∀ f, f < s_n S → s_kd S f < 4 ∧ (1 ≤ s_bd S f ∧ s_bd S f ≤ 9) ∧ (1 ≤ s_ps S f ∧ s_ps S f ≤ 9) ∧ s_ff S f ≤ 51 ∧ s_ft S f ≤ 51 ∧ s_tf S f ≤ 51 ∧ s_tt S f ≤ 51) ∧
  (∀ f, s_n S ≤ f → f < 10 → s_wc S f = 0 ∧ s_ff S f = 0 ∧ s_ft S f = 51 ∧ s_tf S f = 0 ∧ s_tt S f = 51 ∧ s_pr S f = true ∧ s_pl S f = none ∧ s_po S f = 0 ∧ ∀ g, g < 10 → s_br S f g = false ∧ s_br S g f = false) ∧
  (∀ f k, f < 10 → k < s_wc S f → s_wl S f k < s_n S ∧ s_wl S f k ≠ f ∧ ∀ j, j < k → s_wl S f j ≠ s_wl S f k) ∧
  (∀ f g, f < 10 → s_pl S f = some g → f < s_n S ∧ g < s_n S ∧ g ≠ f) ∧
  (∀ y f g, y < s_yr S → f < 10 → s_bk S y f = some g → f < s_n S ∧ g < s_n S ∧ g ≠ f) ∧
  (∀ i, i < s_tc S → s_td S i < s_n S)
theorem pigeon : ∀ (m n : Nat) (f : Nat → Nat), (∀ i, i < n → f i < m) → (∀ i j, i < j → j < n → f i ≠ f j) → n ≤ m
  | 0, n, f, h, _ => by
    rcases Nat.eq_zero_or_pos n with e | e
    · omega
    · exact absurd (h 0 e) (Nat.not_lt_zero _)
  | m + 1, n, f, h, hd => by
    rcases Nat.eq_zero_or_pos n with e | e
    · omega
    · by_cases hx : ∃ k, k < n ∧ f k = m
      · obtain ⟨k, hk, hfk⟩ := hx
        have := pigeon m (n - 1) (fun i => if i < k then f i else f (i + 1)) (fun i hi => by
          show (if i < k then f i else f (i + 1)) < m
          split
          · next h1 =>
            have h2 := h i (by omega)
            have h3 := hd i k h1 hk
            omega
          · next h1 =>
            have h2 := h (i + 1) (by omega)
            have h3 := hd k (i + 1) (by omega) (by omega)
            omega) (fun i j hij hj => by
          show (if i < k then f i else f (i + 1)) ≠ (if j < k then f j else f (j + 1))
          split <;> split
          · exact hd i j hij (by omega)
          · exact hd i (j + 1) (by omega) (by omega)
          · omega
          · exact hd (i + 1) (j + 1) (by omega) (by omega))
        omega
      · have := pigeon m n f (fun i hi => by
          have h1 := h i hi
          have h2 : f i ≠ m := fun e2 => hx ⟨i, hi, e2⟩
          omega) hd
        omega
theorem WF.wc {S : GS} (w : WF S) {f : Nat} (hf : f < 10) : s_wc S f ≤ 9 := by
  rcases Nat.lt_or_ge f (s_n S) with h | h
  · have hn := w.1.1
    have h2 := pigeon 10 (s_wc S f + 1) (fun k => if k < s_wc S f then s_wl S f k else f) (fun i hi => by
      show (if i < s_wc S f then s_wl S f i else f) < 10
      split
      · next h1 => have := (w.2.2.2.1 f i hf h1).1; omega
      · omega) (fun i j hij hj => by
      show (if i < s_wc S f then s_wl S f i else f) ≠ (if j < s_wc S f then s_wl S f j else f)
      rw [if_pos (by omega)]
      split
      · next h1 => exact (w.2.2.2.1 f j hf h1).2.2 i hij
      · exact (w.2.2.2.1 f i hf (by omega)).2.1)
    omega
  · rw [(w.2.2.1 f h hf).1]
    omega
theorem WF.rk9 {S : GS} (w : WF S) {f : Nat} (hf : f < 10) (g : Nat) : s_rk S f g ≤ 9 := Nat.le_trans (rkF_le _ _ _) (w.wc hf)
theorem WF.rkn {S : GS} (w : WF S) {f g : Nat} (hf : f < 10) (h : 0 < s_rk S f g) : f < s_n S ∧ g < s_n S ∧ g ≠ f := by
  have h1 := rkF_some h
  have h2 := rkF_le (s_wl S f) g (s_wc S f)
  have h3 : rkF (s_wl S f) (s_wc S f) g = s_rk S f g := rfl
  obtain ⟨a, b, -⟩ := w.2.2.2.1 f (rkF (s_wl S f) (s_wc S f) g - 1) hf (by omega)
  rw [h1] at a b
  refine ⟨?_, a, b⟩
  rcases Nat.lt_or_ge f (s_n S) with h | h
  · exact h
  · have := (w.2.2.1 f h hf).1
    omega
theorem WF.plb {S : GS} (w : WF S) {f : Nat} (hf : f < 10) : oB (s_pl S f) := by
  intro g hg
  have := (w.2.2.2.2.1 f g hf hg).2.1
  have := w.1.1
  omega
def s_sl (S : GS) (f : Nat) : Nat := vSl (s_kd S f) (s_bd S f)
def s_wo (S : GS) (f : Nat) : Nat := vWo (s_kd S f) (s_bd S f)
def s_hin (S : GS) (f g : Nat) : Nat :=
  if s_pr S f = false ∨ s_pr S g = false then 1
  else if s_br S f g = true then 2
  else if s_sl S g < s_ps S f then 3
  else if s_pt S f = true ∧ vPe (s_kd S g) = false then 4
  else if min (s_tt S f) (s_ft S g) + 1 < max (s_tf S f) (s_ff S g) + s_st S then 5
  else 0
def s_tk (S : GS) (f g : Nat) : Bool := decide (0 < s_rk S f g ∧ s_hin S f g = 0)
theorem vSl_le {kd bd : Nat} : vSl kd bd ≤ bd := by
  unfold vSl
  split <;> omega
theorem wk_le {a b c : Nat} (ha : a ≤ 100) (hb : b ≤ 100) (hc : c ≤ 100) : nI c ≤ nI a - nI b + nI 1 ↔ b + c ≤ a + 1 := by
  rw [Int32.le_iff_toInt_le, nI_toInt (by omega), Int32.toInt_add, Int32.toInt_sub, nI_toInt (by omega), nI_toInt (by omega), nI_toInt (by omega)]
  rw [Int.bmod_eq_of_le (n := ((a : Int) - b)) (by omega) (by omega), Int.bmod_eq_of_le (by omega) (by omega)]
  omega
def isF (n : Nat) (x : Int32) : Bool := decide (¬ x < 0 ∧ ¬ nI n ≤ x)
theorem isF_iff {n : Nat} (hn : n ≤ 10) {x : Int32} : isF n x = true ↔ ∃ f, f < n ∧ x = nI f := by
  simp only [isF, decide_eq_true_eq]
  constructor
  · rintro ⟨h1, h2⟩
    obtain ⟨j, hj, rfl⟩ := nI_of h1
    refine ⟨j, ?_, rfl⟩
    rw [nI_leI (by omega) hj] at h2
    omega
  · rintro ⟨f, hf, rfl⟩
    exact ⟨nI_pos (by omega), fun h => by rw [nI_leI (by omega) (by omega)] at h; omega⟩
theorem isF_nI {n f : Nat} (hn : n ≤ 10) (hf : f < 2 ^ 31) : isF n (nI f) = decide (f < n) := by
  by_cases h : f < n
  · rw [(isF_iff hn).mpr ⟨f, h, rfl⟩]; simp [h]
  · have : isF n (nI f) ≠ true := by
      intro e
      obtain ⟨g, hg, e2⟩ := (isF_iff hn).mp e
      rw [nI_eq hf (by omega)] at e2
      omega
    simp [h, this]
def two (n : Nat) (x y : Int32) : Bool := isF n x && isF n y && !decide (x = y)
theorem two_iff {n : Nat} (hn : n ≤ 10) {x y : Int32} : two n x y = true ↔ ∃ f g, f < n ∧ g < n ∧ f ≠ g ∧ x = nI f ∧ y = nI g := by
  simp only [two, Bool.and_eq_true, isF_iff hn, Bool.not_eq_true', decide_eq_false_iff_not]
  constructor
  · rintro ⟨⟨⟨f, hf, rfl⟩, g, hg, rfl⟩, h⟩
    exact ⟨f, g, hf, hg, fun e => h (by rw [e]), rfl, rfl⟩
  · rintro ⟨f, g, hf, hg, h, rfl, rfl⟩
    exact ⟨⟨⟨f, hf, rfl⟩, g, hg, rfl⟩, fun e => h ((nI_eq (by omega) (by omega)).mp e)⟩
end
section
set_option maxRecDepth 100000 in
theorem c_X3_isOneToNine {d : Nat} {N : Mem} {K : Mej} {x : Int32} : CK d mX3_isOneToNine [.int x] N K (PX (some (.int (bI (decide (¬ x < nI 1 ∧ ¬ nI 9 < x))))) N K) := by
  refine CK.start [(0, _)] (plainFor_of_name (by decide)) (Nat.le_of_ble_eq_true rfl) rfl ?_
  refine K_iload_n dX3_isOneToNine_0 rfl rfl ?_
  refine K_iconst (v := nI 1) dX3_isOneToNine_1 (by decide) rfl ?_
  refine K_icmp_lt (tgt := 15) dX3_isOneToNine_2 (by decide) rfl (fun c2 => ?_) (fun c2 => ?_)
  · refine K_iconst (v := nI 0) dX3_isOneToNine_15 (by decide) rfl ?_
    refine K_zret dX3_isOneToNine_16 rfl (by first | rfl | exact bI_nar _) ?_
    refine ⟨?_, rfl, rfl⟩
    simp_all
    rfl
  · refine K_iload_n dX3_isOneToNine_5 rfl rfl ?_
    refine K_bipush (v := nI 9) dX3_isOneToNine_6 (by decide) rfl ?_
    refine K_icmp_gt (tgt := 15) dX3_isOneToNine_8 (by decide) rfl (fun c8 => ?_) (fun c8 => ?_)
    · refine K_iconst (v := nI 0) dX3_isOneToNine_15 (by decide) rfl ?_
      refine K_zret dX3_isOneToNine_16 rfl (by first | rfl | exact bI_nar _) ?_
      refine ⟨?_, rfl, rfl⟩
      simp_all
      rfl
    · refine K_iconst (v := nI 1) dX3_isOneToNine_11 (by decide) rfl ?_
      refine K_goto (tgt := 16) dX3_isOneToNine_12 (by decide) ?_
      refine K_zret dX3_isOneToNine_16 rfl (by first | rfl | exact bI_nar _) ?_
      refine ⟨?_, rfl, rfl⟩
      simp_all
      rfl
set_option maxRecDepth 100000 in
theorem c_X3_isFamily {d : Nat} {N : Mem} {K : Mej} {n : Nat} {x : Int32} (hN : N 0 7 = nI n) : CK d mX3_isFamily [.ref 0, .int x] N K (PX (some (.int (bI (isF n x)))) N K) := by
  refine CK.start [(0, _), (1, _)] (plainFor_of_name (by decide)) (Nat.le_of_ble_eq_true rfl) rfl ?_
  refine K_iload_n dX3_isFamily_0 rfl rfl ?_
  refine K_if_lt (tgt := 16) dX3_isFamily_1 (by decide) rfl (fun c1 => ?_) (fun c1 => ?_)
  · refine K_iconst (v := nI 0) dX3_isFamily_16 (by decide) rfl ?_
    refine K_zret dX3_isFamily_17 rfl (by first | rfl | exact bI_nar _) ?_
    refine ⟨?_, rfl, rfl⟩
    simp_all [isF]
    rfl
  · refine K_iload_n dX3_isFamily_4 rfl rfl ?_
    refine K_aload_n dX3_isFamily_5 rfl rfl ?_
    refine K_getI dX3_isFamily_6 fl_X3_42 (by first | rfl | exact sk_rk (by omega) | exact sk_hh (by omega)) rfl (by first | assumption | rfl) rfl ?_
    refine K_icmp_ge (tgt := 16) dX3_isFamily_9 (by decide) rfl (fun c9 => ?_) (fun c9 => ?_)
    · refine K_iconst (v := nI 0) dX3_isFamily_16 (by decide) rfl ?_
      refine K_zret dX3_isFamily_17 rfl (by first | rfl | exact bI_nar _) ?_
      refine ⟨?_, rfl, rfl⟩
      simp_all [isF]
      rfl
    · refine K_iconst (v := nI 1) dX3_isFamily_12 (by decide) rfl ?_
      refine K_goto (tgt := 17) dX3_isFamily_13 (by decide) ?_
      refine K_zret dX3_isFamily_17 rfl (by first | rfl | exact bI_nar _) ?_
      refine ⟨?_, rfl, rfl⟩
      simp_all [isF]
      rfl
set_option maxRecDepth 100000 in
theorem c_X3_areTwo {d : Nat} (hd : 1 ≤ d) {N : Mem} {K : Mej} {n : Nat} {x y : Int32} (hN : N 0 7 = nI n) : CK d mX3_areTwo [.ref 0, .int x, .int y] N K (PX (some (.int (bI (two n x y)))) N K) := by
  refine CK.start [(0, _), (1, _), (2, _)] (plainFor_of_name (by decide)) (Nat.le_of_ble_eq_true rfl) rfl ?_
  refine K_aload_n dX3_areTwo_0 rfl rfl ?_
  refine K_iload_n dX3_areTwo_1 rfl rfl ?_
  refine K_cv (ci := 3) (d1 := d - 1) [_] dX3_areTwo_2 ml_X3_74 (by decide) rfl rfl rfl (Nat.le_of_ble_eq_true rfl) (c_X3_isFamily hN) (by omega) rfl ?_
  refine K_if_eqB (tgt := 25) dX3_areTwo_5 (by decide) rfl (fun c5 => ?_) (fun c5 => ?_)
  · refine K_iconst (v := nI 0) dX3_areTwo_25 (by decide) rfl ?_
    refine K_zret dX3_areTwo_26 rfl (by first | rfl | exact bI_nar _) ?_
    refine ⟨?_, rfl, rfl⟩
    simp_all [two]
    rfl
  · refine K_aload_n dX3_areTwo_8 rfl rfl ?_
    refine K_iload_n dX3_areTwo_9 rfl rfl ?_
    refine K_cv (ci := 3) (d1 := d - 1) [_] dX3_areTwo_10 ml_X3_74 (by decide) rfl rfl rfl (Nat.le_of_ble_eq_true rfl) (c_X3_isFamily hN) (by omega) rfl ?_
    refine K_if_eqB (tgt := 25) dX3_areTwo_13 (by decide) rfl (fun c13 => ?_) (fun c13 => ?_)
    · refine K_iconst (v := nI 0) dX3_areTwo_25 (by decide) rfl ?_
      refine K_zret dX3_areTwo_26 rfl (by first | rfl | exact bI_nar _) ?_
      refine ⟨?_, rfl, rfl⟩
      simp_all [two]
      rfl
    · refine K_iload_n dX3_areTwo_16 rfl rfl ?_
      refine K_iload_n dX3_areTwo_17 rfl rfl ?_
      refine K_icmp_eq (tgt := 25) dX3_areTwo_18 (by decide) rfl (fun c18 => ?_) (fun c18 => ?_)
      · refine K_iconst (v := nI 0) dX3_areTwo_25 (by decide) rfl ?_
        refine K_zret dX3_areTwo_26 rfl (by first | rfl | exact bI_nar _) ?_
        refine ⟨?_, rfl, rfl⟩
        simp_all [two]
        rfl
      · refine K_iconst (v := nI 1) dX3_areTwo_21 (by decide) rfl ?_
        refine K_goto (tgt := 26) dX3_areTwo_22 (by decide) ?_
        refine K_zret dX3_areTwo_26 rfl (by first | rfl | exact bI_nar _) ?_
        refine ⟨?_, rfl, rfl⟩
        simp_all [two]
        rfl
set_option maxRecDepth 100000 in
theorem c_X3_hindrance {d : Nat} (hd : 2 ≤ d) {S : GS} {N : Mem} {K : Mej} (R : RX S N K) (w : WF S) {f g : Nat} (hf : f < s_n S) (hg : g < s_n S) : CK d mX3_hindrance [.ref 0, .int (nI f), .int (nI g)] N K (PX (some (.int (nI (s_hin S f g)))) N K) := by
  have hn := w.1.1
  obtain ⟨f1, f2, f3, f4, f5, f6, f7, f8, f9, f10, ⟨mf, hmf, f11, hbf⟩, -⟩ := R.2.1 f (by omega)
  obtain ⟨g1, g2, g3, g4, g5, g6, g7, g8, g9, g10, -, -⟩ := R.2.1 g (by omega)
  obtain ⟨wf1, wf2, wf3, wf4, wf5, wf6, wf7⟩ := w.2.1 f hf
  obtain ⟨wg1, wg2, wg3, wg4, wg5, wg6, wg7⟩ := w.2.1 g hg
  have hst := R.1.2.2.2.1
  have hst2 := w.1.2.2.2.1
  have hbr := hbf g (by omega)
  have hsl : vSl (s_kd S g) (s_bd S g) ≤ 9 := Nat.le_trans vSl_le (by omega)
  refine CK.start [(0, _), (1, _), (2, _)] (plainFor_of_name (by decide)) (Nat.le_of_ble_eq_true rfl) rfl ?_
  refine K_aload_n dX3_hindrance_0 rfl rfl ?_
  refine K_getR (r := 1) dX3_hindrance_1 fl_X3_11 rfl rfl rfl rfl ?_
  refine K_iload_n dX3_hindrance_4 rfl rfl ?_
  refine K_hh dX3_hindrance_5 (by first | omega | fail) rfl ?_
  refine K_astore_n (lv' := [(0, _), (1, _), (2, _), (3, _)]) dX3_hindrance_6 (by decide) rfl rfl ?_
  refine K_aload_n dX3_hindrance_7 rfl rfl ?_
  refine K_getR (r := 1) dX3_hindrance_8 fl_X3_11 rfl rfl rfl rfl ?_
  refine K_iload_n dX3_hindrance_11 rfl rfl ?_
  refine K_hh dX3_hindrance_12 (by first | omega | fail) rfl ?_
  refine K_astore (lv' := [(0, _), (1, _), (2, _), (3, _), (4, _)]) dX3_hindrance_13 (by decide) rfl rfl ?_
  refine K_aload_n dX3_hindrance_15 rfl rfl ?_
  refine K_getI dX3_hindrance_16 fl_X3_114 (by first | rfl | exact sk_rk (by omega) | exact sk_hh (by omega)) rfl (by first | assumption | rfl) rfl ?_
  refine K_if_eqB (tgt := 30) dX3_hindrance_19 (by decide) rfl (fun c19 => ?_) (fun c19 => ?_)
  · refine K_iconst (v := nI 1) dX3_hindrance_30 (by decide) rfl ?_
    refine K_iret dX3_hindrance_31 rfl ?_
    refine ⟨?_, rfl, rfl⟩
    rw [s_hin, if_pos (by simp_all)]
  · refine K_aload dX3_hindrance_22 rfl rfl ?_
    refine K_getI dX3_hindrance_24 fl_X3_114 (by first | rfl | exact sk_rk (by omega) | exact sk_hh (by omega)) rfl (by first | assumption | rfl) rfl ?_
    refine K_if_neB (tgt := 32) dX3_hindrance_27 (by decide) rfl (fun c27 => ?_) (fun c27 => ?_)
    · refine K_aload_n dX3_hindrance_32 rfl rfl ?_
      refine K_iload_n dX3_hindrance_33 rfl rfl ?_
      refine K_cv (ci := 0) (d1 := d - 1) [_] dX3_hindrance_34 ml_X3_224 (by decide) (sk_hh (by omega)) rfl rfl (Nat.le_of_ble_eq_true rfl) (c_X0_isBarredFrom (by omega) (by omega) f11 hmf) (by omega) rfl ?_
      refine K_if_eqB (tgt := 42) dX3_hindrance_37 (by decide) rfl (fun c37 => ?_) (fun c37 => ?_)
      · refine K_aload_n dX3_hindrance_42 rfl rfl ?_
        refine K_getI dX3_hindrance_43 fl_X3_227 (by first | rfl | exact sk_rk (by omega) | exact sk_hh (by omega)) rfl (by first | assumption | rfl) rfl ?_
        refine K_aload dX3_hindrance_46 rfl rfl ?_
        refine K_cv (ci := 0) (d1 := d - 1) [] dX3_hindrance_48 ml_X3_137 (by decide) (sk_hh (by omega)) rfl rfl (Nat.le_of_ble_eq_true rfl) (c_X0_sleeps (by omega) g2 g3 wg1 (by omega)) (by omega) rfl ?_
        refine K_icmp_leN (tgt := 56) dX3_hindrance_51 (by decide) rfl (by first | omega | fail) (by first | omega | fail) (fun c51 => ?_) (fun c51 => ?_)
        · refine K_aload_n dX3_hindrance_56 rfl rfl ?_
          refine K_getI dX3_hindrance_57 fl_X3_230 (by first | rfl | exact sk_rk (by omega) | exact sk_hh (by omega)) rfl (by first | assumption | rfl) rfl ?_
          refine K_if_eqB (tgt := 73) dX3_hindrance_60 (by decide) rfl (fun c60 => ?_) (fun c60 => ?_)
          · refine K_aload_n dX3_hindrance_73 rfl rfl ?_
            refine K_aload dX3_hindrance_74 rfl rfl ?_
            refine K_cv (ci := 0) (d1 := d - 1) [_] dX3_hindrance_76 ml_X3_237 (by decide) (sk_hh (by omega)) rfl rfl (Nat.le_of_ble_eq_true rfl) (c_X0_weeksAt (by omega) (by omega) (by omega) f9 f10 g7 g8 (by omega) (by omega) (by omega) (by omega)) (by omega) rfl ?_
            refine K_aload_n dX3_hindrance_79 rfl rfl ?_
            refine K_getI dX3_hindrance_80 fl_X3_52 (by first | rfl | exact sk_rk (by omega) | exact sk_hh (by omega)) rfl (by first | assumption | rfl) rfl ?_
            refine K_icmp_ge (tgt := 90) dX3_hindrance_83 (by decide) rfl (fun c83 => ?_) (fun c83 => ?_)
            · refine K_iconst (v := nI 0) dX3_hindrance_90 (by decide) rfl ?_
              refine K_iret dX3_hindrance_91 rfl ?_
              refine ⟨?_, rfl, rfl⟩
              rw [wk_le (by omega) (by omega) (by omega)] at c83
              rw [s_hin, if_neg (by simp_all), if_neg (by rw [← hbr, c37]; decide), if_neg (by simp only [s_sl]; omega), if_neg (by simp_all)]
              first | rw [if_neg (by omega)] | rw [if_pos (by omega)]
            · refine K_iconst (v := nI 5) dX3_hindrance_86 (by decide) rfl ?_
              refine K_goto (tgt := 91) dX3_hindrance_87 (by decide) ?_
              refine K_iret dX3_hindrance_91 rfl ?_
              refine ⟨?_, rfl, rfl⟩
              rw [wk_le (by omega) (by omega) (by omega)] at c83
              rw [s_hin, if_neg (by simp_all), if_neg (by rw [← hbr, c37]; decide), if_neg (by simp only [s_sl]; omega), if_neg (by simp_all)]
              first | rw [if_neg (by omega)] | rw [if_pos (by omega)]
          · refine K_aload dX3_hindrance_63 rfl rfl ?_
            refine K_cv (ci := 0) (d1 := d - 1) [] dX3_hindrance_65 ml_X3_233 (by decide) (sk_hh (by omega)) rfl rfl (Nat.le_of_ble_eq_true rfl) (c_X0_welcomesPets (by omega) g2 wg1) (by omega) rfl ?_
            refine K_if_neB (tgt := 73) dX3_hindrance_68 (by decide) rfl (fun c68 => ?_) (fun c68 => ?_)
            · refine K_aload_n dX3_hindrance_73 rfl rfl ?_
              refine K_aload dX3_hindrance_74 rfl rfl ?_
              refine K_cv (ci := 0) (d1 := d - 1) [_] dX3_hindrance_76 ml_X3_237 (by decide) (sk_hh (by omega)) rfl rfl (Nat.le_of_ble_eq_true rfl) (c_X0_weeksAt (by omega) (by omega) (by omega) f9 f10 g7 g8 (by omega) (by omega) (by omega) (by omega)) (by omega) rfl ?_
              refine K_aload_n dX3_hindrance_79 rfl rfl ?_
              refine K_getI dX3_hindrance_80 fl_X3_52 (by first | rfl | exact sk_rk (by omega) | exact sk_hh (by omega)) rfl (by first | assumption | rfl) rfl ?_
              refine K_icmp_ge (tgt := 90) dX3_hindrance_83 (by decide) rfl (fun c83 => ?_) (fun c83 => ?_)
              · refine K_iconst (v := nI 0) dX3_hindrance_90 (by decide) rfl ?_
                refine K_iret dX3_hindrance_91 rfl ?_
                refine ⟨?_, rfl, rfl⟩
                rw [wk_le (by omega) (by omega) (by omega)] at c83
                rw [s_hin, if_neg (by simp_all), if_neg (by rw [← hbr, c37]; decide), if_neg (by simp only [s_sl]; omega), if_neg (by simp_all)]
                first | rw [if_neg (by omega)] | rw [if_pos (by omega)]
              · refine K_iconst (v := nI 5) dX3_hindrance_86 (by decide) rfl ?_
                refine K_goto (tgt := 91) dX3_hindrance_87 (by decide) ?_
                refine K_iret dX3_hindrance_91 rfl ?_
                refine ⟨?_, rfl, rfl⟩
                rw [wk_le (by omega) (by omega) (by omega)] at c83
                rw [s_hin, if_neg (by simp_all), if_neg (by rw [← hbr, c37]; decide), if_neg (by simp only [s_sl]; omega), if_neg (by simp_all)]
                first | rw [if_neg (by omega)] | rw [if_pos (by omega)]
            · refine K_iconst (v := nI 4) dX3_hindrance_71 (by decide) rfl ?_
              refine K_iret dX3_hindrance_72 rfl ?_
              refine ⟨?_, rfl, rfl⟩
              rw [s_hin, if_neg (by simp_all), if_neg (by rw [← hbr, c37]; decide), if_neg (by simp only [s_sl]; omega), if_pos ⟨c60, c68⟩]
        · refine K_iconst (v := nI 3) dX3_hindrance_54 (by decide) rfl ?_
          refine K_iret dX3_hindrance_55 rfl ?_
          refine ⟨?_, rfl, rfl⟩
          rw [s_hin, if_neg (by simp_all), if_neg (by rw [← hbr, c37]; decide), if_pos (by simp only [s_sl]; omega)]
      · refine K_iconst (v := nI 2) dX3_hindrance_40 (by decide) rfl ?_
        refine K_iret dX3_hindrance_41 rfl ?_
        refine ⟨?_, rfl, rfl⟩
        rw [s_hin, if_neg (by simp_all), if_pos (by rw [← hbr]; exact c37)]
    · refine K_iconst (v := nI 1) dX3_hindrance_30 (by decide) rfl ?_
      refine K_iret dX3_hindrance_31 rfl ?_
      refine ⟨?_, rfl, rfl⟩
      rw [s_hin, if_pos (by simp_all)]
set_option maxRecDepth 100000 in
theorem c_X3_takes {d : Nat} (hd : 3 ≤ d) {S : GS} {N : Mem} {K : Mej} (R : RX S N K) (w : WF S) {f g : Nat} (hf : f < s_n S) (hg : g < s_n S) : CK d mX3_takes [.ref 0, .int (nI f), .int (nI g)] N K (PX (some (.int (bI (s_tk S f g)))) N K) := by
  have hn := w.1.1
  have hr := R.2.2.1 f g (by omega) (by omega)
  have hr9 := w.rk9 (f := f) (by omega) g
  have hh : s_hin S f g < 6 := by unfold s_hin; (repeat' split) <;> omega
  refine CK.start [(0, _), (1, _), (2, _)] (plainFor_of_name (by decide)) (Nat.le_of_ble_eq_true rfl) rfl ?_
  refine K_aload_n dX3_takes_0 rfl rfl ?_
  refine K_getR (r := 1) dX3_takes_1 fl_X3_11 rfl rfl rfl rfl ?_
  refine K_iload_n dX3_takes_4 rfl rfl ?_
  refine K_hh dX3_takes_5 (by first | omega | fail) rfl ?_
  refine K_rk dX3_takes_6 fl_X3_155 (by first | omega | fail) rfl ?_
  refine K_iload_n dX3_takes_9 rfl rfl ?_
  refine K_iald dX3_takes_10 (by first | rfl | exact sk_rk (by omega) | exact sk_hh (by omega)) (by first | omega | fail) (by decide) (by first | assumption | rfl) rfl ?_
  refine K_if_leN (tgt := 27) dX3_takes_11 (by decide) rfl (by first | omega | fail) (fun c11 => ?_) (fun c11 => ?_)
  · refine K_iconst (v := nI 0) dX3_takes_27 (by decide) rfl ?_
    refine K_zret dX3_takes_28 rfl (by first | rfl | exact bI_nar _) ?_
    refine ⟨?_, rfl, rfl⟩
    simp only [s_tk]
    first | rw [decide_eq_true ⟨c11, c20⟩]; rfl | rw [decide_eq_false (fun h => c20 h.2)]; rfl | rw [decide_eq_false (fun h => absurd h.1 (by omega))]; rfl
  · refine K_aload_n dX3_takes_14 rfl rfl ?_
    refine K_iload_n dX3_takes_15 rfl rfl ?_
    refine K_iload_n dX3_takes_16 rfl rfl ?_
    refine K_cv (ci := 3) (d1 := d - 1) [_, _] dX3_takes_17 ml_X3_158 (by decide) rfl rfl rfl (Nat.le_of_ble_eq_true rfl) (c_X3_hindrance (by omega) R w hf hg) (by omega) rfl ?_
    refine K_if_neN (tgt := 27) dX3_takes_20 (by decide) rfl (by first | omega | fail) (fun c20 => ?_) (fun c20 => ?_)
    · refine K_iconst (v := nI 0) dX3_takes_27 (by decide) rfl ?_
      refine K_zret dX3_takes_28 rfl (by first | rfl | exact bI_nar _) ?_
      refine ⟨?_, rfl, rfl⟩
      simp only [s_tk]
      first | rw [decide_eq_true ⟨c11, c20⟩]; rfl | rw [decide_eq_false (fun h => c20 h.2)]; rfl | rw [decide_eq_false (fun h => absurd h.1 (by omega))]; rfl
    · refine K_iconst (v := nI 1) dX3_takes_23 (by decide) rfl ?_
      refine K_goto (tgt := 28) dX3_takes_24 (by decide) ?_
      refine K_zret dX3_takes_28 rfl (by first | rfl | exact bI_nar _) ?_
      refine ⟨?_, rfl, rfl⟩
      simp only [s_tk]
      first | rw [decide_eq_true ⟨c11, c20⟩]; rfl | rw [decide_eq_false (fun h => c20 h.2)]; rfl | rw [decide_eq_false (fun h => absurd h.1 (by omega))]; rfl
set_option maxRecDepth 100000 in
theorem c_X3_planRank {d : Nat} {S : GS} {N : Mem} {K : Mej} (R : RX S N K) (w : WF S) {f : Nat} (hf : f < 10) : CK d mX3_planRank [.ref 0, .int (nI f)] N K (PX (some (.int (nI (match s_pl S f with | none => 0 | some g => s_rk S f g)))) N K) := by
  have hn := w.1.1
  have hp := R.2.2.2.1 f hf
  have hob := w.plb hf
  cases hq : s_pl S f with
  | none =>
    rw [hq] at hp
    refine CK.start [(0, _), (1, _)] (plainFor_of_name (by decide)) (Nat.le_of_ble_eq_true rfl) rfl ?_
    refine K_aload_n dX3_planRank_0 rfl rfl ?_
    refine K_getR (r := 2) dX3_planRank_1 fl_X3_15 rfl rfl rfl rfl ?_
    refine K_iload_n dX3_planRank_4 rfl rfl ?_
    refine K_iald dX3_planRank_5 (by first | rfl | exact sk_rk (by omega) | exact sk_hh (by omega)) (by first | omega | fail) (by decide) (by first | assumption | rfl) rfl ?_
    refine K_iconst (v := (-1)) dX3_planRank_6 (by decide) rfl ?_
    refine K_icmp_ne (tgt := 14) dX3_planRank_7 (by decide) rfl (fun c7 => ?_) (fun c7 => ?_)
    · exact absurd rfl c7
    · refine K_iconst (v := nI 0) dX3_planRank_10 (by decide) rfl ?_
      refine K_goto (tgt := 30) dX3_planRank_11 (by decide) ?_
      refine K_iret dX3_planRank_30 rfl ?_
      exact ⟨rfl, rfl, rfl⟩
  | some g =>
    rw [hq] at hp
    obtain ⟨h1, h2, h3⟩ := w.2.2.2.2.1 f g hf hq
    have hr := R.2.2.1 f g hf (by omega)
    have hp2 : N 2 f = nI g := hp
    refine CK.start [(0, _), (1, _)] (plainFor_of_name (by decide)) (Nat.le_of_ble_eq_true rfl) rfl ?_
    refine K_aload_n dX3_planRank_0 rfl rfl ?_
    refine K_getR (r := 2) dX3_planRank_1 fl_X3_15 rfl rfl rfl rfl ?_
    refine K_iload_n dX3_planRank_4 rfl rfl ?_
    refine K_iald dX3_planRank_5 (by first | rfl | exact sk_rk (by omega) | exact sk_hh (by omega)) (by first | omega | fail) (by decide) (by first | assumption | rfl) rfl ?_
    refine K_iconst (v := (-1)) dX3_planRank_6 (by decide) rfl ?_
    refine K_icmp_ne (tgt := 14) dX3_planRank_7 (by decide) rfl (fun c7 => ?_) (fun c7 => ?_)
    · refine K_aload_n dX3_planRank_14 rfl rfl ?_
      refine K_getR (r := 1) dX3_planRank_15 fl_X3_11 rfl rfl rfl rfl ?_
      refine K_iload_n dX3_planRank_18 rfl rfl ?_
      refine K_hh dX3_planRank_19 (by first | omega | fail) rfl ?_
      refine K_rk dX3_planRank_20 fl_X3_155 (by first | omega | fail) rfl ?_
      refine K_aload_n dX3_planRank_23 rfl rfl ?_
      refine K_getR (r := 2) dX3_planRank_24 fl_X3_15 rfl rfl rfl rfl ?_
      refine K_iload_n dX3_planRank_27 rfl rfl ?_
      refine K_iald dX3_planRank_28 (by first | rfl | exact sk_rk (by omega) | exact sk_hh (by omega)) (by first | omega | fail) (by decide) (by first | assumption | rfl) rfl ?_
      refine K_iald dX3_planRank_29 (by first | rfl | exact sk_rk (by omega) | exact sk_hh (by omega)) (by first | omega | fail) (by decide) (by first | assumption | rfl) rfl ?_
      refine K_iret dX3_planRank_30 rfl ?_
      exact ⟨rfl, rfl, rfl⟩
    · exact absurd c7 (nI_neg1 (by omega))
end
section
def cnt (p : Nat → Bool) : Nat → Nat
  | 0 => 0
  | n + 1 => cnt p n + (if p n = true then 1 else 0)
theorem cnt_le (p : Nat → Bool) : ∀ n, cnt p n ≤ n
  | 0 => Nat.le_refl 0
  | n + 1 => by
    have := cnt_le p n
    unfold cnt
    split <;> omega
theorem cnt_t {p : Nat → Bool} {i : Nat} (h : p i = true) : cnt p (i + 1) = cnt p i + 1 := by simp [cnt, h]
theorem cnt_f {p : Nat → Bool} {i : Nat} (h : p i = false) : cnt p (i + 1) = cnt p i := by simp [cnt, h]
/-- the least number below n with p -/
def fnd (p : Nat → Bool) : Nat → Option Nat
  | 0 => none
  | n + 1 => match fnd p n with
    | some i => some i
    | none => if p n = true then some n else none
theorem fnd_lt {p : Nat → Bool} : ∀ {n i : Nat}, fnd p n = some i → i < n ∧ p i = true
  | 0, i, h => by cases h
  | n + 1, i, h => by
    unfold fnd at h
    split at h
    · next j e =>
      cases h
      have := fnd_lt e
      exact ⟨by omega, this.2⟩
    · split at h
      · next e =>
        cases h
        exact ⟨by omega, e⟩
      · cases h
theorem fnd_no {p : Nat → Bool} : ∀ {n : Nat}, fnd p n = none → ∀ i, i < n → p i = false
  | 0, _, i, hi => absurd hi (Nat.not_lt_zero i)
  | n + 1, h, i, hi => by
    unfold fnd at h
    split at h
    · cases h
    · next e =>
      split at h
      · cases h
      · next e2 =>
        rcases Nat.lt_succ_iff_lt_or_eq.mp hi with hi | rfl
        · exact fnd_no e i hi
        · simpa using e2
theorem fnd_none {p : Nat → Bool} : ∀ {n : Nat}, (∀ i, i < n → p i = false) → fnd p n = none
  | 0, _ => rfl
  | n + 1, h => by
    unfold fnd
    rw [fnd_none (fun i hi => h i (by omega))]
    simp [h n (by omega)]
theorem fnd_first {p : Nat → Bool} {i : Nat} (hp : p i = true) (h0 : ∀ j, j < i → p j = false) : ∀ {n : Nat}, i < n → fnd p n = some i
  | 0, h => absurd h (Nat.not_lt_zero i)
  | n + 1, h => by
    unfold fnd
    rcases Nat.lt_succ_iff_lt_or_eq.mp h with h | rfl
    · rw [fnd_first hp h0 h]
    · rw [fnd_none h0]
      simp [hp]
theorem oB_fnd {p : Nat → Bool} {n : Nat} (hn : n ≤ 10) : oB (fnd p n) := fun g hg => by
  have := (fnd_lt hg).1
  omega
def s_go (S : GS) (f : Nat) : Bool := (s_pl S f).isSome
theorem go_t {S : GS} {f : Nat} (h : s_pl S f ≠ none) : s_go S f = true := by
  unfold s_go
  cases e : s_pl S f with
  | none => exact absurd e h
  | some g => rfl
theorem go_f {S : GS} {f : Nat} (h : s_pl S f = none) : s_go S f = false := by
  unfold s_go
  rw [h]
  rfl
theorem l_X3_countGoing {d : Nat} {S : GS} {N : Mem} {K : Mej} (R : RX S N K) (w : WF S) : ∀ k i : Nat, i + k = s_n S → EK d mX3_countGoing (PX (some (.int (nI (cnt (s_go S) (s_n S))))) N K) 4 [(0, .ref 0), (1, .int (nI (cnt (s_go S) i))), (2, .int (nI i))] [] N K
  | 0, i, h => by
    obtain rfl : i = s_n S := by omega
    have hn := w.1.1
    have h0 := R.1.1
    refine K_iload_n dX3_countGoing_4 rfl rfl ?_
    refine K_aload_n dX3_countGoing_5 rfl rfl ?_
    refine K_getI dX3_countGoing_6 fl_X3_42 (by first | rfl | exact sk_rk (by omega) | exact sk_hh (by omega)) rfl (by first | assumption | rfl) rfl ?_
    refine K_icmp_geN (tgt := 31) dX3_countGoing_9 (by decide) rfl (by first | omega | fail) (by first | omega | fail) (fun c9 => ?_) (fun c9 => ?_)
    · refine K_iload_n dX3_countGoing_31 rfl rfl ?_
      refine K_iret dX3_countGoing_32 rfl ?_
      exact ⟨rfl, rfl, rfl⟩
    · omega
  | k + 1, i, h => by
    have ih := l_X3_countGoing (d := d) R w k (i + 1) (by omega)
    have hn := w.1.1
    have h0 := R.1.1
    have hp := R.2.2.2.1 i (by omega)
    have hob := w.plb (f := i) (by omega)
    refine K_iload_n dX3_countGoing_4 rfl rfl ?_
    refine K_aload_n dX3_countGoing_5 rfl rfl ?_
    refine K_getI dX3_countGoing_6 fl_X3_42 (by first | rfl | exact sk_rk (by omega) | exact sk_hh (by omega)) rfl (by first | assumption | rfl) rfl ?_
    refine K_icmp_geN (tgt := 31) dX3_countGoing_9 (by decide) rfl (by first | omega | fail) (by first | omega | fail) (fun c9 => ?_) (fun c9 => ?_)
    · omega
    · refine K_aload_n dX3_countGoing_12 rfl rfl ?_
      refine K_getR (r := 2) dX3_countGoing_13 fl_X3_15 rfl rfl rfl rfl ?_
      refine K_iload_n dX3_countGoing_16 rfl rfl ?_
      refine K_iald dX3_countGoing_17 (by first | rfl | exact sk_rk (by omega) | exact sk_hh (by omega)) (by first | omega | fail) (by decide) (by first | assumption | rfl) rfl ?_
      refine K_iconst (v := (-1)) dX3_countGoing_18 (by decide) rfl ?_
      refine K_icmp_eqO (tgt := 25) dX3_countGoing_19 (by decide) rfl (by first | assumption | fail) (fun c19 => ?_) (fun c19 => ?_)
      · first | refine K_incN (lv' := [(0, _), (1, _), (2, _)]) dX3_countGoing_25 rfl (by decide) rfl rfl ?_ | refine K_iinc (lv' := [(0, _), (1, _), (2, _)]) dX3_countGoing_25 rfl rfl (by decide) rfl rfl ?_
        refine K_goto (tgt := 4) dX3_countGoing_28 (by decide) ?_
        first | (rw [cnt_f (go_f c19)] at ih; exact ih) | (rw [cnt_t (go_t c19)] at ih; exact ih)
      · first | refine K_incN (lv' := [(0, _), (1, _), (2, _)]) dX3_countGoing_22 rfl (by decide) rfl rfl ?_ | refine K_iinc (lv' := [(0, _), (1, _), (2, _)]) dX3_countGoing_22 rfl rfl (by decide) rfl rfl ?_
        first | refine K_incN (lv' := [(0, _), (1, _), (2, _)]) dX3_countGoing_25 rfl (by decide) rfl rfl ?_ | refine K_iinc (lv' := [(0, _), (1, _), (2, _)]) dX3_countGoing_25 rfl rfl (by decide) rfl rfl ?_
        refine K_goto (tgt := 4) dX3_countGoing_28 (by decide) ?_
        first | (rw [cnt_f (go_f c19)] at ih; exact ih) | (rw [cnt_t (go_t c19)] at ih; exact ih)
set_option maxRecDepth 100000 in
theorem c_X3_countGoing {d : Nat} {S : GS} {N : Mem} {K : Mej} (R : RX S N K) (w : WF S) : CK d mX3_countGoing [.ref 0] N K (PX (some (.int (nI (cnt (s_go S) (s_n S))))) N K) := by
  refine CK.start [(0, _)] (plainFor_of_name (by decide)) (Nat.le_of_ble_eq_true rfl) rfl ?_
  refine K_iconst (v := nI 0) dX3_countGoing_0 (by decide) rfl ?_
  refine K_istore_n (lv' := [(0, _), (1, _)]) dX3_countGoing_1 (by decide) rfl rfl ?_
  refine K_iconst (v := nI 0) dX3_countGoing_2 (by decide) rfl ?_
  refine K_istore_n (lv' := [(0, _), (1, _), (2, _)]) dX3_countGoing_3 (by decide) rfl rfl ?_
  exact l_X3_countGoing R w (s_n S) 0 (by omega)
theorem l_X3_countPresent {d : Nat} {S : GS} {N : Mem} {K : Mej} (R : RX S N K) (w : WF S) : ∀ k i : Nat, i + k = s_n S → EK d mX3_countPresent (PX (some (.int (nI (cnt (s_pr S) (s_n S))))) N K) 4 [(0, .ref 0), (1, .int (nI (cnt (s_pr S) i))), (2, .int (nI i))] [] N K
  | 0, i, h => by
    obtain rfl : i = s_n S := by omega
    have hn := w.1.1
    have h0 := R.1.1
    refine K_iload_n dX3_countPresent_4 rfl rfl ?_
    refine K_aload_n dX3_countPresent_5 rfl rfl ?_
    refine K_getI dX3_countPresent_6 fl_X3_42 (by first | rfl | exact sk_rk (by omega) | exact sk_hh (by omega)) rfl (by first | assumption | rfl) rfl ?_
    refine K_icmp_geN (tgt := 33) dX3_countPresent_9 (by decide) rfl (by first | omega | fail) (by first | omega | fail) (fun c9 => ?_) (fun c9 => ?_)
    · refine K_iload_n dX3_countPresent_33 rfl rfl ?_
      refine K_iret dX3_countPresent_34 rfl ?_
      exact ⟨rfl, rfl, rfl⟩
    · omega
  | k + 1, i, h => by
    have ih := l_X3_countPresent (d := d) R w k (i + 1) (by omega)
    have hn := w.1.1
    have h0 := R.1.1
    have hp := (R.2.1 i (by omega)).2.2.2.2.2.1
    refine K_iload_n dX3_countPresent_4 rfl rfl ?_
    refine K_aload_n dX3_countPresent_5 rfl rfl ?_
    refine K_getI dX3_countPresent_6 fl_X3_42 (by first | rfl | exact sk_rk (by omega) | exact sk_hh (by omega)) rfl (by first | assumption | rfl) rfl ?_
    refine K_icmp_geN (tgt := 33) dX3_countPresent_9 (by decide) rfl (by first | omega | fail) (by first | omega | fail) (fun c9 => ?_) (fun c9 => ?_)
    · omega
    · refine K_aload_n dX3_countPresent_12 rfl rfl ?_
      refine K_getR (r := 1) dX3_countPresent_13 fl_X3_11 rfl rfl rfl rfl ?_
      refine K_iload_n dX3_countPresent_16 rfl rfl ?_
      refine K_hh dX3_countPresent_17 (by first | omega | fail) rfl ?_
      refine K_getI dX3_countPresent_18 fl_X3_114 (by first | rfl | exact sk_rk (by omega) | exact sk_hh (by omega)) rfl (by first | assumption | rfl) rfl ?_
      refine K_if_eqB (tgt := 27) dX3_countPresent_21 (by decide) rfl (fun c21 => ?_) (fun c21 => ?_)
      · first | refine K_incN (lv' := [(0, _), (1, _), (2, _)]) dX3_countPresent_27 rfl (by decide) rfl rfl ?_ | refine K_iinc (lv' := [(0, _), (1, _), (2, _)]) dX3_countPresent_27 rfl rfl (by decide) rfl rfl ?_
        refine K_goto (tgt := 4) dX3_countPresent_30 (by decide) ?_
        first | (rw [cnt_f c21] at ih; exact ih) | (rw [cnt_t c21] at ih; exact ih)
      · first | refine K_incN (lv' := [(0, _), (1, _), (2, _)]) dX3_countPresent_24 rfl (by decide) rfl rfl ?_ | refine K_iinc (lv' := [(0, _), (1, _), (2, _)]) dX3_countPresent_24 rfl rfl (by decide) rfl rfl ?_
        first | refine K_incN (lv' := [(0, _), (1, _), (2, _)]) dX3_countPresent_27 rfl (by decide) rfl rfl ?_ | refine K_iinc (lv' := [(0, _), (1, _), (2, _)]) dX3_countPresent_27 rfl rfl (by decide) rfl rfl ?_
        refine K_goto (tgt := 4) dX3_countPresent_30 (by decide) ?_
        first | (rw [cnt_f c21] at ih; exact ih) | (rw [cnt_t c21] at ih; exact ih)
set_option maxRecDepth 100000 in
theorem c_X3_countPresent {d : Nat} {S : GS} {N : Mem} {K : Mej} (R : RX S N K) (w : WF S) : CK d mX3_countPresent [.ref 0] N K (PX (some (.int (nI (cnt (s_pr S) (s_n S))))) N K) := by
  refine CK.start [(0, _)] (plainFor_of_name (by decide)) (Nat.le_of_ble_eq_true rfl) rfl ?_
  refine K_iconst (v := nI 0) dX3_countPresent_0 (by decide) rfl ?_
  refine K_istore_n (lv' := [(0, _), (1, _)]) dX3_countPresent_1 (by decide) rfl rfl ?_
  refine K_iconst (v := nI 0) dX3_countPresent_2 (by decide) rfl ?_
  refine K_istore_n (lv' := [(0, _), (1, _), (2, _)]) dX3_countPresent_3 (by decide) rfl rfl ?_
  exact l_X3_countPresent R w (s_n S) 0 (by omega)
theorem l_X3_countTaken {d : Nat} (hd : 4 ≤ d) {S : GS} {N : Mem} {K : Mej} (R : RX S N K) (w : WF S) {f : Nat} (hf : f < s_n S) : ∀ k i : Nat, i + k = s_n S → EK d mX3_countTaken (PX (some (.int (nI (cnt (s_tk S f) (s_n S))))) N K) 4 [(0, .ref 0), (1, .int (nI f)), (2, .int (nI (cnt (s_tk S f) i))), (3, .int (nI i))] [] N K
  | 0, i, h => by
    obtain rfl : i = s_n S := by omega
    have hn := w.1.1
    have h0 := R.1.1
    refine K_iload_n dX3_countTaken_4 rfl rfl ?_
    refine K_aload_n dX3_countTaken_5 rfl rfl ?_
    refine K_getI dX3_countTaken_6 fl_X3_42 (by first | rfl | exact sk_rk (by omega) | exact sk_hh (by omega)) rfl (by first | assumption | rfl) rfl ?_
    refine K_icmp_geN (tgt := 30) dX3_countTaken_9 (by decide) rfl (by first | omega | fail) (by first | omega | fail) (fun c9 => ?_) (fun c9 => ?_)
    · refine K_iload_n dX3_countTaken_30 rfl rfl ?_
      refine K_iret dX3_countTaken_31 rfl ?_
      exact ⟨rfl, rfl, rfl⟩
    · omega
  | k + 1, i, h => by
    have ih := l_X3_countTaken hd R w hf k (i + 1) (by omega)
    have hn := w.1.1
    have h0 := R.1.1
    refine K_iload_n dX3_countTaken_4 rfl rfl ?_
    refine K_aload_n dX3_countTaken_5 rfl rfl ?_
    refine K_getI dX3_countTaken_6 fl_X3_42 (by first | rfl | exact sk_rk (by omega) | exact sk_hh (by omega)) rfl (by first | assumption | rfl) rfl ?_
    refine K_icmp_geN (tgt := 30) dX3_countTaken_9 (by decide) rfl (by first | omega | fail) (by first | omega | fail) (fun c9 => ?_) (fun c9 => ?_)
    · omega
    · refine K_aload_n dX3_countTaken_12 rfl rfl ?_
      refine K_iload_n dX3_countTaken_13 rfl rfl ?_
      refine K_iload_n dX3_countTaken_14 rfl rfl ?_
      refine K_cv (ci := 3) (d1 := d - 1) [_, _] dX3_countTaken_15 ml_X3_188 (by decide) rfl rfl rfl (Nat.le_of_ble_eq_true rfl) (c_X3_takes (by omega) R w hf (by omega)) (by omega) rfl ?_
      refine K_if_eqB (tgt := 24) dX3_countTaken_18 (by decide) rfl (fun c18 => ?_) (fun c18 => ?_)
      · first | refine K_incN (lv' := [(0, _), (1, _), (2, _), (3, _)]) dX3_countTaken_24 rfl (by decide) rfl rfl ?_ | refine K_iinc (lv' := [(0, _), (1, _), (2, _), (3, _)]) dX3_countTaken_24 rfl rfl (by decide) rfl rfl ?_
        refine K_goto (tgt := 4) dX3_countTaken_27 (by decide) ?_
        first | (rw [cnt_f c18] at ih; exact ih) | (rw [cnt_t c18] at ih; exact ih)
      · first | refine K_incN (lv' := [(0, _), (1, _), (2, _), (3, _)]) dX3_countTaken_21 rfl (by decide) rfl rfl ?_ | refine K_iinc (lv' := [(0, _), (1, _), (2, _), (3, _)]) dX3_countTaken_21 rfl rfl (by decide) rfl rfl ?_
        first | refine K_incN (lv' := [(0, _), (1, _), (2, _), (3, _)]) dX3_countTaken_24 rfl (by decide) rfl rfl ?_ | refine K_iinc (lv' := [(0, _), (1, _), (2, _), (3, _)]) dX3_countTaken_24 rfl rfl (by decide) rfl rfl ?_
        refine K_goto (tgt := 4) dX3_countTaken_27 (by decide) ?_
        first | (rw [cnt_f c18] at ih; exact ih) | (rw [cnt_t c18] at ih; exact ih)
set_option maxRecDepth 100000 in
theorem c_X3_countTaken {d : Nat} (hd : 4 ≤ d) {S : GS} {N : Mem} {K : Mej} (R : RX S N K) (w : WF S) {f : Nat} (hf : f < s_n S) : CK d mX3_countTaken [.ref 0, .int (nI f)] N K (PX (some (.int (nI (cnt (s_tk S f) (s_n S))))) N K) := by
  refine CK.start [(0, _), (1, _)] (plainFor_of_name (by decide)) (Nat.le_of_ble_eq_true rfl) rfl ?_
  refine K_iconst (v := nI 0) dX3_countTaken_0 (by decide) rfl ?_
  refine K_istore_n (lv' := [(0, _), (1, _), (2, _)]) dX3_countTaken_1 (by decide) rfl rfl ?_
  refine K_iconst (v := nI 0) dX3_countTaken_2 (by decide) rfl ?_
  refine K_istore_n (lv' := [(0, _), (1, _), (2, _), (3, _)]) dX3_countTaken_3 (by decide) rfl rfl ?_
  exact l_X3_countTaken hd R w hf (s_n S) 0 (by omega)
/-- a family's own rank of where it goes -/
def s_pk (S : GS) (f : Nat) : Nat := match s_pl S f with
  | none => 0
  | some g => s_rk S f g
def sumF (h : Nat → Nat) : Nat → Nat
  | 0 => 0
  | n + 1 => sumF h n + h n
theorem sumF_s (h : Nat → Nat) (i : Nat) : sumF h (i + 1) = sumF h i + h i := rfl
theorem c_pk {d : Nat} {S : GS} {N : Mem} {K : Mej} (R : RX S N K) (w : WF S) {f : Nat} (hf : f < 10) : CK d mX3_planRank [.ref 0, .int (nI f)] N K (PX (some (.int (nI (s_pk S f)))) N K) := c_X3_planRank R w hf
theorem l_X3_sumOfRanks {d : Nat} (hd : 1 ≤ d) {S : GS} {N : Mem} {K : Mej} (R : RX S N K) (w : WF S) : ∀ k i : Nat, i + k = s_n S → EK d mX3_sumOfRanks (PX (some (.int (nI (sumF (s_pk S) (s_n S))))) N K) 4 [(0, .ref 0), (1, .int (nI (sumF (s_pk S) i))), (2, .int (nI i))] [] N K
  | 0, i, h => by
    obtain rfl : i = s_n S := by omega
    have hn := w.1.1
    have h0 := R.1.1
    refine K_iload_n dX3_sumOfRanks_4 rfl rfl ?_
    refine K_aload_n dX3_sumOfRanks_5 rfl rfl ?_
    refine K_getI dX3_sumOfRanks_6 fl_X3_42 (by first | rfl | exact sk_rk (by omega) | exact sk_hh (by omega)) rfl (by first | assumption | rfl) rfl ?_
    refine K_icmp_geN (tgt := 26) dX3_sumOfRanks_9 (by decide) rfl (by first | omega | fail) (by first | omega | fail) (fun c9 => ?_) (fun c9 => ?_)
    · refine K_iload_n dX3_sumOfRanks_26 rfl rfl ?_
      refine K_iret dX3_sumOfRanks_27 rfl ?_
      exact ⟨rfl, rfl, rfl⟩
    · omega
  | k + 1, i, h => by
    have ih := l_X3_sumOfRanks hd R w k (i + 1) (by omega)
    have hn := w.1.1
    have h0 := R.1.1
    refine K_iload_n dX3_sumOfRanks_4 rfl rfl ?_
    refine K_aload_n dX3_sumOfRanks_5 rfl rfl ?_
    refine K_getI dX3_sumOfRanks_6 fl_X3_42 (by first | rfl | exact sk_rk (by omega) | exact sk_hh (by omega)) rfl (by first | assumption | rfl) rfl ?_
    refine K_icmp_geN (tgt := 26) dX3_sumOfRanks_9 (by decide) rfl (by first | omega | fail) (by first | omega | fail) (fun c9 => ?_) (fun c9 => ?_)
    · omega
    · refine K_iload_n dX3_sumOfRanks_12 rfl rfl ?_
      refine K_aload_n dX3_sumOfRanks_13 rfl rfl ?_
      refine K_iload_n dX3_sumOfRanks_14 rfl rfl ?_
      refine K_cv (ci := 3) (d1 := d - 1) [_] dX3_sumOfRanks_15 ml_X3_241 (by decide) rfl rfl rfl (Nat.le_of_ble_eq_true rfl) (c_pk R w (by omega)) (by omega) rfl ?_
      refine K_addN dX3_sumOfRanks_18 rfl ?_
      refine K_istore_n (lv' := [(0, _), (1, _), (2, _)]) dX3_sumOfRanks_19 (by decide) rfl rfl ?_
      first | refine K_incN (lv' := [(0, _), (1, _), (2, _)]) dX3_sumOfRanks_20 rfl (by decide) rfl rfl ?_ | refine K_iinc (lv' := [(0, _), (1, _), (2, _)]) dX3_sumOfRanks_20 rfl rfl (by decide) rfl rfl ?_
      refine K_goto (tgt := 4) dX3_sumOfRanks_23 (by decide) ?_
      rw [sumF_s] at ih
      exact ih
set_option maxRecDepth 100000 in
theorem c_X3_sumOfRanks {d : Nat} (hd : 1 ≤ d) {S : GS} {N : Mem} {K : Mej} (R : RX S N K) (w : WF S) : CK d mX3_sumOfRanks [.ref 0] N K (PX (some (.int (nI (sumF (s_pk S) (s_n S))))) N K) := by
  refine CK.start [(0, _)] (plainFor_of_name (by decide)) (Nat.le_of_ble_eq_true rfl) rfl ?_
  refine K_iconst (v := nI 0) dX3_sumOfRanks_0 (by decide) rfl ?_
  refine K_istore_n (lv' := [(0, _), (1, _)]) dX3_sumOfRanks_1 (by decide) rfl rfl ?_
  refine K_iconst (v := nI 0) dX3_sumOfRanks_2 (by decide) rfl ?_
  refine K_istore_n (lv' := [(0, _), (1, _), (2, _)]) dX3_sumOfRanks_3 (by decide) rfl rfl ?_
  exact l_X3_sumOfRanks hd R w (s_n S) 0 (by omega)
/-- the first guest of a home -/
def s_gu (S : GS) (h : Nat) : Option Nat := fnd (fun f => decide (s_pl S f = some h)) (s_n S)
theorem l_X3_firstGuest {d : Nat} {S : GS} {N : Mem} {K : Mej} (R : RX S N K) (w : WF S) {h : Nat} (hh : h < 10) : ∀ k i : Nat, i + k = s_n S → (∀ j, j < i → s_pl S j ≠ some h) → EK d mX3_firstGuest (PX (some (.int (oI (s_gu S h)))) N K) 2 [(0, .ref 0), (1, .int (nI h)), (2, .int (nI i))] [] N K
  | 0, i, e, hq => by
    obtain rfl : i = s_n S := by omega
    have hn := w.1.1
    have h0 := R.1.1
    refine K_iload_n dX3_firstGuest_2 rfl rfl ?_
    refine K_aload_n dX3_firstGuest_3 rfl rfl ?_
    refine K_getI dX3_firstGuest_4 fl_X3_42 (by first | rfl | exact sk_rk (by omega) | exact sk_hh (by omega)) rfl (by first | assumption | rfl) rfl ?_
    refine K_icmp_geN (tgt := 28) dX3_firstGuest_7 (by decide) rfl (by first | omega | fail) (by first | omega | fail) (fun c7 => ?_) (fun c7 => ?_)
    · refine K_iconst (v := (-1)) dX3_firstGuest_28 (by decide) rfl ?_
      refine K_iret dX3_firstGuest_29 rfl ?_
      refine ⟨?_, rfl, rfl⟩
      rw [s_gu, fnd_none (fun j hj => decide_eq_false (hq j hj))]
      rfl
    · omega
  | k + 1, i, e, hq => by
    have ih := l_X3_firstGuest (d := d) R w hh k (i + 1) (by omega)
    have hn := w.1.1
    have h0 := R.1.1
    have hp := R.2.2.2.1 i (by omega)
    have hob := w.plb (f := i) (by omega)
    refine K_iload_n dX3_firstGuest_2 rfl rfl ?_
    refine K_aload_n dX3_firstGuest_3 rfl rfl ?_
    refine K_getI dX3_firstGuest_4 fl_X3_42 (by first | rfl | exact sk_rk (by omega) | exact sk_hh (by omega)) rfl (by first | assumption | rfl) rfl ?_
    refine K_icmp_geN (tgt := 28) dX3_firstGuest_7 (by decide) rfl (by first | omega | fail) (by first | omega | fail) (fun c7 => ?_) (fun c7 => ?_)
    · omega
    · refine K_aload_n dX3_firstGuest_10 rfl rfl ?_
      refine K_getR (r := 2) dX3_firstGuest_11 fl_X3_15 rfl rfl rfl rfl ?_
      refine K_iload_n dX3_firstGuest_14 rfl rfl ?_
      refine K_iald dX3_firstGuest_15 (by first | rfl | exact sk_rk (by omega) | exact sk_hh (by omega)) (by first | omega | fail) (by decide) (by first | assumption | rfl) rfl ?_
      refine K_iload_n dX3_firstGuest_16 rfl rfl ?_
      refine K_icmp_neON (tgt := 22) dX3_firstGuest_17 (by decide) rfl (by first | assumption | fail) (by first | omega | fail) (fun c17 => ?_) (fun c17 => ?_)
      · first | refine K_incN (lv' := [(0, _), (1, _), (2, _)]) dX3_firstGuest_22 rfl (by decide) rfl rfl ?_ | refine K_iinc (lv' := [(0, _), (1, _), (2, _)]) dX3_firstGuest_22 rfl rfl (by decide) rfl rfl ?_
        refine K_goto (tgt := 2) dX3_firstGuest_25 (by decide) ?_
        exact ih (fun j hj => by rcases Nat.lt_succ_iff_lt_or_eq.mp hj with hj | rfl; exact hq j hj; exact c17)
      · refine K_iload_n dX3_firstGuest_20 rfl rfl ?_
        refine K_iret dX3_firstGuest_21 rfl ?_
        refine ⟨?_, rfl, rfl⟩
        rw [s_gu, fnd_first (i := i) (decide_eq_true c17) (fun j hj => decide_eq_false (hq j hj)) (by omega)]
        rfl
set_option maxRecDepth 100000 in
theorem c_X3_firstGuest {d : Nat} {S : GS} {N : Mem} {K : Mej} (R : RX S N K) (w : WF S) {h : Nat} (hh : h < 10) : CK d mX3_firstGuest [.ref 0, .int (nI h)] N K (PX (some (.int (oI (s_gu S h)))) N K) := by
  refine CK.start [(0, _), (1, _)] (plainFor_of_name (by decide)) (Nat.le_of_ble_eq_true rfl) rfl ?_
  refine K_iconst (v := nI 0) dX3_firstGuest_0 (by decide) rfl ?_
  refine K_istore_n (lv' := [(0, _), (1, _), (2, _)]) dX3_firstGuest_1 (by decide) rfl rfl ?_
  exact l_X3_firstGuest R w hh (s_n S) 0 (by omega) (fun j hj => absurd hj (Nat.not_lt_zero j))
def s_lk (S : GS) (f g : Nat) : Bool := decide (s_pk S f = 0 ∨ s_rk S f g < s_pk S f)
theorem WF.pk9 {S : GS} (w : WF S) {f : Nat} (hf : f < 10) : s_pk S f ≤ 9 := by
  unfold s_pk
  split
  · omega
  · exact w.rk9 hf _
set_option maxRecDepth 100000 in
theorem c_X3_isLiked {d : Nat} (hd : 1 ≤ d) {S : GS} {N : Mem} {K : Mej} (R : RX S N K) (w : WF S) {f g : Nat} (hf : f < 10) (hg : g < 10) : CK d mX3_isLiked [.ref 0, .int (nI f), .int (nI g)] N K (PX (some (.int (bI (s_lk S f g)))) N K) := by
  have hr := R.2.2.1 f g hf hg
  have h9 := w.rk9 hf g
  have hp9 := w.pk9 hf
  have hpk : CK (d - 1) mX3_planRank [.ref 0, .int (nI f)] N K (PX (some (.int (nI (s_pk S f)))) N K) := c_pk R w hf
  refine CK.start [(0, _), (1, _), (2, _)] (plainFor_of_name (by decide)) (Nat.le_of_ble_eq_true rfl) rfl ?_
  refine K_aload_n dX3_isLiked_0 rfl rfl ?_
  refine K_iload_n dX3_isLiked_1 rfl rfl ?_
  refine K_cv (ci := 3) (d1 := d - 1) [_] dX3_isLiked_2 ml_X3_241 (by decide) rfl rfl rfl (Nat.le_of_ble_eq_true rfl) hpk (by omega) rfl ?_
  refine K_istore_n (lv' := [(0, _), (1, _), (2, _), (3, _)]) dX3_isLiked_5 (by decide) rfl rfl ?_
  refine K_iload_n dX3_isLiked_6 rfl rfl ?_
  refine K_if_eqN (tgt := 25) dX3_isLiked_7 (by decide) rfl (by first | omega | fail) (fun c7 => ?_) (fun c7 => ?_)
  · refine K_iconst (v := nI 1) dX3_isLiked_25 (by decide) rfl ?_
    refine K_goto (tgt := 30) dX3_isLiked_26 (by decide) ?_
    refine K_zret dX3_isLiked_30 rfl (by first | rfl | exact bI_nar _) ?_
    refine ⟨?_, rfl, rfl⟩
    first | (rw [s_lk, decide_eq_true (Or.inl c7)]; rfl) | (rw [s_lk, decide_eq_true (Or.inr c22)]; rfl) | (rw [s_lk, decide_eq_false (by omega)]; rfl)
  · refine K_aload_n dX3_isLiked_10 rfl rfl ?_
    refine K_getR (r := 1) dX3_isLiked_11 fl_X3_11 rfl rfl rfl rfl ?_
    refine K_iload_n dX3_isLiked_14 rfl rfl ?_
    refine K_hh dX3_isLiked_15 (by first | omega | fail) rfl ?_
    refine K_rk dX3_isLiked_16 fl_X3_155 (by first | omega | fail) rfl ?_
    refine K_iload_n dX3_isLiked_19 rfl rfl ?_
    refine K_iald dX3_isLiked_20 (by first | rfl | exact sk_rk (by omega) | exact sk_hh (by omega)) (by first | omega | fail) (by decide) (by first | assumption | rfl) rfl ?_
    refine K_iload_n dX3_isLiked_21 rfl rfl ?_
    refine K_icmp_geN (tgt := 29) dX3_isLiked_22 (by decide) rfl (by first | omega | fail) (by first | omega | fail) (fun c22 => ?_) (fun c22 => ?_)
    · refine K_iconst (v := nI 0) dX3_isLiked_29 (by decide) rfl ?_
      refine K_zret dX3_isLiked_30 rfl (by first | rfl | exact bI_nar _) ?_
      refine ⟨?_, rfl, rfl⟩
      first | (rw [s_lk, decide_eq_true (Or.inl c7)]; rfl) | (rw [s_lk, decide_eq_true (Or.inr c22)]; rfl) | (rw [s_lk, decide_eq_false (by omega)]; rfl)
    · refine K_iconst (v := nI 1) dX3_isLiked_25 (by decide) rfl ?_
      refine K_goto (tgt := 30) dX3_isLiked_26 (by decide) ?_
      refine K_zret dX3_isLiked_30 rfl (by first | rfl | exact bI_nar _) ?_
      refine ⟨?_, rfl, rfl⟩
      first | (rw [s_lk, decide_eq_true (Or.inl c7)]; rfl) | (rw [s_lk, decide_eq_true (Or.inr c22)]; rfl) | (rw [s_lk, decide_eq_false (by omega)]; rfl)
def s_rv (S : GS) (f : Nat) : Bool := (fnd (fun g => decide (g ≠ f ∧ s_pl S g = s_pl S f)) (s_n S)).isSome
theorem l_X3_hasRival {d : Nat} {S : GS} {N : Mem} {K : Mej} (R : RX S N K) (w : WF S) {f : Nat} (hf : f < 10) : ∀ k i : Nat, i + k = s_n S → (∀ j, j < i → ¬ (j ≠ f ∧ s_pl S j = s_pl S f)) → EK d mX3_hasRival (PX (some (.int (bI (s_rv S f)))) N K) 2 [(0, .ref 0), (1, .int (nI f)), (2, .int (nI i))] [] N K
  | 0, i, e, hq => by
    obtain rfl : i = s_n S := by omega
    have hn := w.1.1
    have h0 := R.1.1
    refine K_iload_n dX3_hasRival_2 rfl rfl ?_
    refine K_aload_n dX3_hasRival_3 rfl rfl ?_
    refine K_getI dX3_hasRival_4 fl_X3_42 (by first | rfl | exact sk_rk (by omega) | exact sk_hh (by omega)) rfl (by first | assumption | rfl) rfl ?_
    refine K_icmp_geN (tgt := 38) dX3_hasRival_7 (by decide) rfl (by first | omega | fail) (by first | omega | fail) (fun c7 => ?_) (fun c7 => ?_)
    · refine K_iconst (v := nI 0) dX3_hasRival_38 (by decide) rfl ?_
      refine K_zret dX3_hasRival_39 rfl (by first | rfl | exact bI_nar _) ?_
      refine ⟨?_, rfl, rfl⟩
      rw [s_rv, fnd_none (fun j hj => decide_eq_false (hq j hj))]
      rfl
    · omega
  | k + 1, i, e, hq => by
    have ih := l_X3_hasRival (d := d) R w hf k (i + 1) (by omega)
    have hn := w.1.1
    have h0 := R.1.1
    have hp := R.2.2.2.1 i (by omega)
    have hob := w.plb (f := i) (by omega)
    have hpf := R.2.2.2.1 f hf
    have hobf := w.plb hf
    refine K_iload_n dX3_hasRival_2 rfl rfl ?_
    refine K_aload_n dX3_hasRival_3 rfl rfl ?_
    refine K_getI dX3_hasRival_4 fl_X3_42 (by first | rfl | exact sk_rk (by omega) | exact sk_hh (by omega)) rfl (by first | assumption | rfl) rfl ?_
    refine K_icmp_geN (tgt := 38) dX3_hasRival_7 (by decide) rfl (by first | omega | fail) (by first | omega | fail) (fun c7 => ?_) (fun c7 => ?_)
    · omega
    · refine K_iload_n dX3_hasRival_10 rfl rfl ?_
      refine K_iload_n dX3_hasRival_11 rfl rfl ?_
      refine K_icmp_eqN (tgt := 32) dX3_hasRival_12 (by decide) rfl (by first | omega | fail) (by first | omega | fail) (fun c12 => ?_) (fun c12 => ?_)
      · first | refine K_incN (lv' := [(0, _), (1, _), (2, _)]) dX3_hasRival_32 rfl (by decide) rfl rfl ?_ | refine K_iinc (lv' := [(0, _), (1, _), (2, _)]) dX3_hasRival_32 rfl rfl (by decide) rfl rfl ?_
        refine K_goto (tgt := 2) dX3_hasRival_35 (by decide) ?_
        refine ih (fun j hj => ?_)
        rcases Nat.lt_succ_iff_lt_or_eq.mp hj with hj | rfl
        · exact hq j hj
        · first | exact fun h => c27 h.2 | exact fun h => h.1 c12
      · refine K_aload_n dX3_hasRival_15 rfl rfl ?_
        refine K_getR (r := 2) dX3_hasRival_16 fl_X3_15 rfl rfl rfl rfl ?_
        refine K_iload_n dX3_hasRival_19 rfl rfl ?_
        refine K_iald dX3_hasRival_20 (by first | rfl | exact sk_rk (by omega) | exact sk_hh (by omega)) (by first | omega | fail) (by decide) (by first | assumption | rfl) rfl ?_
        refine K_aload_n dX3_hasRival_21 rfl rfl ?_
        refine K_getR (r := 2) dX3_hasRival_22 fl_X3_15 rfl rfl rfl rfl ?_
        refine K_iload_n dX3_hasRival_25 rfl rfl ?_
        refine K_iald dX3_hasRival_26 (by first | rfl | exact sk_rk (by omega) | exact sk_hh (by omega)) (by first | omega | fail) (by decide) (by first | assumption | rfl) rfl ?_
        refine K_icmp_neOO (tgt := 32) dX3_hasRival_27 (by decide) rfl (by first | assumption | fail) (by first | assumption | fail) (fun c27 => ?_) (fun c27 => ?_)
        · first | refine K_incN (lv' := [(0, _), (1, _), (2, _)]) dX3_hasRival_32 rfl (by decide) rfl rfl ?_ | refine K_iinc (lv' := [(0, _), (1, _), (2, _)]) dX3_hasRival_32 rfl rfl (by decide) rfl rfl ?_
          refine K_goto (tgt := 2) dX3_hasRival_35 (by decide) ?_
          refine ih (fun j hj => ?_)
          rcases Nat.lt_succ_iff_lt_or_eq.mp hj with hj | rfl
          · exact hq j hj
          · first | exact fun h => c27 h.2 | exact fun h => h.1 c12
        · refine K_iconst (v := nI 1) dX3_hasRival_30 (by decide) rfl ?_
          refine K_zret dX3_hasRival_31 rfl (by first | rfl | exact bI_nar _) ?_
          refine ⟨?_, rfl, rfl⟩
          rw [s_rv, fnd_first (i := i) (decide_eq_true ⟨c12, c27⟩) (fun j hj => decide_eq_false (hq j hj)) (by omega)]
          rfl
set_option maxRecDepth 100000 in
theorem c_X3_hasRival {d : Nat} {S : GS} {N : Mem} {K : Mej} (R : RX S N K) (w : WF S) {f : Nat} (hf : f < 10) : CK d mX3_hasRival [.ref 0, .int (nI f)] N K (PX (some (.int (bI (s_rv S f)))) N K) := by
  refine CK.start [(0, _), (1, _)] (plainFor_of_name (by decide)) (Nat.le_of_ble_eq_true rfl) rfl ?_
  refine K_iconst (v := nI 0) dX3_hasRival_0 (by decide) rfl ?_
  refine K_istore_n (lv' := [(0, _), (1, _), (2, _)]) dX3_hasRival_1 (by decide) rfl rfl ?_
  exact l_X3_hasRival R w hf (s_n S) 0 (by omega) (fun j hj => absurd hj (Nat.not_lt_zero j))
end
section
def s_f1 (S : GS) (f : Nat) : Bool := match s_pl S f with
  | none => false
  | some g => !s_tk S f g
def s_f2 (S : GS) (f : Nat) : Bool := s_go S f && s_rv S f
def s_f3 (S : GS) (f : Nat) : Bool := !s_go S f && (s_gu S f).isSome
/-- what keeps the plan from closing -/
def s_fc (S : GS) : Nat := match fnd (s_f1 S) (s_n S) with
  | some f => 10 + f
  | none => match fnd (s_f2 S) (s_n S) with
    | some f => 20 + f
    | none => match fnd (s_f3 S) (s_n S) with
      | some f => 30 + f
      | none => 0
theorem below_s {p : Nat → Bool} {i : Nat} (h : ∀ j, j < i → p j = false) (hi : p i = false) : ∀ j, j < i + 1 → p j = false := fun j hj => by
  rcases Nat.lt_succ_iff_lt_or_eq.mp hj with hj | rfl
  · exact h j hj
  · exact hi
theorem l3_X3_faultOfClosing {d : Nat} (hd : 4 ≤ d) {S : GS} {N : Mem} {K : Mej} (R : RX S N K) (w : WF S) (z1 : fnd (s_f1 S) (s_n S) = none) (z2 : fnd (s_f2 S) (s_n S) = none) : ∀ k i : Nat, i + k = s_n S → (∀ j, j < i → s_f3 S j = false) → EK d mX3_faultOfClosing (PX (some (.int (nI (s_fc S)))) N K) 86 [(0, .ref 0), (1, .int (nI i))] [] N K
  | 0, i, e, hq => by
    obtain rfl : i = s_n S := by omega
    have hn := w.1.1
    have h0 := R.1.1
    refine K_iload_n dX3_faultOfClosing_86 rfl rfl ?_
    refine K_aload_n dX3_faultOfClosing_87 rfl rfl ?_
    refine K_getI dX3_faultOfClosing_88 fl_X3_42 (by first | rfl | exact sk_rk (by omega) | exact sk_hh (by omega)) rfl (by first | assumption | rfl) rfl ?_
    refine K_icmp_geN (tgt := 124) dX3_faultOfClosing_91 (by decide) rfl (by first | omega | fail) (by first | omega | fail) (fun c91 => ?_) (fun c91 => ?_)
    · refine K_iconst (v := nI 0) dX3_faultOfClosing_124 (by decide) rfl ?_
      refine K_iret dX3_faultOfClosing_125 rfl ?_
      refine ⟨?_, rfl, rfl⟩
      rw [s_fc, z1, z2, fnd_none hq]
    · omega
  | k + 1, i, e, hq => by
    have ih := l3_X3_faultOfClosing hd R w z1 z2 k (i + 1) (by omega)
    have hn := w.1.1
    have h0 := R.1.1
    have hp := R.2.2.2.1 i (by omega)
    have hob := w.plb (f := i) (by omega)
    have hog : oB (s_gu S i) := oB_fnd hn
    refine K_iload_n dX3_faultOfClosing_86 rfl rfl ?_
    refine K_aload_n dX3_faultOfClosing_87 rfl rfl ?_
    refine K_getI dX3_faultOfClosing_88 fl_X3_42 (by first | rfl | exact sk_rk (by omega) | exact sk_hh (by omega)) rfl (by first | assumption | rfl) rfl ?_
    refine K_icmp_geN (tgt := 124) dX3_faultOfClosing_91 (by decide) rfl (by first | omega | fail) (by first | omega | fail) (fun c91 => ?_) (fun c91 => ?_)
    · omega
    · refine K_aload_n dX3_faultOfClosing_94 rfl rfl ?_
      refine K_getR (r := 2) dX3_faultOfClosing_95 fl_X3_15 rfl rfl rfl rfl ?_
      refine K_iload_n dX3_faultOfClosing_98 rfl rfl ?_
      refine K_iald dX3_faultOfClosing_99 (by first | rfl | exact sk_rk (by omega) | exact sk_hh (by omega)) (by first | omega | fail) (by decide) (by first | assumption | rfl) rfl ?_
      refine K_iconst (v := (-1)) dX3_faultOfClosing_100 (by decide) rfl ?_
      refine K_icmp_neO (tgt := 118) dX3_faultOfClosing_101 (by decide) rfl (by first | assumption | fail) (fun c101 => ?_) (fun c101 => ?_)
      · first | refine K_incN (lv' := [(0, _), (1, _)]) dX3_faultOfClosing_118 rfl (by decide) rfl rfl ?_ | refine K_iinc (lv' := [(0, _), (1, _)]) dX3_faultOfClosing_118 rfl rfl (by decide) rfl rfl ?_
        refine K_goto (tgt := 86) dX3_faultOfClosing_121 (by decide) ?_
        first | exact ih (below_s hq (by simp only [s_f3, go_t c101]; rfl)) | exact ih (below_s hq (by simp only [s_f3, c110]; simp))
      · refine K_aload_n dX3_faultOfClosing_104 rfl rfl ?_
        refine K_iload_n dX3_faultOfClosing_105 rfl rfl ?_
        refine K_cv (ci := 3) (d1 := d - 1) [_] dX3_faultOfClosing_106 ml_X3_146 (by decide) rfl rfl rfl (Nat.le_of_ble_eq_true rfl) (c_X3_firstGuest R w (by omega)) (by omega) rfl ?_
        refine K_iconst (v := (-1)) dX3_faultOfClosing_109 (by decide) rfl ?_
        refine K_icmp_eqO (tgt := 118) dX3_faultOfClosing_110 (by decide) rfl (by first | assumption | fail) (fun c110 => ?_) (fun c110 => ?_)
        · first | refine K_incN (lv' := [(0, _), (1, _)]) dX3_faultOfClosing_118 rfl (by decide) rfl rfl ?_ | refine K_iinc (lv' := [(0, _), (1, _)]) dX3_faultOfClosing_118 rfl rfl (by decide) rfl rfl ?_
          refine K_goto (tgt := 86) dX3_faultOfClosing_121 (by decide) ?_
          first | exact ih (below_s hq (by simp only [s_f3, go_t c101]; rfl)) | exact ih (below_s hq (by simp only [s_f3, c110]; simp))
        · refine K_bipush (v := nI 30) dX3_faultOfClosing_113 (by decide) rfl ?_
          refine K_iload_n dX3_faultOfClosing_115 rfl rfl ?_
          refine K_addN dX3_faultOfClosing_116 rfl ?_
          refine K_iret dX3_faultOfClosing_117 rfl ?_
          refine ⟨?_, rfl, rfl⟩
          rw [s_fc, z1, z2, fnd_first (p := s_f3 S) (i := i) (by simp only [s_f3, go_f c101]; cases hg : s_gu S i with | none => exact absurd hg c110 | some z => rfl) hq (by omega)]
theorem l2_X3_faultOfClosing {d : Nat} (hd : 4 ≤ d) {S : GS} {N : Mem} {K : Mej} (R : RX S N K) (w : WF S) (z1 : fnd (s_f1 S) (s_n S) = none) : ∀ k i : Nat, i + k = s_n S → (∀ j, j < i → s_f2 S j = false) → EK d mX3_faultOfClosing (PX (some (.int (nI (s_fc S)))) N K) 47 [(0, .ref 0), (1, .int (nI i))] [] N K
  | 0, i, e, hq => by
    obtain rfl : i = s_n S := by omega
    have hn := w.1.1
    have h0 := R.1.1
    refine K_iload_n dX3_faultOfClosing_47 rfl rfl ?_
    refine K_aload_n dX3_faultOfClosing_48 rfl rfl ?_
    refine K_getI dX3_faultOfClosing_49 fl_X3_42 (by first | rfl | exact sk_rk (by omega) | exact sk_hh (by omega)) rfl (by first | assumption | rfl) rfl ?_
    refine K_icmp_geN (tgt := 84) dX3_faultOfClosing_52 (by decide) rfl (by first | omega | fail) (by first | omega | fail) (fun c52 => ?_) (fun c52 => ?_)
    · refine K_iconst (v := nI 0) dX3_faultOfClosing_84 (by decide) rfl ?_
      refine K_istore_n (lv' := [(0, _), (1, _)]) dX3_faultOfClosing_85 (by decide) rfl rfl ?_
      exact l3_X3_faultOfClosing hd R w z1 (fnd_none hq) (s_n S) 0 (by omega) (fun j hj => absurd hj (Nat.not_lt_zero j))
    · omega
  | k + 1, i, e, hq => by
    have ih := l2_X3_faultOfClosing hd R w z1 k (i + 1) (by omega)
    have hn := w.1.1
    have h0 := R.1.1
    have hp := R.2.2.2.1 i (by omega)
    have hob := w.plb (f := i) (by omega)
    refine K_iload_n dX3_faultOfClosing_47 rfl rfl ?_
    refine K_aload_n dX3_faultOfClosing_48 rfl rfl ?_
    refine K_getI dX3_faultOfClosing_49 fl_X3_42 (by first | rfl | exact sk_rk (by omega) | exact sk_hh (by omega)) rfl (by first | assumption | rfl) rfl ?_
    refine K_icmp_geN (tgt := 84) dX3_faultOfClosing_52 (by decide) rfl (by first | omega | fail) (by first | omega | fail) (fun c52 => ?_) (fun c52 => ?_)
    · omega
    · refine K_aload_n dX3_faultOfClosing_55 rfl rfl ?_
      refine K_getR (r := 2) dX3_faultOfClosing_56 fl_X3_15 rfl rfl rfl rfl ?_
      refine K_iload_n dX3_faultOfClosing_59 rfl rfl ?_
      refine K_iald dX3_faultOfClosing_60 (by first | rfl | exact sk_rk (by omega) | exact sk_hh (by omega)) (by first | omega | fail) (by decide) (by first | assumption | rfl) rfl ?_
      refine K_iconst (v := (-1)) dX3_faultOfClosing_61 (by decide) rfl ?_
      refine K_icmp_eqO (tgt := 78) dX3_faultOfClosing_62 (by decide) rfl (by first | assumption | fail) (fun c62 => ?_) (fun c62 => ?_)
      · first | refine K_incN (lv' := [(0, _), (1, _)]) dX3_faultOfClosing_78 rfl (by decide) rfl rfl ?_ | refine K_iinc (lv' := [(0, _), (1, _)]) dX3_faultOfClosing_78 rfl rfl (by decide) rfl rfl ?_
        refine K_goto (tgt := 47) dX3_faultOfClosing_81 (by decide) ?_
        first | exact ih (below_s hq (by simp only [s_f2, go_f c62]; rfl)) | exact ih (below_s hq (by simp only [s_f2, c70]; simp))
      · refine K_aload_n dX3_faultOfClosing_65 rfl rfl ?_
        refine K_iload_n dX3_faultOfClosing_66 rfl rfl ?_
        refine K_cv (ci := 3) (d1 := d - 1) [_] dX3_faultOfClosing_67 ml_X3_244 (by decide) rfl rfl rfl (Nat.le_of_ble_eq_true rfl) (c_X3_hasRival R w (by omega)) (by omega) rfl ?_
        refine K_if_eqB (tgt := 78) dX3_faultOfClosing_70 (by decide) rfl (fun c70 => ?_) (fun c70 => ?_)
        · first | refine K_incN (lv' := [(0, _), (1, _)]) dX3_faultOfClosing_78 rfl (by decide) rfl rfl ?_ | refine K_iinc (lv' := [(0, _), (1, _)]) dX3_faultOfClosing_78 rfl rfl (by decide) rfl rfl ?_
          refine K_goto (tgt := 47) dX3_faultOfClosing_81 (by decide) ?_
          first | exact ih (below_s hq (by simp only [s_f2, go_f c62]; rfl)) | exact ih (below_s hq (by simp only [s_f2, c70]; simp))
        · refine K_bipush (v := nI 20) dX3_faultOfClosing_73 (by decide) rfl ?_
          refine K_iload_n dX3_faultOfClosing_75 rfl rfl ?_
          refine K_addN dX3_faultOfClosing_76 rfl ?_
          refine K_iret dX3_faultOfClosing_77 rfl ?_
          refine ⟨?_, rfl, rfl⟩
          rw [s_fc, z1, fnd_first (p := s_f2 S) (i := i) (by simp only [s_f2, go_t c62, c70]; rfl) hq (by omega)]
theorem l1_X3_faultOfClosing {d : Nat} (hd : 4 ≤ d) {S : GS} {N : Mem} {K : Mej} (R : RX S N K) (w : WF S) : ∀ k i : Nat, i + k = s_n S → (∀ j, j < i → s_f1 S j = false) → EK d mX3_faultOfClosing (PX (some (.int (nI (s_fc S)))) N K) 2 [(0, .ref 0), (1, .int (nI i))] [] N K
  | 0, i, e, hq => by
    obtain rfl : i = s_n S := by omega
    have hn := w.1.1
    have h0 := R.1.1
    refine K_iload_n dX3_faultOfClosing_2 rfl rfl ?_
    refine K_aload_n dX3_faultOfClosing_3 rfl rfl ?_
    refine K_getI dX3_faultOfClosing_4 fl_X3_42 (by first | rfl | exact sk_rk (by omega) | exact sk_hh (by omega)) rfl (by first | assumption | rfl) rfl ?_
    refine K_icmp_geN (tgt := 45) dX3_faultOfClosing_7 (by decide) rfl (by first | omega | fail) (by first | omega | fail) (fun c7 => ?_) (fun c7 => ?_)
    · refine K_iconst (v := nI 0) dX3_faultOfClosing_45 (by decide) rfl ?_
      refine K_istore_n (lv' := [(0, _), (1, _)]) dX3_faultOfClosing_46 (by decide) rfl rfl ?_
      exact l2_X3_faultOfClosing hd R w (fnd_none hq) (s_n S) 0 (by omega) (fun j hj => absurd hj (Nat.not_lt_zero j))
    · omega
  | k + 1, i, e, hq => by
    have ih := l1_X3_faultOfClosing hd R w k (i + 1) (by omega)
    have hn := w.1.1
    have h0 := R.1.1
    have hp := R.2.2.2.1 i (by omega)
    cases hs : s_pl S i with
    | none =>
      rw [hs] at hp
      have hp2 : N 2 i = -1 := hp
      clear hp
      refine K_iload_n dX3_faultOfClosing_2 rfl rfl ?_
      refine K_aload_n dX3_faultOfClosing_3 rfl rfl ?_
      refine K_getI dX3_faultOfClosing_4 fl_X3_42 (by first | rfl | exact sk_rk (by omega) | exact sk_hh (by omega)) rfl (by first | assumption | rfl) rfl ?_
      refine K_icmp_geN (tgt := 45) dX3_faultOfClosing_7 (by decide) rfl (by first | omega | fail) (by first | omega | fail) (fun c7 => ?_) (fun c7 => ?_)
      · omega
      · refine K_aload_n dX3_faultOfClosing_10 rfl rfl ?_
        refine K_getR (r := 2) dX3_faultOfClosing_11 fl_X3_15 rfl rfl rfl rfl ?_
        refine K_iload_n dX3_faultOfClosing_14 rfl rfl ?_
        refine K_iald dX3_faultOfClosing_15 (by first | rfl | exact sk_rk (by omega) | exact sk_hh (by omega)) (by first | omega | fail) (by decide) (by first | assumption | rfl) rfl ?_
        refine K_iconst (v := (-1)) dX3_faultOfClosing_16 (by decide) rfl ?_
        refine K_icmp_eq (tgt := 39) dX3_faultOfClosing_17 (by decide) rfl (fun c17 => ?_) (fun c17 => ?_)
        · first | refine K_incN (lv' := [(0, _), (1, _)]) dX3_faultOfClosing_39 rfl (by decide) rfl rfl ?_ | refine K_iinc (lv' := [(0, _), (1, _)]) dX3_faultOfClosing_39 rfl rfl (by decide) rfl rfl ?_
          refine K_goto (tgt := 2) dX3_faultOfClosing_42 (by decide) ?_
          exact ih (below_s hq (by simp only [s_f1, hs]))
        · exact absurd rfl c17
    | some g =>
      rw [hs] at hp
      obtain ⟨b1, b2, b3⟩ := w.2.2.2.2.1 i g (by omega) hs
      have hp2 : N 2 i = nI g := hp
      clear hp
      refine K_iload_n dX3_faultOfClosing_2 rfl rfl ?_
      refine K_aload_n dX3_faultOfClosing_3 rfl rfl ?_
      refine K_getI dX3_faultOfClosing_4 fl_X3_42 (by first | rfl | exact sk_rk (by omega) | exact sk_hh (by omega)) rfl (by first | assumption | rfl) rfl ?_
      refine K_icmp_geN (tgt := 45) dX3_faultOfClosing_7 (by decide) rfl (by first | omega | fail) (by first | omega | fail) (fun c7 => ?_) (fun c7 => ?_)
      · omega
      · refine K_aload_n dX3_faultOfClosing_10 rfl rfl ?_
        refine K_getR (r := 2) dX3_faultOfClosing_11 fl_X3_15 rfl rfl rfl rfl ?_
        refine K_iload_n dX3_faultOfClosing_14 rfl rfl ?_
        refine K_iald dX3_faultOfClosing_15 (by first | rfl | exact sk_rk (by omega) | exact sk_hh (by omega)) (by first | omega | fail) (by decide) (by first | assumption | rfl) rfl ?_
        refine K_iconst (v := (-1)) dX3_faultOfClosing_16 (by decide) rfl ?_
        refine K_icmp_eq (tgt := 39) dX3_faultOfClosing_17 (by decide) rfl (fun c17 => ?_) (fun c17 => ?_)
        · exact absurd c17 (nI_neg1 (by omega))
        · refine K_aload_n dX3_faultOfClosing_20 rfl rfl ?_
          refine K_iload_n dX3_faultOfClosing_21 rfl rfl ?_
          refine K_aload_n dX3_faultOfClosing_22 rfl rfl ?_
          refine K_getR (r := 2) dX3_faultOfClosing_23 fl_X3_15 rfl rfl rfl rfl ?_
          refine K_iload_n dX3_faultOfClosing_26 rfl rfl ?_
          refine K_iald dX3_faultOfClosing_27 (by first | rfl | exact sk_rk (by omega) | exact sk_hh (by omega)) (by first | omega | fail) (by decide) (by first | assumption | rfl) rfl ?_
          refine K_cv (ci := 3) (d1 := d - 1) [_, _] dX3_faultOfClosing_28 ml_X3_188 (by decide) rfl rfl rfl (Nat.le_of_ble_eq_true rfl) (c_X3_takes (by omega) R w b1 b2) (by omega) rfl ?_
          refine K_if_neB (tgt := 39) dX3_faultOfClosing_31 (by decide) rfl (fun c31 => ?_) (fun c31 => ?_)
          · first | refine K_incN (lv' := [(0, _), (1, _)]) dX3_faultOfClosing_39 rfl (by decide) rfl rfl ?_ | refine K_iinc (lv' := [(0, _), (1, _)]) dX3_faultOfClosing_39 rfl rfl (by decide) rfl rfl ?_
            refine K_goto (tgt := 2) dX3_faultOfClosing_42 (by decide) ?_
            exact ih (below_s hq (by simp only [s_f1, hs, c31]; rfl))
          · refine K_bipush (v := nI 10) dX3_faultOfClosing_34 (by decide) rfl ?_
            refine K_iload_n dX3_faultOfClosing_36 rfl rfl ?_
            refine K_addN dX3_faultOfClosing_37 rfl ?_
            refine K_iret dX3_faultOfClosing_38 rfl ?_
            refine ⟨?_, rfl, rfl⟩
            rw [s_fc, fnd_first (p := s_f1 S) (i := i) (by simp only [s_f1, hs, c31]; rfl) hq (by omega)]
set_option maxRecDepth 100000 in
theorem c_X3_faultOfClosing {d : Nat} (hd : 4 ≤ d) {S : GS} {N : Mem} {K : Mej} (R : RX S N K) (w : WF S) : CK d mX3_faultOfClosing [.ref 0] N K (PX (some (.int (nI (s_fc S)))) N K) := by
  refine CK.start [(0, _)] (plainFor_of_name (by decide)) (Nat.le_of_ble_eq_true rfl) rfl ?_
  refine K_iconst (v := nI 0) dX3_faultOfClosing_0 (by decide) rfl ?_
  refine K_istore_n (lv' := [(0, _), (1, _)]) dX3_faultOfClosing_1 (by decide) rfl rfl ?_
  exact l1_X3_faultOfClosing hd R w (s_n S) 0 (by omega) (fun j hj => absurd hj (Nat.not_lt_zero j))
theorem s_fc_lt {S : GS} (w : WF S) : s_fc S < 50 := by
  have hn := w.1.1
  unfold s_fc
  split
  · next f h => have := (fnd_lt h).1; omega
  · split
    · next f h => have := (fnd_lt h).1; omega
    · split
      · next f h => have := (fnd_lt h).1; omega
      · omega
/-- steps on from where a way stands until it is back at f, at most k -/
def rlF (p : Nat → Option Nat) (f : Nat) : Nat → Option Nat → Nat
  | 0, _ => 0
  | _ + 1, none => 0
  | k + 1, some a => if a = f then 0 else 1 + rlF p f k (p a)
theorem rlF_le (p : Nat → Option Nat) (f : Nat) : ∀ k a, rlF p f k a ≤ k
  | 0, _ => Nat.le_refl 0
  | k + 1, none => Nat.zero_le _
  | k + 1, some a => by
    have := rlF_le p f k (p a)
    unfold rlF
    split <;> omega
def s_rl (S : GS) (f : Nat) : Nat := 1 + rlF (s_pl S) f 9 (s_pl S f)
theorem l_X3_ringLength {d : Nat} {S : GS} {N : Mem} {K : Mej} (R : RX S N K) (w : WF S) {f r : Nat} (hf : f < 10) : ∀ (k c : Nat) (a : Option Nat), c + k = 10 → (∀ g, a = some g → g < 10) → c + rlF (s_pl S) f k a = r → EK d mX3_ringLength (PX (some (.int (nI r))) N K) 9 [(0, .ref 0), (1, .int (nI f)), (2, .int (oI a)), (3, .int (nI c))] [] N K
  | 0, c, a, h, ha, e => by
    have hob : oB a := fun g hg => by have := ha g hg; omega
    have e2 : c = r := e
    refine K_iload_n dX3_ringLength_9 rfl rfl ?_
    refine K_iload_n dX3_ringLength_10 rfl rfl ?_
    refine K_icmp_eqON (tgt := 38) dX3_ringLength_11 (by decide) rfl (by first | assumption | fail) (by first | omega | fail) (fun c11 => ?_) (fun c11 => ?_)
    · refine K_iload_n dX3_ringLength_38 rfl rfl ?_
      refine K_iret dX3_ringLength_39 rfl ?_
      rw [← e2]
      exact ⟨rfl, rfl, rfl⟩
    · refine K_iload_n dX3_ringLength_14 rfl rfl ?_
      refine K_iconst (v := (-1)) dX3_ringLength_15 (by decide) rfl ?_
      refine K_icmp_eqO (tgt := 38) dX3_ringLength_16 (by decide) rfl (by first | assumption | fail) (fun c16 => ?_) (fun c16 => ?_)
      · refine K_iload_n dX3_ringLength_38 rfl rfl ?_
        refine K_iret dX3_ringLength_39 rfl ?_
        rw [← e2]
        exact ⟨rfl, rfl, rfl⟩
      · refine K_iload_n dX3_ringLength_19 rfl rfl ?_
        refine K_bipush (v := nI 10) dX3_ringLength_20 (by decide) rfl ?_
        refine K_icmp_geN (tgt := 38) dX3_ringLength_22 (by decide) rfl (by first | omega | fail) (by first | omega | fail) (fun c22 => ?_) (fun c22 => ?_)
        · refine K_iload_n dX3_ringLength_38 rfl rfl ?_
          refine K_iret dX3_ringLength_39 rfl ?_
          rw [← e2]
          exact ⟨rfl, rfl, rfl⟩
        · omega
  | k + 1, c, none, h, ha, e => by
    have hob : oB none := fun g hg => by cases hg
    have e2 : c = r := e
    refine K_iload_n dX3_ringLength_9 rfl rfl ?_
    refine K_iload_n dX3_ringLength_10 rfl rfl ?_
    refine K_icmp_eqON (tgt := 38) dX3_ringLength_11 (by decide) rfl (by first | assumption | fail) (by first | omega | fail) (fun c11 => ?_) (fun c11 => ?_)
    · cases c11
    · refine K_iload_n dX3_ringLength_14 rfl rfl ?_
      refine K_iconst (v := (-1)) dX3_ringLength_15 (by decide) rfl ?_
      refine K_icmp_eqO (tgt := 38) dX3_ringLength_16 (by decide) rfl (by first | assumption | fail) (fun c16 => ?_) (fun c16 => ?_)
      · refine K_iload_n dX3_ringLength_38 rfl rfl ?_
        refine K_iret dX3_ringLength_39 rfl ?_
        rw [← e2]
        exact ⟨rfl, rfl, rfl⟩
      · exact absurd rfl c16
  | k + 1, c, some a, h, ha, e => by
    have ha2 := ha a rfl
    have hp := R.2.2.2.1 a ha2
    have hn := w.1.1
    have hob : oB (some a) := fun g hg => by have := ha g hg; omega
    have ih := l_X3_ringLength (d := d) (r := r) R w hf k (c + 1) (s_pl S a) (by omega) (fun g hg => by have := (w.2.2.2.2.1 a g ha2 hg).2.1; omega)
    unfold rlF at e
    refine K_iload_n dX3_ringLength_9 rfl rfl ?_
    refine K_iload_n dX3_ringLength_10 rfl rfl ?_
    refine K_icmp_eqON (tgt := 38) dX3_ringLength_11 (by decide) rfl (by first | assumption | fail) (by first | omega | fail) (fun c11 => ?_) (fun c11 => ?_)
    · refine K_iload_n dX3_ringLength_38 rfl rfl ?_
      refine K_iret dX3_ringLength_39 rfl ?_
      rw [if_pos (Option.some.inj c11)] at e
      rw [← e]
      exact ⟨rfl, rfl, rfl⟩
    · refine K_iload_n dX3_ringLength_14 rfl rfl ?_
      refine K_iconst (v := (-1)) dX3_ringLength_15 (by decide) rfl ?_
      refine K_icmp_eqO (tgt := 38) dX3_ringLength_16 (by decide) rfl (by first | assumption | fail) (fun c16 => ?_) (fun c16 => ?_)
      · cases c16
      · refine K_iload_n dX3_ringLength_19 rfl rfl ?_
        refine K_bipush (v := nI 10) dX3_ringLength_20 (by decide) rfl ?_
        refine K_icmp_geN (tgt := 38) dX3_ringLength_22 (by decide) rfl (by first | omega | fail) (by first | omega | fail) (fun c22 => ?_) (fun c22 => ?_)
        · omega
        · refine K_aload_n dX3_ringLength_25 rfl rfl ?_
          refine K_getR (r := 2) dX3_ringLength_26 fl_X3_15 rfl rfl rfl rfl ?_
          refine K_iload_n dX3_ringLength_29 rfl rfl ?_
          refine K_iald dX3_ringLength_30 (by first | rfl | exact sk_rk (by omega) | exact sk_hh (by omega)) (by first | omega | fail) (by decide) (by first | assumption | rfl) rfl ?_
          refine K_istore_n (lv' := [(0, _), (1, _), (2, _), (3, _)]) dX3_ringLength_31 (by decide) rfl rfl ?_
          first | refine K_incN (lv' := [(0, _), (1, _), (2, _), (3, _)]) dX3_ringLength_32 rfl (by decide) rfl rfl ?_ | refine K_iinc (lv' := [(0, _), (1, _), (2, _), (3, _)]) dX3_ringLength_32 rfl rfl (by decide) rfl rfl ?_
          refine K_goto (tgt := 9) dX3_ringLength_35 (by decide) ?_
          rw [if_neg (fun z => c11 (congrArg some z))] at e
          exact ih (by omega)
set_option maxRecDepth 100000 in
theorem c_X3_ringLength {d : Nat} {S : GS} {N : Mem} {K : Mej} (R : RX S N K) (w : WF S) {f : Nat} (hf : f < 10) : CK d mX3_ringLength [.ref 0, .int (nI f)] N K (PX (some (.int (nI (s_rl S f)))) N K) := by
  have hp := R.2.2.2.1 f hf
  have hn := w.1.1
  refine CK.start [(0, _), (1, _)] (plainFor_of_name (by decide)) (Nat.le_of_ble_eq_true rfl) rfl ?_
  refine K_aload_n dX3_ringLength_0 rfl rfl ?_
  refine K_getR (r := 2) dX3_ringLength_1 fl_X3_15 rfl rfl rfl rfl ?_
  refine K_iload_n dX3_ringLength_4 rfl rfl ?_
  refine K_iald dX3_ringLength_5 (by first | rfl | exact sk_rk (by omega) | exact sk_hh (by omega)) (by first | omega | fail) (by decide) (by first | assumption | rfl) rfl ?_
  refine K_istore_n (lv' := [(0, _), (1, _), (2, _)]) dX3_ringLength_6 (by decide) rfl rfl ?_
  refine K_iconst (v := nI 1) dX3_ringLength_7 (by decide) rfl ?_
  refine K_istore_n (lv' := [(0, _), (1, _), (2, _), (3, _)]) dX3_ringLength_8 (by decide) rfl rfl ?_
  exact l_X3_ringLength R w hf 9 1 (s_pl S f) (by omega) (fun g hg => by have := (w.2.2.2.2.1 f g hf hg).2.1; omega) rfl
def s_f4 (S : GS) (f : Nat) : Bool := s_go S f && decide (s_mo S < s_rl S f)
def s_fl (S : GS) : Nat := match fnd (s_f4 S) (s_n S) with
  | some f => 40 + f
  | none => 0
theorem s_rl_le (S : GS) (f : Nat) : s_rl S f ≤ 10 := by
  have := rlF_le (s_pl S) f 9 (s_pl S f)
  unfold s_rl
  omega
theorem l_X3_faultOfLength {d : Nat} (hd : 1 ≤ d) {S : GS} {N : Mem} {K : Mej} (R : RX S N K) (w : WF S) : ∀ k i : Nat, i + k = s_n S → (∀ j, j < i → s_f4 S j = false) → EK d mX3_faultOfLength (PX (some (.int (nI (s_fl S)))) N K) 2 [(0, .ref 0), (1, .int (nI i))] [] N K
  | 0, i, e, hq => by
    obtain rfl : i = s_n S := by omega
    have hn := w.1.1
    have h0 := R.1.1
    refine K_iload_n dX3_faultOfLength_2 rfl rfl ?_
    refine K_aload_n dX3_faultOfLength_3 rfl rfl ?_
    refine K_getI dX3_faultOfLength_4 fl_X3_42 (by first | rfl | exact sk_rk (by omega) | exact sk_hh (by omega)) rfl (by first | assumption | rfl) rfl ?_
    refine K_icmp_geN (tgt := 43) dX3_faultOfLength_7 (by decide) rfl (by first | omega | fail) (by first | omega | fail) (fun c7 => ?_) (fun c7 => ?_)
    · refine K_iconst (v := nI 0) dX3_faultOfLength_43 (by decide) rfl ?_
      refine K_iret dX3_faultOfLength_44 rfl ?_
      refine ⟨?_, rfl, rfl⟩
      rw [s_fl, fnd_none hq]
    · omega
  | k + 1, i, e, hq => by
    have ih := l_X3_faultOfLength hd R w k (i + 1) (by omega)
    have hn := w.1.1
    have h0 := R.1.1
    have hm := R.1.2.2.2.2.1
    have hm2 := w.1.2.2.2.2.1
    have hp := R.2.2.2.1 i (by omega)
    have hob := w.plb (f := i) (by omega)
    have hrl := s_rl_le S i
    refine K_iload_n dX3_faultOfLength_2 rfl rfl ?_
    refine K_aload_n dX3_faultOfLength_3 rfl rfl ?_
    refine K_getI dX3_faultOfLength_4 fl_X3_42 (by first | rfl | exact sk_rk (by omega) | exact sk_hh (by omega)) rfl (by first | assumption | rfl) rfl ?_
    refine K_icmp_geN (tgt := 43) dX3_faultOfLength_7 (by decide) rfl (by first | omega | fail) (by first | omega | fail) (fun c7 => ?_) (fun c7 => ?_)
    · omega
    · refine K_aload_n dX3_faultOfLength_10 rfl rfl ?_
      refine K_getR (r := 2) dX3_faultOfLength_11 fl_X3_15 rfl rfl rfl rfl ?_
      refine K_iload_n dX3_faultOfLength_14 rfl rfl ?_
      refine K_iald dX3_faultOfLength_15 (by first | rfl | exact sk_rk (by omega) | exact sk_hh (by omega)) (by first | omega | fail) (by decide) (by first | assumption | rfl) rfl ?_
      refine K_iconst (v := (-1)) dX3_faultOfLength_16 (by decide) rfl ?_
      refine K_icmp_eqO (tgt := 37) dX3_faultOfLength_17 (by decide) rfl (by first | assumption | fail) (fun c17 => ?_) (fun c17 => ?_)
      · first | refine K_incN (lv' := [(0, _), (1, _)]) dX3_faultOfLength_37 rfl (by decide) rfl rfl ?_ | refine K_iinc (lv' := [(0, _), (1, _)]) dX3_faultOfLength_37 rfl rfl (by decide) rfl rfl ?_
        refine K_goto (tgt := 2) dX3_faultOfLength_40 (by decide) ?_
        first | exact ih (below_s hq (by simp only [s_f4, go_f c17]; rfl)) | exact ih (below_s hq (by simp only [s_f4, decide_eq_false (Nat.not_lt.mpr c29)]; simp))
      · refine K_aload_n dX3_faultOfLength_20 rfl rfl ?_
        refine K_iload_n dX3_faultOfLength_21 rfl rfl ?_
        refine K_cv (ci := 3) (d1 := d - 1) [_] dX3_faultOfLength_22 ml_X3_205 (by decide) rfl rfl rfl (Nat.le_of_ble_eq_true rfl) (c_X3_ringLength R w (by omega)) (by omega) rfl ?_
        refine K_aload_n dX3_faultOfLength_25 rfl rfl ?_
        refine K_getI dX3_faultOfLength_26 fl_X3_55 (by first | rfl | exact sk_rk (by omega) | exact sk_hh (by omega)) rfl (by first | assumption | rfl) rfl ?_
        refine K_icmp_leN (tgt := 37) dX3_faultOfLength_29 (by decide) rfl (by first | omega | fail) (by first | omega | fail) (fun c29 => ?_) (fun c29 => ?_)
        · first | refine K_incN (lv' := [(0, _), (1, _)]) dX3_faultOfLength_37 rfl (by decide) rfl rfl ?_ | refine K_iinc (lv' := [(0, _), (1, _)]) dX3_faultOfLength_37 rfl rfl (by decide) rfl rfl ?_
          refine K_goto (tgt := 2) dX3_faultOfLength_40 (by decide) ?_
          first | exact ih (below_s hq (by simp only [s_f4, go_f c17]; rfl)) | exact ih (below_s hq (by simp only [s_f4, decide_eq_false (Nat.not_lt.mpr c29)]; simp))
        · refine K_bipush (v := nI 40) dX3_faultOfLength_32 (by decide) rfl ?_
          refine K_iload_n dX3_faultOfLength_34 rfl rfl ?_
          refine K_addN dX3_faultOfLength_35 rfl ?_
          refine K_iret dX3_faultOfLength_36 rfl ?_
          refine ⟨?_, rfl, rfl⟩
          rw [s_fl, fnd_first (p := s_f4 S) (i := i) (by simp only [s_f4, go_t c17, decide_eq_true c29]; rfl) hq (by omega)]
set_option maxRecDepth 100000 in
theorem c_X3_faultOfLength {d : Nat} (hd : 1 ≤ d) {S : GS} {N : Mem} {K : Mej} (R : RX S N K) (w : WF S) : CK d mX3_faultOfLength [.ref 0] N K (PX (some (.int (nI (s_fl S)))) N K) := by
  refine CK.start [(0, _)] (plainFor_of_name (by decide)) (Nat.le_of_ble_eq_true rfl) rfl ?_
  refine K_iconst (v := nI 0) dX3_faultOfLength_0 (by decide) rfl ?_
  refine K_istore_n (lv' := [(0, _), (1, _)]) dX3_faultOfLength_1 (by decide) rfl rfl ?_
  exact l_X3_faultOfLength hd R w (s_n S) 0 (by omega) (fun j hj => absurd hj (Nat.not_lt_zero j))
set_option maxRecDepth 100000 in
theorem c_X3_wrong {d : Nat} (hd : 5 ≤ d) {S : GS} {N : Mem} {K : Mej} (R : RX S N K) (w : WF S) : CK d mX3_wrong [.ref 0] N K (PX (some (.int (nI (if s_fc S = 0 then s_fl S else s_fc S)))) N K) := by
  have hl := s_fc_lt w
  refine CK.start [(0, _)] (plainFor_of_name (by decide)) (Nat.le_of_ble_eq_true rfl) rfl ?_
  refine K_aload_n dX3_wrong_0 rfl rfl ?_
  refine K_cv (ci := 3) (d1 := d - 1) [] dX3_wrong_1 ml_X3_167 (by decide) rfl rfl rfl (Nat.le_of_ble_eq_true rfl) (c_X3_faultOfClosing (by omega) R w) (by omega) rfl ?_
  refine K_istore_n (lv' := [(0, _), (1, _)]) dX3_wrong_4 (by decide) rfl rfl ?_
  refine K_iload_n dX3_wrong_5 rfl rfl ?_
  refine K_if_eqN (tgt := 13) dX3_wrong_6 (by decide) rfl (by first | omega | fail) (fun c6 => ?_) (fun c6 => ?_)
  · refine K_aload_n dX3_wrong_13 rfl rfl ?_
    refine K_cv (ci := 3) (d1 := d - 1) [] dX3_wrong_14 ml_X3_170 (by decide) rfl rfl rfl (Nat.le_of_ble_eq_true rfl) (c_X3_faultOfLength (by omega) R w) (by omega) rfl ?_
    refine K_iret dX3_wrong_17 rfl ?_
    refine ⟨?_, rfl, rfl⟩
    simp_all
  · refine K_iload_n dX3_wrong_9 rfl rfl ?_
    refine K_goto (tgt := 17) dX3_wrong_10 (by decide) ?_
    refine K_iret dX3_wrong_17 rfl ?_
    refine ⟨?_, rfl, rfl⟩
    simp_all
end
section
/-! Changes of the ghost state, and RX over them -/
def gN (S : GS) (k i v : Nat) : GS := (fun a b => if a = k ∧ b = i then v else S.1 a b, S.2.1, S.2.2.1, S.2.2.2)
def gB (S : GS) (k i j : Nat) (v : Bool) : GS := (S.1, fun a b c => if a = k ∧ b = i ∧ c = j then v else S.2.1 a b c, S.2.2.1, S.2.2.2)
def gP (S : GS) (k i j : Nat) (v : Option Nat) : GS := (S.1, S.2.1, fun a b c => if a = k ∧ b = i ∧ c = j then v else S.2.2.1 a b c, S.2.2.2)
def gZ (S : GS) (f : Nat) (v : Int32) : GS := (S.1, S.2.1, S.2.2.1, fun a => if a = f then v else S.2.2.2 a)
theorem sM_row {N : Mem} {a k : Nat} {v : Int32} {i : Nat} (h : i ≠ a) : sM N a k v i = N i := va_up_ne _ _ h
/-- RX speaks of the rows 0, 2, 3, 4, 20 .. 39 and of the places alone -/
theorem RX.frame {S : GS} {N N1 : Mem} {K K1 : Mej} (R : RX S N K) (h : ∀ i, i < 5 ∨ (20 ≤ i ∧ i < 40) → N1 i = N i) (hK : ∀ f, f < 10 → K1 11 f = K 11 f) : RX S N1 K1 := by
  refine ⟨?_, fun f hf => ?_, fun f g hf hg => ?_, fun f hf => ?_, fun y f hy hf => ?_, fun i hi => ?_, fun f hf => ?_⟩
  · rw [h 0 (by omega)]; exact R.1
  · rw [h (20 + f) (by omega)]; exact R.2.1 f hf
  · rw [h (30 + f) (by omega)]; exact R.2.2.1 f g hf hg
  · rw [h 2 (by omega)]; exact R.2.2.2.1 f hf
  · rw [h 3 (by omega)]; exact R.2.2.2.2.1 y f hy hf
  · rw [h 4 (by omega)]; exact R.2.2.2.2.2.1 i hi
  · rw [hK f hf]; exact R.2.2.2.2.2.2 f hf
theorem RX.scr {S : GS} {N : Mem} {K : Mej} (R : RX S N K) {a k : Nat} {v : Int32} (h : (5 ≤ a ∧ a < 20) ∨ 40 ≤ a) : RX S (sM N a k v) K := R.frame (fun i hi => sM_row (by omega)) (fun _ _ => rfl)
theorem RX.pl {S : GS} {N : Mem} {K : Mej} (R : RX S N K) {f : Nat} (v : Option Nat) : RX (gP S 0 f 0 v) (sM N 2 f (oI v)) K := by
  refine ⟨?_, fun f' hf => ?_, fun f' g hf hg => ?_, fun f' hf => ?_, fun y f' hy hf => ?_, fun i hi => ?_, R.2.2.2.2.2.2⟩
  · rw [sM_row (by decide)]; exact R.1
  · rw [sM_row (by omega)]; exact R.2.1 f' hf
  · rw [sM_row (by omega)]; exact R.2.2.1 f' g hf hg
  · rw [sM_at]
    by_cases e : f' = f
    · subst e
      simp [s_pl, gP]
    · rw [if_neg (by omega), R.2.2.2.1 f' hf]
      simp [s_pl, gP, e]
  · rw [sM_row (by decide)]; exact (R.2.2.2.2.1 y f' hy hf).trans (by simp [s_bk, gP])
  · rw [sM_row (by decide)]; exact R.2.2.2.2.2.1 i hi
theorem RX.ch {S : GS} {N : Mem} {K : Mej} (R : RX S N K) (b : Bool) : RX (gB S 3 0 0 b) (sM N 0 13 (bI b)) K := by
  refine ⟨?_, fun f' hf => ?_, fun f' g hf hg => ?_, fun f' hf => ?_, fun y f' hy hf => ?_, fun i hi => ?_, R.2.2.2.2.2.2⟩
  · obtain ⟨a1, a2, a3, a4, a5, a6, a7⟩ := R.1
    exact ⟨a1, a2, a3, a4, a5, a6, by simp [s_ch, gB, sM_at]⟩
  · rw [sM_row (by omega)]
    obtain ⟨b1, b2, b3, b4, b5, b6, b7, b8, b9, b10, ⟨m, hm, b11, hb⟩, b12⟩ := R.2.1 f' hf
    exact ⟨b1, b2, b3, b4, b5.trans (by simp [s_pt, gB]), b6.trans (by simp [s_pr, gB]), b7, b8, b9, b10, ⟨m, hm, b11, fun g hg => (hb g hg).trans (by simp [s_br, gB])⟩, b12⟩
  · rw [sM_row (by omega)]; exact R.2.2.1 f' g hf hg
  · rw [sM_row (by decide)]; exact R.2.2.2.1 f' hf
  · rw [sM_row (by decide)]; exact R.2.2.2.2.1 y f' hy hf
  · rw [sM_row (by decide)]; exact R.2.2.2.2.2.1 i hi
theorem RX.po {S : GS} {N : Mem} {K : Mej} (R : RX S N K) {f : Nat} (hf0 : f < 10) (v : Int32) : RX (gZ S f v) (sM N (20 + f) 12 v) K := by
  refine ⟨?_, fun f' hf => ?_, fun f' g hf hg => ?_, fun f' hf => ?_, fun y f' hy hf => ?_, fun i hi => ?_, R.2.2.2.2.2.2⟩
  · rw [sM_row (by omega)]; exact R.1
  · obtain ⟨b1, b2, b3, b4, b5, b6, b7, b8, b9, b10, ⟨m, hm, b11, hb⟩, b12⟩ := R.2.1 f' hf
    refine ⟨?_, ?_, ?_, ?_, ?_, ?_, ?_, ?_, ?_, ?_, ⟨m, hm, ?_, hb⟩, ?_⟩ <;> rw [sM_at]
    · rw [if_neg (by omega)]; exact b1
    · rw [if_neg (by omega)]; exact b2
    · rw [if_neg (by omega)]; exact b3
    · rw [if_neg (by omega)]; exact b4
    · rw [if_neg (by omega)]; exact b5
    · rw [if_neg (by omega)]; exact b6
    · rw [if_neg (by omega)]; exact b7
    · rw [if_neg (by omega)]; exact b8
    · rw [if_neg (by omega)]; exact b9
    · rw [if_neg (by omega)]; exact b10
    · rw [if_neg (by omega)]; exact b11
    · by_cases e : f' = f
      · subst e
        simp [s_po, gZ]
      · rw [if_neg (by omega), b12]
        simp [s_po, gZ, e]
  · rw [sM_row (by omega)]; exact R.2.2.1 f' g hf hg
  · rw [sM_row (by omega)]; exact R.2.2.2.1 f' hf
  · rw [sM_row (by omega)]; exact R.2.2.2.2.1 y f' hy hf
  · rw [sM_row (by omega)]; exact R.2.2.2.2.2.1 i hi
/-- what the class may change: nothing of the reference's -/
def FX (N N1 : Mem) : Prop := ∀ i, 40 ≤ i → N1 i = N i
theorem FX.rf (N : Mem) : FX N N := fun _ _ => rfl
theorem FX.set {N N1 : Mem} (h : FX N N1) {a k : Nat} {v : Int32} (ha : a < 40) : FX N (sM N1 a k v) := fun i hi => (sM_row (by omega)).trans (h i hi)
theorem FX.trans {N N1 N2 : Mem} (h : FX N N1) (h2 : FX N1 N2) : FX N N2 := fun i hi => (h2 i hi).trans (h i hi)
set_option maxRecDepth 100000 in
theorem c_X3_keepRow {d : Nat} {N : Mem} {K : Mej} {c : Nat} (hc : c ≤ 10) : CK d mX3_keepRow [.ref 0, .int (nI c)] N K (PX none (if 0 < c then sM N 0 9 (nI c) else N) K) := by
  refine CK.start [(0, _), (1, _)] (plainFor_of_name (by decide)) (Nat.le_of_ble_eq_true rfl) rfl ?_
  refine K_iload_n dX3_keepRow_0 rfl rfl ?_
  refine K_if_leN (tgt := 9) dX3_keepRow_1 (by decide) rfl (by first | omega | fail) (fun c1 => ?_) (fun c1 => ?_)
  · refine K_ret dX3_keepRow_9 rfl ?_
    first | (rw [if_neg (by omega)]; exact ⟨rfl, rfl, rfl⟩) | (rw [if_pos c1]; exact ⟨rfl, rfl, rfl⟩)
  · refine K_aload_n dX3_keepRow_4 rfl rfl ?_
    refine K_iload_n dX3_keepRow_5 rfl rfl ?_
    refine K_putI dX3_keepRow_6 fl_X3_49 (by first | rfl | exact sk_rk (by omega) | exact sk_hh (by omega)) rfl rfl rfl rfl ?_
    refine K_ret dX3_keepRow_9 rfl ?_
    first | (rw [if_neg (by omega)]; exact ⟨rfl, rfl, rfl⟩) | (rw [if_pos c1]; exact ⟨rfl, rfl, rfl⟩)
theorem l_X3_clearPlan {d : Nat} {N : Mem} {K : Mej} : ∀ k i : Nat, i + k = 10 → EK d mX3_clearPlan (PX none (fillM N 2 10 (-1)) K) 2 [(0, .ref 0), (1, .int (nI i))] [] (fillM N 2 i (-1)) K
  | 0, i, h => by
    obtain rfl : i = 10 := by omega
    refine K_iload_n dX3_clearPlan_2 rfl rfl ?_
    refine K_bipush (v := nI 10) dX3_clearPlan_3 (by decide) rfl ?_
    refine K_icmp_geN (tgt := 21) dX3_clearPlan_5 (by decide) rfl (by first | omega | fail) (by first | omega | fail) (fun c5 => ?_) (fun c5 => ?_)
    · refine K_ret dX3_clearPlan_21 rfl ?_
      exact ⟨rfl, rfl, rfl⟩
    · omega
  | k + 1, i, h => by
    have ih := l_X3_clearPlan (d := d) (N := N) (K := K) k (i + 1) (by omega)
    refine K_iload_n dX3_clearPlan_2 rfl rfl ?_
    refine K_bipush (v := nI 10) dX3_clearPlan_3 (by decide) rfl ?_
    refine K_icmp_geN (tgt := 21) dX3_clearPlan_5 (by decide) rfl (by first | omega | fail) (by first | omega | fail) (fun c5 => ?_) (fun c5 => ?_)
    · omega
    · refine K_aload_n dX3_clearPlan_8 rfl rfl ?_
      refine K_getR (r := 2) dX3_clearPlan_9 fl_X3_15 rfl rfl rfl rfl ?_
      refine K_iload_n dX3_clearPlan_12 rfl rfl ?_
      refine K_iconst (v := (-1)) dX3_clearPlan_13 (by decide) rfl ?_
      refine K_iast dX3_clearPlan_14 (by first | rfl | exact sk_rk (by omega) | exact sk_hh (by omega)) (by first | omega | fail) (by decide) rfl ?_
      first | refine K_incN (lv' := [(0, _), (1, _)]) dX3_clearPlan_15 rfl (by decide) rfl rfl ?_ | refine K_iinc (lv' := [(0, _), (1, _)]) dX3_clearPlan_15 rfl rfl (by decide) rfl rfl ?_
      refine K_goto (tgt := 2) dX3_clearPlan_18 (by decide) ?_
      rw [fillM_s]
      exact ih
set_option maxRecDepth 100000 in
theorem c_X3_clearPlan {d : Nat} {N : Mem} {K : Mej} : CK d mX3_clearPlan [.ref 0] N K (PX none (fillM N 2 10 (-1)) K) := by
  refine CK.start [(0, _)] (plainFor_of_name (by decide)) (Nat.le_of_ble_eq_true rfl) rfl ?_
  refine K_iconst (v := nI 0) dX3_clearPlan_0 (by decide) rfl ?_
  refine K_istore_n (lv' := [(0, _), (1, _)]) dX3_clearPlan_1 (by decide) rfl rfl ?_
  have h := l_X3_clearPlan (d := d) (N := N) (K := K) 10 0 rfl
  rw [fillM_0] at h
  exact h
/-- one pays another -/
def payG (S : GS) (a b : Nat) (sg : Int32) : GS := gZ (gZ S a (s_po S a - sg * nI (s_wo S b))) b (s_po (gZ S a (s_po S a - sg * nI (s_wo S b))) b + sg * nI (s_wo S b))
set_option maxRecDepth 100000 in
theorem c_X3_pay {d : Nat} (hd : 2 ≤ d) {S : GS} {N : Mem} {K : Mej} (R : RX S N K) (w : WF S) {a b : Nat} {sg : Int32} (ha : a < s_n S) (hb : b < s_n S) : CK d mX3_pay [.ref 0, .int (nI a), .int (nI b), .int sg] N K (fun r N1 K1 => r = none ∧ RX (payG S a b sg) N1 K1 ∧ FX N N1 ∧ K1 = K) := by
  have hn := w.1.1
  obtain ⟨-, b2, b3, -⟩ := R.2.1 b (by omega)
  obtain ⟨wb1, wb2, -⟩ := w.2.1 b hb
  have ha12 : N (20 + a) 12 = s_po S a := (R.2.1 a (by omega)).2.2.2.2.2.2.2.2.2.2.2
  have R1 := R.po (f := a) (by omega) (s_po S a - sg * nI (s_wo S b))
  have hb12 := (R1.2.1 b (by omega)).2.2.2.2.2.2.2.2.2.2.2
  have R2 := R1.po (f := b) (by omega) (s_po (gZ S a (s_po S a - sg * nI (s_wo S b))) b + sg * nI (s_wo S b))
  have hw : CK (d - 1) mX0_worth [.ref (20 + b)] N K (PX (some (.int (nI (s_wo S b)))) N K) := c_X0_worth (by omega) (by omega) b2 b3 wb1 (by omega)
  refine CK.start [(0, _), (1, _), (2, _), (3, _)] (plainFor_of_name (by decide)) (Nat.le_of_ble_eq_true rfl) rfl ?_
  refine K_aload_n dX3_pay_0 rfl rfl ?_
  refine K_getR (r := 1) dX3_pay_1 fl_X3_11 rfl rfl rfl rfl ?_
  refine K_iload_n dX3_pay_4 rfl rfl ?_
  refine K_hh dX3_pay_5 (by first | omega | fail) rfl ?_
  refine K_cv (ci := 0) (d1 := d - 1) [] dX3_pay_6 ml_X3_140 (by decide) (sk_hh (by omega)) rfl rfl (Nat.le_of_ble_eq_true rfl) hw (by omega) rfl ?_
  refine K_istore (lv' := [(0, _), (1, _), (2, _), (3, _), (4, _)]) dX3_pay_9 (by decide) rfl rfl ?_
  refine K_aload_n dX3_pay_11 rfl rfl ?_
  refine K_getR (r := 1) dX3_pay_12 fl_X3_11 rfl rfl rfl rfl ?_
  refine K_iload_n dX3_pay_15 rfl rfl ?_
  refine K_hh dX3_pay_16 (by first | omega | fail) rfl ?_
  refine K_dup dX3_pay_17 rfl rfl ?_
  refine K_getI dX3_pay_18 fl_X3_143 (by first | rfl | exact sk_rk (by omega) | exact sk_hh (by omega)) rfl (by first | assumption | rfl) rfl ?_
  refine K_iload_n dX3_pay_21 rfl rfl ?_
  refine K_iload dX3_pay_22 rfl rfl ?_
  refine K_imul dX3_pay_24 rfl ?_
  first | refine K_subN dX3_pay_25 (by first | omega | fail) rfl ?_ | refine K_isub dX3_pay_25 rfl ?_
  refine K_putI dX3_pay_26 fl_X3_143 (by first | rfl | exact sk_rk (by omega) | exact sk_hh (by omega)) rfl rfl rfl rfl ?_
  refine K_aload_n dX3_pay_29 rfl rfl ?_
  refine K_getR (r := 1) dX3_pay_30 fl_X3_11 rfl rfl rfl rfl ?_
  refine K_iload_n dX3_pay_33 rfl rfl ?_
  refine K_hh dX3_pay_34 (by first | omega | fail) rfl ?_
  refine K_dup dX3_pay_35 rfl rfl ?_
  refine K_getI dX3_pay_36 fl_X3_143 (by first | rfl | exact sk_rk (by omega) | exact sk_hh (by omega)) rfl (by first | assumption | rfl) rfl ?_
  refine K_iload_n dX3_pay_39 rfl rfl ?_
  refine K_iload dX3_pay_40 rfl rfl ?_
  refine K_imul dX3_pay_42 rfl ?_
  refine K_iadd dX3_pay_43 rfl ?_
  refine K_putI dX3_pay_44 fl_X3_143 (by first | rfl | exact sk_rk (by omega) | exact sk_hh (by omega)) rfl rfl rfl rfl ?_
  refine K_ret dX3_pay_47 rfl ?_
  exact ⟨rfl, R2, ((FX.rf N).set (by omega)).set (by omega), rfl⟩
end
section
theorem wl_gN {S : GS} {k i v f : Nat} (h : k < 20) : s_wl (gN S k i v) f = s_wl S f := by
  funext j
  simp [s_wl, gN, show ¬ 20 + f = k by omega]
theorem rk_gN {S : GS} {k i v f g : Nat} (h : k < 20) (h8 : k ≠ 8) : s_rk (gN S k i v) f g = s_rk S f g := by
  unfold s_rk
  rw [wl_gN h, show s_wc (gN S k i v) f = s_wc S f by simp [s_wc, gN, Ne.symm h8]]
theorem RX.sc7 {S : GS} {N : Mem} {K : Mej} (R : RX S N K) (v : Nat) : RX (gN S 0 0 v) (sM N 0 7 (nI v)) K := by
  refine ⟨?_, fun f2 hf2 => ?_, fun f2 g hf2 hg => ?_, fun f2 hf2 => ?_, fun y f2 hy hf2 => ?_, fun i hi => ?_, R.2.2.2.2.2.2⟩
  · obtain ⟨a7, a8, a9, a10, a11, a12, a13⟩ := R.1
    exact ⟨by simp [s_n, gN, sM_at], by rw [sM_at, if_neg (by decide)]; exact a8.trans (by simp [s_yr, gN]), by rw [sM_at, if_neg (by decide)]; exact a9.trans (by simp [s_tc, gN]), by rw [sM_at, if_neg (by decide)]; exact a10.trans (by simp [s_st, gN]), by rw [sM_at, if_neg (by decide)]; exact a11.trans (by simp [s_mo, gN]), by rw [sM_at, if_neg (by decide)]; exact a12.trans (by simp [s_li, gN]), by rw [sM_at, if_neg (by decide)]; exact a13.trans (by simp [s_ch, gN])⟩
  · rw [sM_row (by omega)]
    obtain ⟨b1, b2, b3, b4, b5, b6, b7, b8, b9, b10, ⟨m, hm, b11, hb⟩, b12⟩ := R.2.1 f2 hf2
    exact ⟨b1.trans (by simp [s_wc, gN]), b2.trans (by simp [s_kd, gN]), b3.trans (by simp [s_bd, gN]), b4.trans (by simp [s_ps, gN]), b5.trans (by simp [s_pt, gN]), b6.trans (by simp [s_pr, gN]), b7.trans (by simp [s_ff, gN]), b8.trans (by simp [s_ft, gN]), b9.trans (by simp [s_tf, gN]), b10.trans (by simp [s_tt, gN]), ⟨m, hm, b11, hb⟩, b12⟩
  · rw [sM_row (by omega), rk_gN (by decide) (by decide)]; exact R.2.2.1 f2 g hf2 hg
  · rw [sM_row (by decide)]; exact R.2.2.2.1 f2 hf2
  · rw [sM_row (by decide)]; exact R.2.2.2.2.1 y f2 (by simpa [s_yr, gN] using hy) hf2
  · rw [sM_row (by decide)]; exact (R.2.2.2.2.2.1 i (by simpa [s_tc, gN] using hi)).trans (by simp [s_td, gN])
theorem RX.sc8 {S : GS} {N : Mem} {K : Mej} (R : RX S N K) (v : Nat) (hx : ∀ y f, y < v → f < 10 → N 3 (y * 10 + f) = oI (s_bk S y f)) : RX (gN S 0 4 v) (sM N 0 8 (nI v)) K := by
  refine ⟨?_, fun f2 hf2 => ?_, fun f2 g hf2 hg => ?_, fun f2 hf2 => ?_, fun y f2 hy hf2 => ?_, fun i hi => ?_, R.2.2.2.2.2.2⟩
  · obtain ⟨a7, a8, a9, a10, a11, a12, a13⟩ := R.1
    exact ⟨by rw [sM_at, if_neg (by decide)]; exact a7.trans (by simp [s_n, gN]), by simp [s_yr, gN, sM_at], by rw [sM_at, if_neg (by decide)]; exact a9.trans (by simp [s_tc, gN]), by rw [sM_at, if_neg (by decide)]; exact a10.trans (by simp [s_st, gN]), by rw [sM_at, if_neg (by decide)]; exact a11.trans (by simp [s_mo, gN]), by rw [sM_at, if_neg (by decide)]; exact a12.trans (by simp [s_li, gN]), by rw [sM_at, if_neg (by decide)]; exact a13.trans (by simp [s_ch, gN])⟩
  · rw [sM_row (by omega)]
    obtain ⟨b1, b2, b3, b4, b5, b6, b7, b8, b9, b10, ⟨m, hm, b11, hb⟩, b12⟩ := R.2.1 f2 hf2
    exact ⟨b1.trans (by simp [s_wc, gN]), b2.trans (by simp [s_kd, gN]), b3.trans (by simp [s_bd, gN]), b4.trans (by simp [s_ps, gN]), b5.trans (by simp [s_pt, gN]), b6.trans (by simp [s_pr, gN]), b7.trans (by simp [s_ff, gN]), b8.trans (by simp [s_ft, gN]), b9.trans (by simp [s_tf, gN]), b10.trans (by simp [s_tt, gN]), ⟨m, hm, b11, hb⟩, b12⟩
  · rw [sM_row (by omega), rk_gN (by decide) (by decide)]; exact R.2.2.1 f2 g hf2 hg
  · rw [sM_row (by decide)]; exact R.2.2.2.1 f2 hf2
  · rw [sM_row (by decide)]; exact hx y f2 (by simpa [s_yr, gN] using hy) hf2
  · rw [sM_row (by decide)]; exact (R.2.2.2.2.2.1 i (by simpa [s_tc, gN] using hi)).trans (by simp [s_td, gN])
theorem RX.sc9 {S : GS} {N : Mem} {K : Mej} (R : RX S N K) (v : Nat) (hx : ∀ i, i < v → N 4 i = nI (s_td S i)) : RX (gN S 0 5 v) (sM N 0 9 (nI v)) K := by
  refine ⟨?_, fun f2 hf2 => ?_, fun f2 g hf2 hg => ?_, fun f2 hf2 => ?_, fun y f2 hy hf2 => ?_, fun i hi => ?_, R.2.2.2.2.2.2⟩
  · obtain ⟨a7, a8, a9, a10, a11, a12, a13⟩ := R.1
    exact ⟨by rw [sM_at, if_neg (by decide)]; exact a7.trans (by simp [s_n, gN]), by rw [sM_at, if_neg (by decide)]; exact a8.trans (by simp [s_yr, gN]), by simp [s_tc, gN, sM_at], by rw [sM_at, if_neg (by decide)]; exact a10.trans (by simp [s_st, gN]), by rw [sM_at, if_neg (by decide)]; exact a11.trans (by simp [s_mo, gN]), by rw [sM_at, if_neg (by decide)]; exact a12.trans (by simp [s_li, gN]), by rw [sM_at, if_neg (by decide)]; exact a13.trans (by simp [s_ch, gN])⟩
  · rw [sM_row (by omega)]
    obtain ⟨b1, b2, b3, b4, b5, b6, b7, b8, b9, b10, ⟨m, hm, b11, hb⟩, b12⟩ := R.2.1 f2 hf2
    exact ⟨b1.trans (by simp [s_wc, gN]), b2.trans (by simp [s_kd, gN]), b3.trans (by simp [s_bd, gN]), b4.trans (by simp [s_ps, gN]), b5.trans (by simp [s_pt, gN]), b6.trans (by simp [s_pr, gN]), b7.trans (by simp [s_ff, gN]), b8.trans (by simp [s_ft, gN]), b9.trans (by simp [s_tf, gN]), b10.trans (by simp [s_tt, gN]), ⟨m, hm, b11, hb⟩, b12⟩
  · rw [sM_row (by omega), rk_gN (by decide) (by decide)]; exact R.2.2.1 f2 g hf2 hg
  · rw [sM_row (by decide)]; exact R.2.2.2.1 f2 hf2
  · rw [sM_row (by decide)]; exact R.2.2.2.2.1 y f2 (by simpa [s_yr, gN] using hy) hf2
  · rw [sM_row (by decide)]; exact (hx i (by simpa [s_tc, gN] using hi)).trans (by simp [s_td, gN])
theorem RX.sc10 {S : GS} {N : Mem} {K : Mej} (R : RX S N K) (v : Nat) : RX (gN S 0 1 v) (sM N 0 10 (nI v)) K := by
  refine ⟨?_, fun f2 hf2 => ?_, fun f2 g hf2 hg => ?_, fun f2 hf2 => ?_, fun y f2 hy hf2 => ?_, fun i hi => ?_, R.2.2.2.2.2.2⟩
  · obtain ⟨a7, a8, a9, a10, a11, a12, a13⟩ := R.1
    exact ⟨by rw [sM_at, if_neg (by decide)]; exact a7.trans (by simp [s_n, gN]), by rw [sM_at, if_neg (by decide)]; exact a8.trans (by simp [s_yr, gN]), by rw [sM_at, if_neg (by decide)]; exact a9.trans (by simp [s_tc, gN]), by simp [s_st, gN, sM_at], by rw [sM_at, if_neg (by decide)]; exact a11.trans (by simp [s_mo, gN]), by rw [sM_at, if_neg (by decide)]; exact a12.trans (by simp [s_li, gN]), by rw [sM_at, if_neg (by decide)]; exact a13.trans (by simp [s_ch, gN])⟩
  · rw [sM_row (by omega)]
    obtain ⟨b1, b2, b3, b4, b5, b6, b7, b8, b9, b10, ⟨m, hm, b11, hb⟩, b12⟩ := R.2.1 f2 hf2
    exact ⟨b1.trans (by simp [s_wc, gN]), b2.trans (by simp [s_kd, gN]), b3.trans (by simp [s_bd, gN]), b4.trans (by simp [s_ps, gN]), b5.trans (by simp [s_pt, gN]), b6.trans (by simp [s_pr, gN]), b7.trans (by simp [s_ff, gN]), b8.trans (by simp [s_ft, gN]), b9.trans (by simp [s_tf, gN]), b10.trans (by simp [s_tt, gN]), ⟨m, hm, b11, hb⟩, b12⟩
  · rw [sM_row (by omega), rk_gN (by decide) (by decide)]; exact R.2.2.1 f2 g hf2 hg
  · rw [sM_row (by decide)]; exact R.2.2.2.1 f2 hf2
  · rw [sM_row (by decide)]; exact R.2.2.2.2.1 y f2 (by simpa [s_yr, gN] using hy) hf2
  · rw [sM_row (by decide)]; exact (R.2.2.2.2.2.1 i (by simpa [s_tc, gN] using hi)).trans (by simp [s_td, gN])
theorem RX.sc11 {S : GS} {N : Mem} {K : Mej} (R : RX S N K) (v : Nat) : RX (gN S 0 2 v) (sM N 0 11 (nI v)) K := by
  refine ⟨?_, fun f2 hf2 => ?_, fun f2 g hf2 hg => ?_, fun f2 hf2 => ?_, fun y f2 hy hf2 => ?_, fun i hi => ?_, R.2.2.2.2.2.2⟩
  · obtain ⟨a7, a8, a9, a10, a11, a12, a13⟩ := R.1
    exact ⟨by rw [sM_at, if_neg (by decide)]; exact a7.trans (by simp [s_n, gN]), by rw [sM_at, if_neg (by decide)]; exact a8.trans (by simp [s_yr, gN]), by rw [sM_at, if_neg (by decide)]; exact a9.trans (by simp [s_tc, gN]), by rw [sM_at, if_neg (by decide)]; exact a10.trans (by simp [s_st, gN]), by simp [s_mo, gN, sM_at], by rw [sM_at, if_neg (by decide)]; exact a12.trans (by simp [s_li, gN]), by rw [sM_at, if_neg (by decide)]; exact a13.trans (by simp [s_ch, gN])⟩
  · rw [sM_row (by omega)]
    obtain ⟨b1, b2, b3, b4, b5, b6, b7, b8, b9, b10, ⟨m, hm, b11, hb⟩, b12⟩ := R.2.1 f2 hf2
    exact ⟨b1.trans (by simp [s_wc, gN]), b2.trans (by simp [s_kd, gN]), b3.trans (by simp [s_bd, gN]), b4.trans (by simp [s_ps, gN]), b5.trans (by simp [s_pt, gN]), b6.trans (by simp [s_pr, gN]), b7.trans (by simp [s_ff, gN]), b8.trans (by simp [s_ft, gN]), b9.trans (by simp [s_tf, gN]), b10.trans (by simp [s_tt, gN]), ⟨m, hm, b11, hb⟩, b12⟩
  · rw [sM_row (by omega), rk_gN (by decide) (by decide)]; exact R.2.2.1 f2 g hf2 hg
  · rw [sM_row (by decide)]; exact R.2.2.2.1 f2 hf2
  · rw [sM_row (by decide)]; exact R.2.2.2.2.1 y f2 (by simpa [s_yr, gN] using hy) hf2
  · rw [sM_row (by decide)]; exact (R.2.2.2.2.2.1 i (by simpa [s_tc, gN] using hi)).trans (by simp [s_td, gN])
theorem RX.sc12 {S : GS} {N : Mem} {K : Mej} (R : RX S N K) (v : Nat) : RX (gN S 0 3 v) (sM N 0 12 (nI v)) K := by
  refine ⟨?_, fun f2 hf2 => ?_, fun f2 g hf2 hg => ?_, fun f2 hf2 => ?_, fun y f2 hy hf2 => ?_, fun i hi => ?_, R.2.2.2.2.2.2⟩
  · obtain ⟨a7, a8, a9, a10, a11, a12, a13⟩ := R.1
    exact ⟨by rw [sM_at, if_neg (by decide)]; exact a7.trans (by simp [s_n, gN]), by rw [sM_at, if_neg (by decide)]; exact a8.trans (by simp [s_yr, gN]), by rw [sM_at, if_neg (by decide)]; exact a9.trans (by simp [s_tc, gN]), by rw [sM_at, if_neg (by decide)]; exact a10.trans (by simp [s_st, gN]), by rw [sM_at, if_neg (by decide)]; exact a11.trans (by simp [s_mo, gN]), by simp [s_li, gN, sM_at], by rw [sM_at, if_neg (by decide)]; exact a13.trans (by simp [s_ch, gN])⟩
  · rw [sM_row (by omega)]
    obtain ⟨b1, b2, b3, b4, b5, b6, b7, b8, b9, b10, ⟨m, hm, b11, hb⟩, b12⟩ := R.2.1 f2 hf2
    exact ⟨b1.trans (by simp [s_wc, gN]), b2.trans (by simp [s_kd, gN]), b3.trans (by simp [s_bd, gN]), b4.trans (by simp [s_ps, gN]), b5.trans (by simp [s_pt, gN]), b6.trans (by simp [s_pr, gN]), b7.trans (by simp [s_ff, gN]), b8.trans (by simp [s_ft, gN]), b9.trans (by simp [s_tf, gN]), b10.trans (by simp [s_tt, gN]), ⟨m, hm, b11, hb⟩, b12⟩
  · rw [sM_row (by omega), rk_gN (by decide) (by decide)]; exact R.2.2.1 f2 g hf2 hg
  · rw [sM_row (by decide)]; exact R.2.2.2.1 f2 hf2
  · rw [sM_row (by decide)]; exact R.2.2.2.2.1 y f2 (by simpa [s_yr, gN] using hy) hf2
  · rw [sM_row (by decide)]; exact (R.2.2.2.2.2.1 i (by simpa [s_tc, gN] using hi)).trans (by simp [s_td, gN])
theorem RX.h2 {S : GS} {N : Mem} {K : Mej} (R : RX S N K) {f : Nat} (hf : f < 10) (v : Nat) : RX (gN S 1 f v) (sM N (20 + f) 2 (nI v)) K := by
  refine ⟨?_, fun f2 hf2 => ?_, fun f2 g hf2 hg => ?_, fun f2 hf2 => ?_, fun y f2 hy hf2 => ?_, fun i hi => ?_, R.2.2.2.2.2.2⟩
  · rw [sM_row (by omega)]
    obtain ⟨a7, a8, a9, a10, a11, a12, a13⟩ := R.1
    exact ⟨a7.trans (by simp [s_n, gN]), a8.trans (by simp [s_yr, gN]), a9.trans (by simp [s_tc, gN]), a10.trans (by simp [s_st, gN]), a11.trans (by simp [s_mo, gN]), a12.trans (by simp [s_li, gN]), a13.trans (by simp [s_ch, gN])⟩
  · obtain ⟨b1, b2, b3, b4, b5, b6, b7, b8, b9, b10, ⟨m, hm, b11, hb⟩, b12⟩ := R.2.1 f2 hf2
    refine ⟨?_, ?_, ?_, ?_, ?_, ?_, ?_, ?_, ?_, ?_, ⟨m, hm, ?_, fun z hz => (hb z hz).trans (by simp [s_br, gN])⟩, ?_⟩ <;> rw [sM_at]
    · rw [if_neg (by omega)]; exact b1.trans (by simp [s_wc, gN])
    · by_cases e : f2 = f
      · subst e
        simp [s_kd, gN]
      · rw [if_neg (by omega), b2]
        simp [s_kd, gN, e]
    · rw [if_neg (by omega)]; exact b3.trans (by simp [s_bd, gN])
    · rw [if_neg (by omega)]; exact b4.trans (by simp [s_ps, gN])
    · rw [if_neg (by omega)]; exact b5.trans (by simp [s_pt, gN])
    · rw [if_neg (by omega)]; exact b6.trans (by simp [s_pr, gN])
    · rw [if_neg (by omega)]; exact b7.trans (by simp [s_ff, gN])
    · rw [if_neg (by omega)]; exact b8.trans (by simp [s_ft, gN])
    · rw [if_neg (by omega)]; exact b9.trans (by simp [s_tf, gN])
    · rw [if_neg (by omega)]; exact b10.trans (by simp [s_tt, gN])
    · rw [if_neg (by omega)]; exact b11
    · rw [if_neg (by omega)]; exact b12
  · rw [sM_row (by omega), rk_gN (by decide) (by decide)]; exact R.2.2.1 f2 g hf2 hg
  · rw [sM_row (by omega)]; exact R.2.2.2.1 f2 hf2
  · rw [sM_row (by omega)]; exact R.2.2.2.2.1 y f2 (by simpa [s_yr, gN] using hy) hf2
  · rw [sM_row (by omega)]; exact (R.2.2.2.2.2.1 i (by simpa [s_tc, gN] using hi)).trans (by simp [s_td, gN])
theorem RX.h3 {S : GS} {N : Mem} {K : Mej} (R : RX S N K) {f : Nat} (hf : f < 10) (v : Nat) : RX (gN S 2 f v) (sM N (20 + f) 3 (nI v)) K := by
  refine ⟨?_, fun f2 hf2 => ?_, fun f2 g hf2 hg => ?_, fun f2 hf2 => ?_, fun y f2 hy hf2 => ?_, fun i hi => ?_, R.2.2.2.2.2.2⟩
  · rw [sM_row (by omega)]
    obtain ⟨a7, a8, a9, a10, a11, a12, a13⟩ := R.1
    exact ⟨a7.trans (by simp [s_n, gN]), a8.trans (by simp [s_yr, gN]), a9.trans (by simp [s_tc, gN]), a10.trans (by simp [s_st, gN]), a11.trans (by simp [s_mo, gN]), a12.trans (by simp [s_li, gN]), a13.trans (by simp [s_ch, gN])⟩
  · obtain ⟨b1, b2, b3, b4, b5, b6, b7, b8, b9, b10, ⟨m, hm, b11, hb⟩, b12⟩ := R.2.1 f2 hf2
    refine ⟨?_, ?_, ?_, ?_, ?_, ?_, ?_, ?_, ?_, ?_, ⟨m, hm, ?_, fun z hz => (hb z hz).trans (by simp [s_br, gN])⟩, ?_⟩ <;> rw [sM_at]
    · rw [if_neg (by omega)]; exact b1.trans (by simp [s_wc, gN])
    · rw [if_neg (by omega)]; exact b2.trans (by simp [s_kd, gN])
    · by_cases e : f2 = f
      · subst e
        simp [s_bd, gN]
      · rw [if_neg (by omega), b3]
        simp [s_bd, gN, e]
    · rw [if_neg (by omega)]; exact b4.trans (by simp [s_ps, gN])
    · rw [if_neg (by omega)]; exact b5.trans (by simp [s_pt, gN])
    · rw [if_neg (by omega)]; exact b6.trans (by simp [s_pr, gN])
    · rw [if_neg (by omega)]; exact b7.trans (by simp [s_ff, gN])
    · rw [if_neg (by omega)]; exact b8.trans (by simp [s_ft, gN])
    · rw [if_neg (by omega)]; exact b9.trans (by simp [s_tf, gN])
    · rw [if_neg (by omega)]; exact b10.trans (by simp [s_tt, gN])
    · rw [if_neg (by omega)]; exact b11
    · rw [if_neg (by omega)]; exact b12
  · rw [sM_row (by omega), rk_gN (by decide) (by decide)]; exact R.2.2.1 f2 g hf2 hg
  · rw [sM_row (by omega)]; exact R.2.2.2.1 f2 hf2
  · rw [sM_row (by omega)]; exact R.2.2.2.2.1 y f2 (by simpa [s_yr, gN] using hy) hf2
  · rw [sM_row (by omega)]; exact (R.2.2.2.2.2.1 i (by simpa [s_tc, gN] using hi)).trans (by simp [s_td, gN])
theorem RX.h4 {S : GS} {N : Mem} {K : Mej} (R : RX S N K) {f : Nat} (hf : f < 10) (v : Nat) : RX (gN S 3 f v) (sM N (20 + f) 4 (nI v)) K := by
  refine ⟨?_, fun f2 hf2 => ?_, fun f2 g hf2 hg => ?_, fun f2 hf2 => ?_, fun y f2 hy hf2 => ?_, fun i hi => ?_, R.2.2.2.2.2.2⟩
  · rw [sM_row (by omega)]
    obtain ⟨a7, a8, a9, a10, a11, a12, a13⟩ := R.1
    exact ⟨a7.trans (by simp [s_n, gN]), a8.trans (by simp [s_yr, gN]), a9.trans (by simp [s_tc, gN]), a10.trans (by simp [s_st, gN]), a11.trans (by simp [s_mo, gN]), a12.trans (by simp [s_li, gN]), a13.trans (by simp [s_ch, gN])⟩
  · obtain ⟨b1, b2, b3, b4, b5, b6, b7, b8, b9, b10, ⟨m, hm, b11, hb⟩, b12⟩ := R.2.1 f2 hf2
    refine ⟨?_, ?_, ?_, ?_, ?_, ?_, ?_, ?_, ?_, ?_, ⟨m, hm, ?_, fun z hz => (hb z hz).trans (by simp [s_br, gN])⟩, ?_⟩ <;> rw [sM_at]
    · rw [if_neg (by omega)]; exact b1.trans (by simp [s_wc, gN])
    · rw [if_neg (by omega)]; exact b2.trans (by simp [s_kd, gN])
    · rw [if_neg (by omega)]; exact b3.trans (by simp [s_bd, gN])
    · by_cases e : f2 = f
      · subst e
        simp [s_ps, gN]
      · rw [if_neg (by omega), b4]
        simp [s_ps, gN, e]
    · rw [if_neg (by omega)]; exact b5.trans (by simp [s_pt, gN])
    · rw [if_neg (by omega)]; exact b6.trans (by simp [s_pr, gN])
    · rw [if_neg (by omega)]; exact b7.trans (by simp [s_ff, gN])
    · rw [if_neg (by omega)]; exact b8.trans (by simp [s_ft, gN])
    · rw [if_neg (by omega)]; exact b9.trans (by simp [s_tf, gN])
    · rw [if_neg (by omega)]; exact b10.trans (by simp [s_tt, gN])
    · rw [if_neg (by omega)]; exact b11
    · rw [if_neg (by omega)]; exact b12
  · rw [sM_row (by omega), rk_gN (by decide) (by decide)]; exact R.2.2.1 f2 g hf2 hg
  · rw [sM_row (by omega)]; exact R.2.2.2.1 f2 hf2
  · rw [sM_row (by omega)]; exact R.2.2.2.2.1 y f2 (by simpa [s_yr, gN] using hy) hf2
  · rw [sM_row (by omega)]; exact (R.2.2.2.2.2.1 i (by simpa [s_tc, gN] using hi)).trans (by simp [s_td, gN])
theorem RX.h5 {S : GS} {N : Mem} {K : Mej} (R : RX S N K) {f : Nat} (hf : f < 10) (v : Bool) : RX (gB S 0 f 0 v) (sM N (20 + f) 5 (bI v)) K := by
  refine ⟨?_, fun f2 hf2 => ?_, fun f2 g hf2 hg => ?_, fun f2 hf2 => ?_, fun y f2 hy hf2 => ?_, fun i hi => ?_, R.2.2.2.2.2.2⟩
  · rw [sM_row (by omega)]
    obtain ⟨a7, a8, a9, a10, a11, a12, a13⟩ := R.1
    exact ⟨a7.trans (by simp [s_n, gB]), a8.trans (by simp [s_yr, gB]), a9.trans (by simp [s_tc, gB]), a10.trans (by simp [s_st, gB]), a11.trans (by simp [s_mo, gB]), a12.trans (by simp [s_li, gB]), a13.trans (by simp [s_ch, gB])⟩
  · obtain ⟨b1, b2, b3, b4, b5, b6, b7, b8, b9, b10, ⟨m, hm, b11, hb⟩, b12⟩ := R.2.1 f2 hf2
    refine ⟨?_, ?_, ?_, ?_, ?_, ?_, ?_, ?_, ?_, ?_, ⟨m, hm, ?_, fun z hz => (hb z hz).trans (by simp [s_br, gB])⟩, ?_⟩ <;> rw [sM_at]
    · rw [if_neg (by omega)]; exact b1.trans (by simp [s_wc, gB])
    · rw [if_neg (by omega)]; exact b2.trans (by simp [s_kd, gB])
    · rw [if_neg (by omega)]; exact b3.trans (by simp [s_bd, gB])
    · rw [if_neg (by omega)]; exact b4.trans (by simp [s_ps, gB])
    · by_cases e : f2 = f
      · subst e
        simp [s_pt, gB]
      · rw [if_neg (by omega), b5]
        simp [s_pt, gB, e]
    · rw [if_neg (by omega)]; exact b6.trans (by simp [s_pr, gB])
    · rw [if_neg (by omega)]; exact b7.trans (by simp [s_ff, gB])
    · rw [if_neg (by omega)]; exact b8.trans (by simp [s_ft, gB])
    · rw [if_neg (by omega)]; exact b9.trans (by simp [s_tf, gB])
    · rw [if_neg (by omega)]; exact b10.trans (by simp [s_tt, gB])
    · rw [if_neg (by omega)]; exact b11
    · rw [if_neg (by omega)]; exact b12
  · rw [sM_row (by omega)]; exact R.2.2.1 f2 g hf2 hg
  · rw [sM_row (by omega)]; exact R.2.2.2.1 f2 hf2
  · rw [sM_row (by omega)]; exact R.2.2.2.2.1 y f2 (by simpa [s_yr, gB] using hy) hf2
  · rw [sM_row (by omega)]; exact (R.2.2.2.2.2.1 i (by simpa [s_tc, gB] using hi)).trans (by simp [s_td, gB])
theorem RX.h6 {S : GS} {N : Mem} {K : Mej} (R : RX S N K) {f : Nat} (hf : f < 10) (v : Bool) : RX (gB S 1 f 0 v) (sM N (20 + f) 6 (bI v)) K := by
  refine ⟨?_, fun f2 hf2 => ?_, fun f2 g hf2 hg => ?_, fun f2 hf2 => ?_, fun y f2 hy hf2 => ?_, fun i hi => ?_, R.2.2.2.2.2.2⟩
  · rw [sM_row (by omega)]
    obtain ⟨a7, a8, a9, a10, a11, a12, a13⟩ := R.1
    exact ⟨a7.trans (by simp [s_n, gB]), a8.trans (by simp [s_yr, gB]), a9.trans (by simp [s_tc, gB]), a10.trans (by simp [s_st, gB]), a11.trans (by simp [s_mo, gB]), a12.trans (by simp [s_li, gB]), a13.trans (by simp [s_ch, gB])⟩
  · obtain ⟨b1, b2, b3, b4, b5, b6, b7, b8, b9, b10, ⟨m, hm, b11, hb⟩, b12⟩ := R.2.1 f2 hf2
    refine ⟨?_, ?_, ?_, ?_, ?_, ?_, ?_, ?_, ?_, ?_, ⟨m, hm, ?_, fun z hz => (hb z hz).trans (by simp [s_br, gB])⟩, ?_⟩ <;> rw [sM_at]
    · rw [if_neg (by omega)]; exact b1.trans (by simp [s_wc, gB])
    · rw [if_neg (by omega)]; exact b2.trans (by simp [s_kd, gB])
    · rw [if_neg (by omega)]; exact b3.trans (by simp [s_bd, gB])
    · rw [if_neg (by omega)]; exact b4.trans (by simp [s_ps, gB])
    · rw [if_neg (by omega)]; exact b5.trans (by simp [s_pt, gB])
    · by_cases e : f2 = f
      · subst e
        simp [s_pr, gB]
      · rw [if_neg (by omega), b6]
        simp [s_pr, gB, e]
    · rw [if_neg (by omega)]; exact b7.trans (by simp [s_ff, gB])
    · rw [if_neg (by omega)]; exact b8.trans (by simp [s_ft, gB])
    · rw [if_neg (by omega)]; exact b9.trans (by simp [s_tf, gB])
    · rw [if_neg (by omega)]; exact b10.trans (by simp [s_tt, gB])
    · rw [if_neg (by omega)]; exact b11
    · rw [if_neg (by omega)]; exact b12
  · rw [sM_row (by omega)]; exact R.2.2.1 f2 g hf2 hg
  · rw [sM_row (by omega)]; exact R.2.2.2.1 f2 hf2
  · rw [sM_row (by omega)]; exact R.2.2.2.2.1 y f2 (by simpa [s_yr, gB] using hy) hf2
  · rw [sM_row (by omega)]; exact (R.2.2.2.2.2.1 i (by simpa [s_tc, gB] using hi)).trans (by simp [s_td, gB])
theorem RX.h7 {S : GS} {N : Mem} {K : Mej} (R : RX S N K) {f : Nat} (hf : f < 10) (v : Nat) : RX (gN S 4 f v) (sM N (20 + f) 7 (nI v)) K := by
  refine ⟨?_, fun f2 hf2 => ?_, fun f2 g hf2 hg => ?_, fun f2 hf2 => ?_, fun y f2 hy hf2 => ?_, fun i hi => ?_, R.2.2.2.2.2.2⟩
  · rw [sM_row (by omega)]
    obtain ⟨a7, a8, a9, a10, a11, a12, a13⟩ := R.1
    exact ⟨a7.trans (by simp [s_n, gN]), a8.trans (by simp [s_yr, gN]), a9.trans (by simp [s_tc, gN]), a10.trans (by simp [s_st, gN]), a11.trans (by simp [s_mo, gN]), a12.trans (by simp [s_li, gN]), a13.trans (by simp [s_ch, gN])⟩
  · obtain ⟨b1, b2, b3, b4, b5, b6, b7, b8, b9, b10, ⟨m, hm, b11, hb⟩, b12⟩ := R.2.1 f2 hf2
    refine ⟨?_, ?_, ?_, ?_, ?_, ?_, ?_, ?_, ?_, ?_, ⟨m, hm, ?_, fun z hz => (hb z hz).trans (by simp [s_br, gN])⟩, ?_⟩ <;> rw [sM_at]
    · rw [if_neg (by omega)]; exact b1.trans (by simp [s_wc, gN])
    · rw [if_neg (by omega)]; exact b2.trans (by simp [s_kd, gN])
    · rw [if_neg (by omega)]; exact b3.trans (by simp [s_bd, gN])
    · rw [if_neg (by omega)]; exact b4.trans (by simp [s_ps, gN])
    · rw [if_neg (by omega)]; exact b5.trans (by simp [s_pt, gN])
    · rw [if_neg (by omega)]; exact b6.trans (by simp [s_pr, gN])
    · by_cases e : f2 = f
      · subst e
        simp [s_ff, gN]
      · rw [if_neg (by omega), b7]
        simp [s_ff, gN, e]
    · rw [if_neg (by omega)]; exact b8.trans (by simp [s_ft, gN])
    · rw [if_neg (by omega)]; exact b9.trans (by simp [s_tf, gN])
    · rw [if_neg (by omega)]; exact b10.trans (by simp [s_tt, gN])
    · rw [if_neg (by omega)]; exact b11
    · rw [if_neg (by omega)]; exact b12
  · rw [sM_row (by omega), rk_gN (by decide) (by decide)]; exact R.2.2.1 f2 g hf2 hg
  · rw [sM_row (by omega)]; exact R.2.2.2.1 f2 hf2
  · rw [sM_row (by omega)]; exact R.2.2.2.2.1 y f2 (by simpa [s_yr, gN] using hy) hf2
  · rw [sM_row (by omega)]; exact (R.2.2.2.2.2.1 i (by simpa [s_tc, gN] using hi)).trans (by simp [s_td, gN])
theorem RX.h8 {S : GS} {N : Mem} {K : Mej} (R : RX S N K) {f : Nat} (hf : f < 10) (v : Nat) : RX (gN S 5 f v) (sM N (20 + f) 8 (nI v)) K := by
  refine ⟨?_, fun f2 hf2 => ?_, fun f2 g hf2 hg => ?_, fun f2 hf2 => ?_, fun y f2 hy hf2 => ?_, fun i hi => ?_, R.2.2.2.2.2.2⟩
  · rw [sM_row (by omega)]
    obtain ⟨a7, a8, a9, a10, a11, a12, a13⟩ := R.1
    exact ⟨a7.trans (by simp [s_n, gN]), a8.trans (by simp [s_yr, gN]), a9.trans (by simp [s_tc, gN]), a10.trans (by simp [s_st, gN]), a11.trans (by simp [s_mo, gN]), a12.trans (by simp [s_li, gN]), a13.trans (by simp [s_ch, gN])⟩
  · obtain ⟨b1, b2, b3, b4, b5, b6, b7, b8, b9, b10, ⟨m, hm, b11, hb⟩, b12⟩ := R.2.1 f2 hf2
    refine ⟨?_, ?_, ?_, ?_, ?_, ?_, ?_, ?_, ?_, ?_, ⟨m, hm, ?_, fun z hz => (hb z hz).trans (by simp [s_br, gN])⟩, ?_⟩ <;> rw [sM_at]
    · rw [if_neg (by omega)]; exact b1.trans (by simp [s_wc, gN])
    · rw [if_neg (by omega)]; exact b2.trans (by simp [s_kd, gN])
    · rw [if_neg (by omega)]; exact b3.trans (by simp [s_bd, gN])
    · rw [if_neg (by omega)]; exact b4.trans (by simp [s_ps, gN])
    · rw [if_neg (by omega)]; exact b5.trans (by simp [s_pt, gN])
    · rw [if_neg (by omega)]; exact b6.trans (by simp [s_pr, gN])
    · rw [if_neg (by omega)]; exact b7.trans (by simp [s_ff, gN])
    · by_cases e : f2 = f
      · subst e
        simp [s_ft, gN]
      · rw [if_neg (by omega), b8]
        simp [s_ft, gN, e]
    · rw [if_neg (by omega)]; exact b9.trans (by simp [s_tf, gN])
    · rw [if_neg (by omega)]; exact b10.trans (by simp [s_tt, gN])
    · rw [if_neg (by omega)]; exact b11
    · rw [if_neg (by omega)]; exact b12
  · rw [sM_row (by omega), rk_gN (by decide) (by decide)]; exact R.2.2.1 f2 g hf2 hg
  · rw [sM_row (by omega)]; exact R.2.2.2.1 f2 hf2
  · rw [sM_row (by omega)]; exact R.2.2.2.2.1 y f2 (by simpa [s_yr, gN] using hy) hf2
  · rw [sM_row (by omega)]; exact (R.2.2.2.2.2.1 i (by simpa [s_tc, gN] using hi)).trans (by simp [s_td, gN])
theorem RX.h9 {S : GS} {N : Mem} {K : Mej} (R : RX S N K) {f : Nat} (hf : f < 10) (v : Nat) : RX (gN S 6 f v) (sM N (20 + f) 9 (nI v)) K := by
  refine ⟨?_, fun f2 hf2 => ?_, fun f2 g hf2 hg => ?_, fun f2 hf2 => ?_, fun y f2 hy hf2 => ?_, fun i hi => ?_, R.2.2.2.2.2.2⟩
  · rw [sM_row (by omega)]
    obtain ⟨a7, a8, a9, a10, a11, a12, a13⟩ := R.1
    exact ⟨a7.trans (by simp [s_n, gN]), a8.trans (by simp [s_yr, gN]), a9.trans (by simp [s_tc, gN]), a10.trans (by simp [s_st, gN]), a11.trans (by simp [s_mo, gN]), a12.trans (by simp [s_li, gN]), a13.trans (by simp [s_ch, gN])⟩
  · obtain ⟨b1, b2, b3, b4, b5, b6, b7, b8, b9, b10, ⟨m, hm, b11, hb⟩, b12⟩ := R.2.1 f2 hf2
    refine ⟨?_, ?_, ?_, ?_, ?_, ?_, ?_, ?_, ?_, ?_, ⟨m, hm, ?_, fun z hz => (hb z hz).trans (by simp [s_br, gN])⟩, ?_⟩ <;> rw [sM_at]
    · rw [if_neg (by omega)]; exact b1.trans (by simp [s_wc, gN])
    · rw [if_neg (by omega)]; exact b2.trans (by simp [s_kd, gN])
    · rw [if_neg (by omega)]; exact b3.trans (by simp [s_bd, gN])
    · rw [if_neg (by omega)]; exact b4.trans (by simp [s_ps, gN])
    · rw [if_neg (by omega)]; exact b5.trans (by simp [s_pt, gN])
    · rw [if_neg (by omega)]; exact b6.trans (by simp [s_pr, gN])
    · rw [if_neg (by omega)]; exact b7.trans (by simp [s_ff, gN])
    · rw [if_neg (by omega)]; exact b8.trans (by simp [s_ft, gN])
    · by_cases e : f2 = f
      · subst e
        simp [s_tf, gN]
      · rw [if_neg (by omega), b9]
        simp [s_tf, gN, e]
    · rw [if_neg (by omega)]; exact b10.trans (by simp [s_tt, gN])
    · rw [if_neg (by omega)]; exact b11
    · rw [if_neg (by omega)]; exact b12
  · rw [sM_row (by omega), rk_gN (by decide) (by decide)]; exact R.2.2.1 f2 g hf2 hg
  · rw [sM_row (by omega)]; exact R.2.2.2.1 f2 hf2
  · rw [sM_row (by omega)]; exact R.2.2.2.2.1 y f2 (by simpa [s_yr, gN] using hy) hf2
  · rw [sM_row (by omega)]; exact (R.2.2.2.2.2.1 i (by simpa [s_tc, gN] using hi)).trans (by simp [s_td, gN])
theorem RX.h10 {S : GS} {N : Mem} {K : Mej} (R : RX S N K) {f : Nat} (hf : f < 10) (v : Nat) : RX (gN S 7 f v) (sM N (20 + f) 10 (nI v)) K := by
  refine ⟨?_, fun f2 hf2 => ?_, fun f2 g hf2 hg => ?_, fun f2 hf2 => ?_, fun y f2 hy hf2 => ?_, fun i hi => ?_, R.2.2.2.2.2.2⟩
  · rw [sM_row (by omega)]
    obtain ⟨a7, a8, a9, a10, a11, a12, a13⟩ := R.1
    exact ⟨a7.trans (by simp [s_n, gN]), a8.trans (by simp [s_yr, gN]), a9.trans (by simp [s_tc, gN]), a10.trans (by simp [s_st, gN]), a11.trans (by simp [s_mo, gN]), a12.trans (by simp [s_li, gN]), a13.trans (by simp [s_ch, gN])⟩
  · obtain ⟨b1, b2, b3, b4, b5, b6, b7, b8, b9, b10, ⟨m, hm, b11, hb⟩, b12⟩ := R.2.1 f2 hf2
    refine ⟨?_, ?_, ?_, ?_, ?_, ?_, ?_, ?_, ?_, ?_, ⟨m, hm, ?_, fun z hz => (hb z hz).trans (by simp [s_br, gN])⟩, ?_⟩ <;> rw [sM_at]
    · rw [if_neg (by omega)]; exact b1.trans (by simp [s_wc, gN])
    · rw [if_neg (by omega)]; exact b2.trans (by simp [s_kd, gN])
    · rw [if_neg (by omega)]; exact b3.trans (by simp [s_bd, gN])
    · rw [if_neg (by omega)]; exact b4.trans (by simp [s_ps, gN])
    · rw [if_neg (by omega)]; exact b5.trans (by simp [s_pt, gN])
    · rw [if_neg (by omega)]; exact b6.trans (by simp [s_pr, gN])
    · rw [if_neg (by omega)]; exact b7.trans (by simp [s_ff, gN])
    · rw [if_neg (by omega)]; exact b8.trans (by simp [s_ft, gN])
    · rw [if_neg (by omega)]; exact b9.trans (by simp [s_tf, gN])
    · by_cases e : f2 = f
      · subst e
        simp [s_tt, gN]
      · rw [if_neg (by omega), b10]
        simp [s_tt, gN, e]
    · rw [if_neg (by omega)]; exact b11
    · rw [if_neg (by omega)]; exact b12
  · rw [sM_row (by omega), rk_gN (by decide) (by decide)]; exact R.2.2.1 f2 g hf2 hg
  · rw [sM_row (by omega)]; exact R.2.2.2.1 f2 hf2
  · rw [sM_row (by omega)]; exact R.2.2.2.2.1 y f2 (by simpa [s_yr, gN] using hy) hf2
  · rw [sM_row (by omega)]; exact (R.2.2.2.2.2.1 i (by simpa [s_tc, gN] using hi)).trans (by simp [s_td, gN])
end
