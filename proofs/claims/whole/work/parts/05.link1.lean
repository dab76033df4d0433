theorem wc_X3_showHomes : Cond.code yX3_showHomes cX3_showHomes 5 (some .int) ∈ lwg := lwg_of (List.mem_of_getElem? (i := 484) (by decide +kernel)) rfl
theorem wm_X3_showHomes : Cond.instanceMethod yX3_showHomes ∈ lwg := lwg_of (List.mem_of_getElem? (i := 483) (by decide +kernel)) rfl
theorem ws_X3_showHomes : Cond.selects RX3 yX3_showHomes yX3_showHomes ∈ lwg := lwg_of (List.mem_of_getElem? (i := 27) (by decide +kernel)) rfl
theorem wc_X3_firstWithoutHome : Cond.code yX3_firstWithoutHome cX3_firstWithoutHome 3 (some .int) ∈ lwg := lwg_of (List.mem_of_getElem? (i := 488) (by decide +kernel)) rfl
theorem wm_X3_firstWithoutHome : Cond.instanceMethod yX3_firstWithoutHome ∈ lwg := lwg_of (List.mem_of_getElem? (i := 487) (by decide +kernel)) rfl
theorem ws_X3_firstWithoutHome : Cond.selects RX3 yX3_firstWithoutHome yX3_firstWithoutHome ∈ lwg := lwg_of (List.mem_of_getElem? (i := 28) (by decide +kernel)) rfl
theorem wc_X3_likedMost : Cond.code yX3_likedMost cX3_likedMost 6 (some .int) ∈ lwg := lwg_of (List.mem_of_getElem? (i := 492) (by decide +kernel)) rfl
theorem wm_X3_likedMost : Cond.instanceMethod yX3_likedMost ∈ lwg := lwg_of (List.mem_of_getElem? (i := 491) (by decide +kernel)) rfl
theorem ws_X3_likedMost : Cond.selects RX3 yX3_likedMost yX3_likedMost ∈ lwg := lwg_of (List.mem_of_getElem? (i := 29) (by decide +kernel)) rfl
theorem wc_X3_sendShownRing : Cond.code yX3_sendShownRing cX3_sendShownRing 3 (some .int) ∈ lwg := lwg_of (List.mem_of_getElem? (i := 496) (by decide +kernel)) rfl
theorem wm_X3_sendShownRing : Cond.instanceMethod yX3_sendShownRing ∈ lwg := lwg_of (List.mem_of_getElem? (i := 495) (by decide +kernel)) rfl
theorem ws_X3_sendShownRing : Cond.selects RX3 yX3_sendShownRing yX3_sendShownRing ∈ lwg := lwg_of (List.mem_of_getElem? (i := 30) (by decide +kernel)) rfl
theorem wc_X3_comesRound : Cond.code yX3_comesRound cX3_comesRound 4 (some .boolean) ∈ lwg := lwg_of (List.mem_of_getElem? (i := 500) (by decide +kernel)) rfl
theorem wm_X3_comesRound : Cond.instanceMethod yX3_comesRound ∈ lwg := lwg_of (List.mem_of_getElem? (i := 499) (by decide +kernel)) rfl
theorem ws_X3_comesRound : Cond.selects RX3 yX3_comesRound yX3_comesRound ∈ lwg := lwg_of (List.mem_of_getElem? (i := 31) (by decide +kernel)) rfl
theorem wc_X3_sendAsShown : Cond.code yX3_sendAsShown cX3_sendAsShown 5 (some .int) ∈ lwg := lwg_of (List.mem_of_getElem? (i := 504) (by decide +kernel)) rfl
theorem wm_X3_sendAsShown : Cond.instanceMethod yX3_sendAsShown ∈ lwg := lwg_of (List.mem_of_getElem? (i := 503) (by decide +kernel)) rfl
theorem ws_X3_sendAsShown : Cond.selects RX3 yX3_sendAsShown yX3_sendAsShown ∈ lwg := lwg_of (List.mem_of_getElem? (i := 32) (by decide +kernel)) rfl
theorem wc_X3_addChainWaysTo : Cond.code yX3_addChainWaysTo cX3_addChainWaysTo 6 none ∈ lwg := lwg_of (List.mem_of_getElem? (i := 547) (by decide +kernel)) rfl
theorem wm_X3_addChainWaysTo : Cond.instanceMethod yX3_addChainWaysTo ∈ lwg := lwg_of (List.mem_of_getElem? (i := 546) (by decide +kernel)) rfl
theorem ws_X3_addChainWaysTo : Cond.selects RX3 yX3_addChainWaysTo yX3_addChainWaysTo ∈ lwg := lwg_of (List.mem_of_getElem? (i := 36) (by decide +kernel)) rfl
theorem wc_X3_pay : Cond.code yX3_pay cX3_pay 5 none ∈ lwg := lwg_of (List.mem_of_getElem? (i := 582) (by decide +kernel)) rfl
theorem wm_X3_pay : Cond.instanceMethod yX3_pay ∈ lwg := lwg_of (List.mem_of_getElem? (i := 581) (by decide +kernel)) rfl
theorem ws_X3_pay : Cond.selects RX3 yX3_pay yX3_pay ∈ lwg := lwg_of (List.mem_of_getElem? (i := 41) (by decide +kernel)) rfl
theorem wc_X3_payPlan : Cond.code yX3_payPlan cX3_payPlan 3 none ∈ lwg := lwg_of (List.mem_of_getElem? (i := 590) (by decide +kernel)) rfl
theorem wm_X3_payPlan : Cond.instanceMethod yX3_payPlan ∈ lwg := lwg_of (List.mem_of_getElem? (i := 589) (by decide +kernel)) rfl
theorem ws_X3_payPlan : Cond.selects RX3 yX3_payPlan yX3_payPlan ∈ lwg := lwg_of (List.mem_of_getElem? (i := 42) (by decide +kernel)) rfl
theorem wc_X4_init : Cond.code yX4_init cX4_init 1 none ∈ lwg := lwg_of (List.mem_of_getElem? (i := 690) (by decide +kernel)) rfl
theorem wm_X4_init : Cond.instanceMethod yX4_init ∈ lwg := lwg_of (List.mem_of_getElem? (i := 689) (by decide +kernel)) rfl
theorem wc_X4_thrown : Cond.code yX4_thrown cX4_thrown 1 (some .int) ∈ lwg := lwg_of (List.mem_of_getElem? (i := 805) (by decide +kernel)) rfl
theorem wm_X4_thrown : Cond.instanceMethod yX4_thrown ∈ lwg := lwg_of (List.mem_of_getElem? (i := 803) (by decide +kernel)) rfl
theorem ws_X4_thrown : Cond.selects RX4 yX4_thrown yX4_thrown ∈ lwg := lwg_of (List.mem_of_getElem? (i := 804) (by decide +kernel)) rfl
theorem wc_X4_lies : Cond.code yX4_lies cX4_lies 6 (some .boolean) ∈ lwg := lwg_of (List.mem_of_getElem? (i := 813) (by decide +kernel)) rfl
theorem wt_X4_lies : Cond.static yX4_lies ∈ lwg := lwg_of (List.mem_of_getElem? (i := 812) (by decide +kernel)) rfl
theorem wc_X4_refuse : Cond.code yX4_refuse cX4_refuse 1 (some .int) ∈ lwg := lwg_of (List.mem_of_getElem? (i := 926) (by decide +kernel)) rfl
theorem wm_X4_refuse : Cond.instanceMethod yX4_refuse ∈ lwg := lwg_of (List.mem_of_getElem? (i := 925) (by decide +kernel)) rfl
theorem ws_X4_refuse : Cond.selects RX4 yX4_refuse yX4_refuse ∈ lwg := lwg_of (List.mem_of_getElem? (i := 58) (by decide +kernel)) rfl
theorem wc_X4_isFamily : Cond.code yX4_isFamily cX4_isFamily 2 (some .boolean) ∈ lwg := lwg_of (List.mem_of_getElem? (i := 822) (by decide +kernel)) rfl
theorem wm_X4_isFamily : Cond.instanceMethod yX4_isFamily ∈ lwg := lwg_of (List.mem_of_getElem? (i := 821) (by decide +kernel)) rfl
theorem ws_X4_isFamily : Cond.selects RX4 yX4_isFamily yX4_isFamily ∈ lwg := lwg_of (List.mem_of_getElem? (i := 45) (by decide +kernel)) rfl
theorem wc_X4_areTwo : Cond.code yX4_areTwo cX4_areTwo 3 (some .boolean) ∈ lwg := lwg_of (List.mem_of_getElem? (i := 831) (by decide +kernel)) rfl
theorem wm_X4_areTwo : Cond.instanceMethod yX4_areTwo ∈ lwg := lwg_of (List.mem_of_getElem? (i := 830) (by decide +kernel)) rfl
theorem ws_X4_areTwo : Cond.selects RX4 yX4_areTwo yX4_areTwo ∈ lwg := lwg_of (List.mem_of_getElem? (i := 46) (by decide +kernel)) rfl
theorem wc_X4_family : Cond.code yX4_family cX4_family 6 (some .int) ∈ lwg := lwg_of (List.mem_of_getElem? (i := 809) (by decide +kernel)) rfl
theorem wm_X4_family : Cond.instanceMethod yX4_family ∈ lwg := lwg_of (List.mem_of_getElem? (i := 807) (by decide +kernel)) rfl
theorem ws_X4_family : Cond.selects RX4 yX4_family yX4_family ∈ lwg := lwg_of (List.mem_of_getElem? (i := 808) (by decide +kernel)) rfl
theorem wc_X4_weeks : Cond.code yX4_weeks cX4_weeks 5 (some .boolean) ∈ lwg := lwg_of (List.mem_of_getElem? (i := 818) (by decide +kernel)) rfl
theorem wm_X4_weeks : Cond.instanceMethod yX4_weeks ∈ lwg := lwg_of (List.mem_of_getElem? (i := 816) (by decide +kernel)) rfl
theorem ws_X4_weeks : Cond.selects RX4 yX4_weeks yX4_weeks ∈ lwg := lwg_of (List.mem_of_getElem? (i := 817) (by decide +kernel)) rfl
theorem wc_X4_rankOf : Cond.code yX4_rankOf cX4_rankOf 4 (some .int) ∈ lwg := lwg_of (List.mem_of_getElem? (i := 835) (by decide +kernel)) rfl
theorem wm_X4_rankOf : Cond.instanceMethod yX4_rankOf ∈ lwg := lwg_of (List.mem_of_getElem? (i := 834) (by decide +kernel)) rfl
theorem ws_X4_rankOf : Cond.selects RX4 yX4_rankOf yX4_rankOf ∈ lwg := lwg_of (List.mem_of_getElem? (i := 47) (by decide +kernel)) rfl
theorem wc_X4_wants : Cond.code yX4_wants cX4_wants 3 none ∈ lwg := lwg_of (List.mem_of_getElem? (i := 839) (by decide +kernel)) rfl
theorem wm_X4_wants : Cond.instanceMethod yX4_wants ∈ lwg := lwg_of (List.mem_of_getElem? (i := 838) (by decide +kernel)) rfl
theorem ws_X4_wants : Cond.selects RX4 yX4_wants yX4_wants ∈ lwg := lwg_of (List.mem_of_getElem? (i := 48) (by decide +kernel)) rfl
theorem wc_X4_wish : Cond.code yX4_wish cX4_wish 3 (some .int) ∈ lwg := lwg_of (List.mem_of_getElem? (i := 827) (by decide +kernel)) rfl
theorem wm_X4_wish : Cond.instanceMethod yX4_wish ∈ lwg := lwg_of (List.mem_of_getElem? (i := 825) (by decide +kernel)) rfl
theorem ws_X4_wish : Cond.selects RX4 yX4_wish yX4_wish ∈ lwg := lwg_of (List.mem_of_getElem? (i := 826) (by decide +kernel)) rfl
theorem wc_X4_wishes : Cond.code yX4_wishes cX4_wishes 8 (some .int) ∈ lwg := lwg_of (List.mem_of_getElem? (i := 843) (by decide +kernel)) rfl
theorem wm_X4_wishes : Cond.instanceMethod yX4_wishes ∈ lwg := lwg_of (List.mem_of_getElem? (i := 841) (by decide +kernel)) rfl
theorem ws_X4_wishes : Cond.selects RX4 yX4_wishes yX4_wishes ∈ lwg := lwg_of (List.mem_of_getElem? (i := 842) (by decide +kernel)) rfl
theorem wc_X4_bar : Cond.code yX4_bar cX4_bar 4 (some .boolean) ∈ lwg := lwg_of (List.mem_of_getElem? (i := 848) (by decide +kernel)) rfl
theorem wm_X4_bar : Cond.instanceMethod yX4_bar ∈ lwg := lwg_of (List.mem_of_getElem? (i := 846) (by decide +kernel)) rfl
theorem ws_X4_bar : Cond.selects RX4 yX4_bar yX4_bar ∈ lwg := lwg_of (List.mem_of_getElem? (i := 847) (by decide +kernel)) rfl
theorem wc_X4_in : Cond.code yX4_in cX4_in 3 (some .boolean) ∈ lwg := lwg_of (List.mem_of_getElem? (i := 852) (by decide +kernel)) rfl
theorem wm_X4_in : Cond.instanceMethod yX4_in ∈ lwg := lwg_of (List.mem_of_getElem? (i := 850) (by decide +kernel)) rfl
theorem ws_X4_in : Cond.selects RX4 yX4_in yX4_in ∈ lwg := lwg_of (List.mem_of_getElem? (i := 851) (by decide +kernel)) rfl
theorem wc_X4_set : Cond.code yX4_set cX4_set 4 (some .int) ∈ lwg := lwg_of (List.mem_of_getElem? (i := 856) (by decide +kernel)) rfl
theorem wm_X4_set : Cond.instanceMethod yX4_set ∈ lwg := lwg_of (List.mem_of_getElem? (i := 854) (by decide +kernel)) rfl
theorem ws_X4_set : Cond.selects RX4 yX4_set yX4_set ∈ lwg := lwg_of (List.mem_of_getElem? (i := 855) (by decide +kernel)) rfl
theorem wc_X4_sleeps : Cond.code yX4_sleeps cX4_sleeps 2 (some .int) ∈ lwg := lwg_of (List.mem_of_getElem? (i := 875) (by decide +kernel)) rfl
theorem wm_X4_sleeps : Cond.instanceMethod yX4_sleeps ∈ lwg := lwg_of (List.mem_of_getElem? (i := 874) (by decide +kernel)) rfl
theorem ws_X4_sleeps : Cond.selects RX4 yX4_sleeps yX4_sleeps ∈ lwg := lwg_of (List.mem_of_getElem? (i := 50) (by decide +kernel)) rfl
theorem wc_X4_worth : Cond.code yX4_worth cX4_worth 2 (some .int) ∈ lwg := lwg_of (List.mem_of_getElem? (i := 930) (by decide +kernel)) rfl
theorem wm_X4_worth : Cond.instanceMethod yX4_worth ∈ lwg := lwg_of (List.mem_of_getElem? (i := 929) (by decide +kernel)) rfl
theorem ws_X4_worth : Cond.selects RX4 yX4_worth yX4_worth ∈ lwg := lwg_of (List.mem_of_getElem? (i := 59) (by decide +kernel)) rfl
theorem wc_X4_barrier : Cond.code yX4_barrier cX4_barrier 4 (some .int) ∈ lwg := lwg_of (List.mem_of_getElem? (i := 871) (by decide +kernel)) rfl
theorem wm_X4_barrier : Cond.instanceMethod yX4_barrier ∈ lwg := lwg_of (List.mem_of_getElem? (i := 870) (by decide +kernel)) rfl
theorem ws_X4_barrier : Cond.selects RX4 yX4_barrier yX4_barrier ∈ lwg := lwg_of (List.mem_of_getElem? (i := 49) (by decide +kernel)) rfl
theorem wc_X4_takes : Cond.code yX4_takes cX4_takes 3 (some .boolean) ∈ lwg := lwg_of (List.mem_of_getElem? (i := 897) (by decide +kernel)) rfl
theorem wm_X4_takes : Cond.instanceMethod yX4_takes ∈ lwg := lwg_of (List.mem_of_getElem? (i := 896) (by decide +kernel)) rfl
theorem ws_X4_takes : Cond.selects RX4 yX4_takes yX4_takes ∈ lwg := lwg_of (List.mem_of_getElem? (i := 53) (by decide +kernel)) rfl
theorem wc_X4_rank : Cond.code yX4_rank cX4_rank 3 (some .int) ∈ lwg := lwg_of (List.mem_of_getElem? (i := 863) (by decide +kernel)) rfl
theorem wm_X4_rank : Cond.instanceMethod yX4_rank ∈ lwg := lwg_of (List.mem_of_getElem? (i := 861) (by decide +kernel)) rfl
theorem ws_X4_rank : Cond.selects RX4 yX4_rank yX4_rank ∈ lwg := lwg_of (List.mem_of_getElem? (i := 862) (by decide +kernel)) rfl
theorem wc_X4_can : Cond.code yX4_can cX4_can 3 (some .int) ∈ lwg := lwg_of (List.mem_of_getElem? (i := 867) (by decide +kernel)) rfl
theorem wm_X4_can : Cond.instanceMethod yX4_can ∈ lwg := lwg_of (List.mem_of_getElem? (i := 865) (by decide +kernel)) rfl
theorem ws_X4_can : Cond.selects RX4 yX4_can yX4_can ∈ lwg := lwg_of (List.mem_of_getElem? (i := 866) (by decide +kernel)) rfl
theorem wc_X4_week : Cond.code yX4_week cX4_week 3 (some .int) ∈ lwg := lwg_of (List.mem_of_getElem? (i := 881) (by decide +kernel)) rfl
theorem wm_X4_week : Cond.instanceMethod yX4_week ∈ lwg := lwg_of (List.mem_of_getElem? (i := 879) (by decide +kernel)) rfl
theorem ws_X4_week : Cond.selects RX4 yX4_week yX4_week ∈ lwg := lwg_of (List.mem_of_getElem? (i := 880) (by decide +kernel)) rfl
theorem wc_X4_guest : Cond.code yX4_guest cX4_guest 3 (some .int) ∈ lwg := lwg_of (List.mem_of_getElem? (i := 901) (by decide +kernel)) rfl
theorem wm_X4_guest : Cond.instanceMethod yX4_guest ∈ lwg := lwg_of (List.mem_of_getElem? (i := 900) (by decide +kernel)) rfl
theorem ws_X4_guest : Cond.selects RX4 yX4_guest yX4_guest ∈ lwg := lwg_of (List.mem_of_getElem? (i := 54) (by decide +kernel)) rfl
theorem wc_X4_goesAtAll : Cond.code yX4_goesAtAll cX4_goesAtAll 2 (some .boolean) ∈ lwg := lwg_of (List.mem_of_getElem? (i := 893) (by decide +kernel)) rfl
theorem wm_X4_goesAtAll : Cond.instanceMethod yX4_goesAtAll ∈ lwg := lwg_of (List.mem_of_getElem? (i := 892) (by decide +kernel)) rfl
theorem ws_X4_goesAtAll : Cond.selects RX4 yX4_goesAtAll yX4_goesAtAll ∈ lwg := lwg_of (List.mem_of_getElem? (i := 52) (by decide +kernel)) rfl
theorem wc_X4_open : Cond.code yX4_open cX4_open 3 (some .int) ∈ lwg := lwg_of (List.mem_of_getElem? (i := 889) (by decide +kernel)) rfl
theorem wm_X4_open : Cond.instanceMethod yX4_open ∈ lwg := lwg_of (List.mem_of_getElem? (i := 888) (by decide +kernel)) rfl
theorem ws_X4_open : Cond.selects RX4 yX4_open yX4_open ∈ lwg := lwg_of (List.mem_of_getElem? (i := 51) (by decide +kernel)) rfl
theorem wc_X4_ringOf : Cond.code yX4_ringOf cX4_ringOf 4 (some .int) ∈ lwg := lwg_of (List.mem_of_getElem? (i := 905) (by decide +kernel)) rfl
theorem wm_X4_ringOf : Cond.instanceMethod yX4_ringOf ∈ lwg := lwg_of (List.mem_of_getElem? (i := 904) (by decide +kernel)) rfl
theorem ws_X4_ringOf : Cond.selects RX4 yX4_ringOf yX4_ringOf ∈ lwg := lwg_of (List.mem_of_getElem? (i := 55) (by decide +kernel)) rfl
theorem wc_X4_wrong : Cond.code yX4_wrong cX4_wrong 3 (some .int) ∈ lwg := lwg_of (List.mem_of_getElem? (i := 885) (by decide +kernel)) rfl
theorem wm_X4_wrong : Cond.instanceMethod yX4_wrong ∈ lwg := lwg_of (List.mem_of_getElem? (i := 883) (by decide +kernel)) rfl
theorem ws_X4_wrong : Cond.selects RX4 yX4_wrong yX4_wrong ∈ lwg := lwg_of (List.mem_of_getElem? (i := 884) (by decide +kernel)) rfl
theorem wc_X4_goers : Cond.code yX4_goers cX4_goers 3 (some .int) ∈ lwg := lwg_of (List.mem_of_getElem? (i := 913) (by decide +kernel)) rfl
theorem wm_X4_goers : Cond.instanceMethod yX4_goers ∈ lwg := lwg_of (List.mem_of_getElem? (i := 912) (by decide +kernel)) rfl
theorem ws_X4_goers : Cond.selects RX4 yX4_goers yX4_goers ∈ lwg := lwg_of (List.mem_of_getElem? (i := 56) (by decide +kernel)) rfl
theorem wc_X4_rings : Cond.code yX4_rings cX4_rings 5 (some .int) ∈ lwg := lwg_of (List.mem_of_getElem? (i := 917) (by decide +kernel)) rfl
theorem wm_X4_rings : Cond.instanceMethod yX4_rings ∈ lwg := lwg_of (List.mem_of_getElem? (i := 916) (by decide +kernel)) rfl
theorem ws_X4_rings : Cond.selects RX4 yX4_rings yX4_rings ∈ lwg := lwg_of (List.mem_of_getElem? (i := 57) (by decide +kernel)) rfl
theorem wc_X4_count : Cond.code yX4_count cX4_count 5 (some .int) ∈ lwg := lwg_of (List.mem_of_getElem? (i := 909) (by decide +kernel)) rfl
theorem wm_X4_count : Cond.instanceMethod yX4_count ∈ lwg := lwg_of (List.mem_of_getElem? (i := 907) (by decide +kernel)) rfl
theorem ws_X4_count : Cond.selects RX4 yX4_count yX4_count ∈ lwg := lwg_of (List.mem_of_getElem? (i := 908) (by decide +kernel)) rfl
theorem wc_X4_of : Cond.code yX4_of cX4_of 5 (some .int) ∈ lwg := lwg_of (List.mem_of_getElem? (i := 921) (by decide +kernel)) rfl
theorem wm_X4_of : Cond.instanceMethod yX4_of ∈ lwg := lwg_of (List.mem_of_getElem? (i := 919) (by decide +kernel)) rfl
theorem ws_X4_of : Cond.selects RX4 yX4_of yX4_of ∈ lwg := lwg_of (List.mem_of_getElem? (i := 920) (by decide +kernel)) rfl
theorem wc_X4_put : Cond.code yX4_put cX4_put 3 (some .boolean) ∈ lwg := lwg_of (List.mem_of_getElem? (i := 934) (by decide +kernel)) rfl
theorem wm_X4_put : Cond.instanceMethod yX4_put ∈ lwg := lwg_of (List.mem_of_getElem? (i := 932) (by decide +kernel)) rfl
theorem ws_X4_put : Cond.selects RX4 yX4_put yX4_put ∈ lwg := lwg_of (List.mem_of_getElem? (i := 933) (by decide +kernel)) rfl
theorem wc_X4_mayBe : Cond.code yX4_mayBe cX4_mayBe 7 (some .boolean) ∈ lwg := lwg_of (List.mem_of_getElem? (i := 950) (by decide +kernel)) rfl
theorem wm_X4_mayBe : Cond.instanceMethod yX4_mayBe ∈ lwg := lwg_of (List.mem_of_getElem? (i := 949) (by decide +kernel)) rfl
theorem ws_X4_mayBe : Cond.selects RX4 yX4_mayBe yX4_mayBe ∈ lwg := lwg_of (List.mem_of_getElem? (i := 62) (by decide +kernel)) rfl
theorem wc_X4_isShort : Cond.code yX4_isShort cX4_isShort 9 (some .boolean) ∈ lwg := lwg_of (List.mem_of_getElem? (i := 958) (by decide +kernel)) rfl
theorem wm_X4_isShort : Cond.instanceMethod yX4_isShort ∈ lwg := lwg_of (List.mem_of_getElem? (i := 957) (by decide +kernel)) rfl
theorem ws_X4_isShort : Cond.selects RX4 yX4_isShort yX4_isShort ∈ lwg := lwg_of (List.mem_of_getElem? (i := 64) (by decide +kernel)) rfl
theorem wc_X4_offers : Cond.code yX4_offers cX4_offers 6 none ∈ lwg := lwg_of (List.mem_of_getElem? (i := 954) (by decide +kernel)) rfl
theorem wm_X4_offers : Cond.instanceMethod yX4_offers ∈ lwg := lwg_of (List.mem_of_getElem? (i := 953) (by decide +kernel)) rfl
theorem ws_X4_offers : Cond.selects RX4 yX4_offers yX4_offers ∈ lwg := lwg_of (List.mem_of_getElem? (i := 63) (by decide +kernel)) rfl
theorem wc_X4_goes : Cond.code yX4_goes cX4_goes 7 none ∈ lwg := lwg_of (List.mem_of_getElem? (i := 946) (by decide +kernel)) rfl
theorem wm_X4_goes : Cond.instanceMethod yX4_goes ∈ lwg := lwg_of (List.mem_of_getElem? (i := 945) (by decide +kernel)) rfl
theorem ws_X4_goes : Cond.selects RX4 yX4_goes yX4_goes ∈ lwg := lwg_of (List.mem_of_getElem? (i := 61) (by decide +kernel)) rfl
theorem wc_X4_all : Cond.code yX4_all cX4_all 3 none ∈ lwg := lwg_of (List.mem_of_getElem? (i := 942) (by decide +kernel)) rfl
theorem wm_X4_all : Cond.instanceMethod yX4_all ∈ lwg := lwg_of (List.mem_of_getElem? (i := 941) (by decide +kernel)) rfl
theorem ws_X4_all : Cond.selects RX4 yX4_all yX4_all ∈ lwg := lwg_of (List.mem_of_getElem? (i := 60) (by decide +kernel)) rfl
theorem wc_X4_best : Cond.code yX4_best cX4_best 1 (some .int) ∈ lwg := lwg_of (List.mem_of_getElem? (i := 938) (by decide +kernel)) rfl
theorem wm_X4_best : Cond.instanceMethod yX4_best ∈ lwg := lwg_of (List.mem_of_getElem? (i := 936) (by decide +kernel)) rfl
theorem ws_X4_best : Cond.selects RX4 yX4_best yX4_best ∈ lwg := lwg_of (List.mem_of_getElem? (i := 937) (by decide +kernel)) rfl
theorem wc_X4_mend : Cond.code yX4_mend cX4_mend 1 (some .int) ∈ lwg := lwg_of (List.mem_of_getElem? (i := 962) (by decide +kernel)) rfl
theorem wm_X4_mend : Cond.instanceMethod yX4_mend ∈ lwg := lwg_of (List.mem_of_getElem? (i := 960) (by decide +kernel)) rfl
theorem ws_X4_mend : Cond.selects RX4 yX4_mend yX4_mend ∈ lwg := lwg_of (List.mem_of_getElem? (i := 961) (by decide +kernel)) rfl
theorem wc_X4_firstOf : Cond.code yX4_firstOf cX4_firstOf 4 (some .int) ∈ lwg := lwg_of (List.mem_of_getElem? (i := 974) (by decide +kernel)) rfl
theorem wm_X4_firstOf : Cond.instanceMethod yX4_firstOf ∈ lwg := lwg_of (List.mem_of_getElem? (i := 973) (by decide +kernel)) rfl
theorem ws_X4_firstOf : Cond.selects RX4 yX4_firstOf yX4_firstOf ∈ lwg := lwg_of (List.mem_of_getElem? (i := 66) (by decide +kernel)) rfl
theorem wc_X4_leaver : Cond.code yX4_leaver cX4_leaver 2 (some .int) ∈ lwg := lwg_of (List.mem_of_getElem? (i := 970) (by decide +kernel)) rfl
theorem wm_X4_leaver : Cond.instanceMethod yX4_leaver ∈ lwg := lwg_of (List.mem_of_getElem? (i := 969) (by decide +kernel)) rfl
theorem ws_X4_leaver : Cond.selects RX4 yX4_leaver yX4_leaver ∈ lwg := lwg_of (List.mem_of_getElem? (i := 65) (by decide +kernel)) rfl
theorem wc_X4_isRound : Cond.code yX4_isRound cX4_isRound 4 (some .boolean) ∈ lwg := lwg_of (List.mem_of_getElem? (i := 978) (by decide +kernel)) rfl
theorem wm_X4_isRound : Cond.instanceMethod yX4_isRound ∈ lwg := lwg_of (List.mem_of_getElem? (i := 977) (by decide +kernel)) rfl
theorem ws_X4_isRound : Cond.selects RX4 yX4_isRound yX4_isRound ∈ lwg := lwg_of (List.mem_of_getElem? (i := 67) (by decide +kernel)) rfl
theorem wc_X4_trade : Cond.code yX4_trade cX4_trade 5 (some .int) ∈ lwg := lwg_of (List.mem_of_getElem? (i := 966) (by decide +kernel)) rfl
theorem wm_X4_trade : Cond.instanceMethod yX4_trade ∈ lwg := lwg_of (List.mem_of_getElem? (i := 964) (by decide +kernel)) rfl
theorem ws_X4_trade : Cond.selects RX4 yX4_trade yX4_trade ∈ lwg := lwg_of (List.mem_of_getElem? (i := 965) (by decide +kernel)) rfl
theorem wc_X4_wouldRather : Cond.code yX4_wouldRather cX4_wouldRather 4 (some .boolean) ∈ lwg := lwg_of (List.mem_of_getElem? (i := 990) (by decide +kernel)) rfl
theorem wm_X4_wouldRather : Cond.instanceMethod yX4_wouldRather ∈ lwg := lwg_of (List.mem_of_getElem? (i := 989) (by decide +kernel)) rfl
theorem ws_X4_wouldRather : Cond.selects RX4 yX4_wouldRather yX4_wouldRather ∈ lwg := lwg_of (List.mem_of_getElem? (i := 69) (by decide +kernel)) rfl
theorem wc_X4_closes : Cond.code yX4_closes cX4_closes 6 (some .boolean) ∈ lwg := lwg_of (List.mem_of_getElem? (i := 986) (by decide +kernel)) rfl
theorem wm_X4_closes : Cond.instanceMethod yX4_closes ∈ lwg := lwg_of (List.mem_of_getElem? (i := 985) (by decide +kernel)) rfl
theorem ws_X4_closes : Cond.selects RX4 yX4_closes yX4_closes ∈ lwg := lwg_of (List.mem_of_getElem? (i := 68) (by decide +kernel)) rfl
theorem wc_X4_tells : Cond.code yX4_tells cX4_tells 3 (some .int) ∈ lwg := lwg_of (List.mem_of_getElem? (i := 994) (by decide +kernel)) rfl
theorem wm_X4_tells : Cond.instanceMethod yX4_tells ∈ lwg := lwg_of (List.mem_of_getElem? (i := 993) (by decide +kernel)) rfl
theorem ws_X4_tells : Cond.selects RX4 yX4_tells yX4_tells ∈ lwg := lwg_of (List.mem_of_getElem? (i := 70) (by decide +kernel)) rfl
theorem wc_X4_blocks : Cond.code yX4_blocks cX4_blocks 3 (some .int) ∈ lwg := lwg_of (List.mem_of_getElem? (i := 982) (by decide +kernel)) rfl
theorem wm_X4_blocks : Cond.instanceMethod yX4_blocks ∈ lwg := lwg_of (List.mem_of_getElem? (i := 980) (by decide +kernel)) rfl
theorem ws_X4_blocks : Cond.selects RX4 yX4_blocks yX4_blocks ∈ lwg := lwg_of (List.mem_of_getElem? (i := 981) (by decide +kernel)) rfl
theorem wc_X4_ring : Cond.code yX4_ring cX4_ring 4 (some .int) ∈ lwg := lwg_of (List.mem_of_getElem? (i := 998) (by decide +kernel)) rfl
theorem wm_X4_ring : Cond.instanceMethod yX4_ring ∈ lwg := lwg_of (List.mem_of_getElem? (i := 996) (by decide +kernel)) rfl
theorem ws_X4_ring : Cond.selects RX4 yX4_ring yX4_ring ∈ lwg := lwg_of (List.mem_of_getElem? (i := 997) (by decide +kernel)) rfl
theorem wc_X4_goesOn : Cond.code yX4_goesOn cX4_goesOn 6 none ∈ lwg := lwg_of (List.mem_of_getElem? (i := 1006) (by decide +kernel)) rfl
theorem wm_X4_goesOn : Cond.instanceMethod yX4_goesOn ∈ lwg := lwg_of (List.mem_of_getElem? (i := 1005) (by decide +kernel)) rfl
theorem ws_X4_goesOn : Cond.selects RX4 yX4_goesOn yX4_goesOn ∈ lwg := lwg_of (List.mem_of_getElem? (i := 71) (by decide +kernel)) rfl
theorem wc_X4_chain : Cond.code yX4_chain cX4_chain 3 (some .int) ∈ lwg := lwg_of (List.mem_of_getElem? (i := 1002) (by decide +kernel)) rfl
theorem wm_X4_chain : Cond.instanceMethod yX4_chain ∈ lwg := lwg_of (List.mem_of_getElem? (i := 1000) (by decide +kernel)) rfl
theorem ws_X4_chain : Cond.selects RX4 yX4_chain yX4_chain ∈ lwg := lwg_of (List.mem_of_getElem? (i := 1001) (by decide +kernel)) rfl
theorem wc_X4_travel : Cond.code yX4_travel cX4_travel 3 (some .int) ∈ lwg := lwg_of (List.mem_of_getElem? (i := 1010) (by decide +kernel)) rfl
theorem wm_X4_travel : Cond.instanceMethod yX4_travel ∈ lwg := lwg_of (List.mem_of_getElem? (i := 1008) (by decide +kernel)) rfl
theorem ws_X4_travel : Cond.selects RX4 yX4_travel yX4_travel ∈ lwg := lwg_of (List.mem_of_getElem? (i := 1009) (by decide +kernel)) rfl
theorem wc_X4_book : Cond.code yX4_book cX4_book 3 (some .int) ∈ lwg := lwg_of (List.mem_of_getElem? (i := 1014) (by decide +kernel)) rfl
theorem wm_X4_book : Cond.instanceMethod yX4_book ∈ lwg := lwg_of (List.mem_of_getElem? (i := 1012) (by decide +kernel)) rfl
theorem ws_X4_book : Cond.selects RX4 yX4_book yX4_book ∈ lwg := lwg_of (List.mem_of_getElem? (i := 1013) (by decide +kernel)) rfl
theorem wc_X4_pays : Cond.code yX4_pays cX4_pays 5 none ∈ lwg := lwg_of (List.mem_of_getElem? (i := 1018) (by decide +kernel)) rfl
theorem wm_X4_pays : Cond.instanceMethod yX4_pays ∈ lwg := lwg_of (List.mem_of_getElem? (i := 1017) (by decide +kernel)) rfl
theorem ws_X4_pays : Cond.selects RX4 yX4_pays yX4_pays ∈ lwg := lwg_of (List.mem_of_getElem? (i := 72) (by decide +kernel)) rfl
theorem wc_X4_went : Cond.code yX4_went cX4_went 3 (some .int) ∈ lwg := lwg_of (List.mem_of_getElem? (i := 1022) (by decide +kernel)) rfl
theorem wm_X4_went : Cond.instanceMethod yX4_went ∈ lwg := lwg_of (List.mem_of_getElem? (i := 1020) (by decide +kernel)) rfl
theorem ws_X4_went : Cond.selects RX4 yX4_went yX4_went ∈ lwg := lwg_of (List.mem_of_getElem? (i := 1021) (by decide +kernel)) rfl
theorem wc_X4_undo : Cond.code yX4_undo cX4_undo 2 (some .int) ∈ lwg := lwg_of (List.mem_of_getElem? (i := 1026) (by decide +kernel)) rfl
theorem wm_X4_undo : Cond.instanceMethod yX4_undo ∈ lwg := lwg_of (List.mem_of_getElem? (i := 1024) (by decide +kernel)) rfl
theorem ws_X4_undo : Cond.selects RX4 yX4_undo yX4_undo ∈ lwg := lwg_of (List.mem_of_getElem? (i := 1025) (by decide +kernel)) rfl
theorem wc_X4_row : Cond.code yX4_row cX4_row 2 (some .int) ∈ lwg := lwg_of (List.mem_of_getElem? (i := 1030) (by decide +kernel)) rfl
theorem wm_X4_row : Cond.instanceMethod yX4_row ∈ lwg := lwg_of (List.mem_of_getElem? (i := 1028) (by decide +kernel)) rfl
theorem ws_X4_row : Cond.selects RX4 yX4_row yX4_row ∈ lwg := lwg_of (List.mem_of_getElem? (i := 1029) (by decide +kernel)) rfl
theorem wc_J6_bitCount_0f7a4 : Cond.code yJ6_bitCount_0f7a4 cJ6_bitCount_0f7a4 1 (some .int) ∈ lwg := lwg_of (List.mem_of_getElem? (i := 438) (by decide +kernel)) rfl
theorem wt_J6_bitCount_0f7a4 : Cond.static yJ6_bitCount_0f7a4 ∈ lwg := lwg_of (List.mem_of_getElem? (i := 437) (by decide +kernel)) rfl
theorem wc_J9_floorMod_f86c9 : Cond.code yJ9_floorMod_f86c9 cJ9_floorMod_f86c9 6 (some .long) ∈ lwg := lwg_of (List.mem_of_getElem? (i := 468) (by decide +kernel)) rfl
theorem wt_J9_floorMod_f86c9 : Cond.static yJ9_floorMod_f86c9 ∈ lwg := lwg_of (List.mem_of_getElem? (i := 467) (by decide +kernel)) rfl
theorem wc_J9_max_7cf53 : Cond.code yJ9_max_7cf53 cJ9_max_7cf53 2 (some .int) ∈ lwg := lwg_of (List.mem_of_getElem? (i := 352) (by decide +kernel)) rfl
theorem wt_J9_max_7cf53 : Cond.static yJ9_max_7cf53 ∈ lwg := lwg_of (List.mem_of_getElem? (i := 351) (by decide +kernel)) rfl
theorem wc_J9_max_f86c9 : Cond.code yJ9_max_f86c9 cJ9_max_f86c9 4 (some .long) ∈ lwg := lwg_of (List.mem_of_getElem? (i := 448) (by decide +kernel)) rfl
theorem wt_J9_max_f86c9 : Cond.static yJ9_max_f86c9 ∈ lwg := lwg_of (List.mem_of_getElem? (i := 447) (by decide +kernel)) rfl
theorem wc_J9_min_7cf53 : Cond.code yJ9_min_7cf53 cJ9_min_7cf53 2 (some .int) ∈ lwg := lwg_of (List.mem_of_getElem? (i := 349) (by decide +kernel)) rfl
theorem wt_J9_min_7cf53 : Cond.static yJ9_min_7cf53 ∈ lwg := lwg_of (List.mem_of_getElem? (i := 348) (by decide +kernel)) rfl
theorem ml_L_19 : fr_ilink RL 19 mX3_init 0 := ⟨Or.inl (lwg_of (List.mem_of_getElem? (i := 87) (by decide +kernel)) rfl), wm_X3_init, wi_X3, wc_X3_init, rfl, rfl, ⟨by decide +kernel, by decide +kernel, by decide +kernel⟩, by decide⟩
theorem ml_X3_1 : Cond.methodLink RX3 1 objectInit ∈ lwg := lwg_of (List.mem_of_getElem? (i := 90) (by decide +kernel)) rfl
theorem ml_X3_30 : fr_ilink RX3 30 mX1_init 0 := ⟨Or.inl (lwg_of (List.mem_of_getElem? (i := 97) (by decide +kernel)) rfl), wm_X1_init, wi_X1, wc_X1_init, rfl, rfl, ⟨by decide +kernel, by decide +kernel, by decide +kernel⟩, by decide⟩
theorem ml_X1_3 : Cond.methodLink RX1 3 objectInit ∈ lwg := lwg_of (List.mem_of_getElem? (i := 100) (by decide +kernel)) rfl
theorem kl_X1_31 : Cond.constantLong RX1 31 (11) ∈ lwg := lwg_of (List.mem_of_getElem? (i := 101) (by decide +kernel)) rfl
theorem fl_X1_9 : fr_link RX1 9 1 0 := ⟨by decide, by decide, Or.inl (lwg_of (List.mem_of_getElem? (i := 102) (by decide +kernel)) rfl)⟩
theorem fl_X1_15 : fr_link RX1 15 1 1 := ⟨by decide, by decide, Or.inl (lwg_of (List.mem_of_getElem? (i := 103) (by decide +kernel)) rfl)⟩
theorem fl_X1_18 : fr_link RX1 18 1 2 := ⟨by decide, by decide, Or.inl (lwg_of (List.mem_of_getElem? (i := 104) (by decide +kernel)) rfl)⟩
theorem fl_X1_21 : fr_link RX1 21 1 3 := ⟨by decide, by decide, Or.inl (lwg_of (List.mem_of_getElem? (i := 105) (by decide +kernel)) rfl)⟩
theorem fl_X1_24 : fr_link RX1 24 1 4 := ⟨by decide, by decide, Or.inl (lwg_of (List.mem_of_getElem? (i := 106) (by decide +kernel)) rfl)⟩
theorem fl_X1_27 : fr_link RX1 27 1 5 := ⟨by decide, by decide, Or.inl (lwg_of (List.mem_of_getElem? (i := 107) (by decide +kernel)) rfl)⟩
theorem ml_X3_37 : fr_ilink RX3 37 mX2_init 0 := ⟨Or.inr ⟨"HomeRings", by decide +kernel⟩, wm_X2_init, wi_X2, wc_X2_init, rfl, rfl, ⟨by decide +kernel, by decide +kernel, by decide +kernel⟩, by decide⟩
theorem ml_X2_3 : Cond.methodLink RX2 3 objectInit ∈ lwg := lwg_of (List.mem_of_getElem? (i := 128) (by decide +kernel)) rfl
theorem fl_X2_9 : fr_link RX2 9 2 0 := ⟨by decide, by decide, Or.inl (lwg_of (List.mem_of_getElem? (i := 129) (by decide +kernel)) rfl)⟩
theorem fl_X2_15 : fr_link RX2 15 2 1 := ⟨by decide, by decide, Or.inl (lwg_of (List.mem_of_getElem? (i := 130) (by decide +kernel)) rfl)⟩
theorem fl_X2_18 : fr_link RX2 18 2 2 := ⟨by decide, by decide, Or.inl (lwg_of (List.mem_of_getElem? (i := 131) (by decide +kernel)) rfl)⟩
theorem fl_X2_21 : fr_link RX2 21 2 3 := ⟨by decide, by decide, Or.inl (lwg_of (List.mem_of_getElem? (i := 132) (by decide +kernel)) rfl)⟩
theorem ml_X3_65 : fr_ilink RX3 65 mX0_init 0 := ⟨Or.inr ⟨"HomeRings", by decide +kernel⟩, wm_X0_init, wi_X0, wc_X0_init, rfl, rfl, ⟨by decide +kernel, by decide +kernel, by decide +kernel⟩, by decide⟩
theorem ml_X0_3 : Cond.methodLink RX0 3 objectInit ∈ lwg := lwg_of (List.mem_of_getElem? (i := 146) (by decide +kernel)) rfl
theorem fl_X0_9 : fr_link RX0 9 0 0 := ⟨by decide, by decide, Or.inl (lwg_of (List.mem_of_getElem? (i := 147) (by decide +kernel)) rfl)⟩
theorem fl_X3_155 : fr_link RX3 155 0 0 := ⟨by decide, by decide, Or.inr ⟨"HomeRings", by decide +kernel⟩⟩
theorem fl_X0_15 : fr_link RX0 15 0 1 := ⟨by decide, by decide, Or.inl (lwg_of (List.mem_of_getElem? (i := 149) (by decide +kernel)) rfl)⟩
theorem fl_X3_97 : fr_link RX3 97 0 1 := ⟨by decide, by decide, Or.inr ⟨"HomeRings", by decide +kernel⟩⟩
theorem fl_X0_19 : fr_link RX0 19 0 2 := ⟨by decide, by decide, Or.inl (lwg_of (List.mem_of_getElem? (i := 151) (by decide +kernel)) rfl)⟩
theorem fl_X0_22 : fr_link RX0 22 0 3 := ⟨by decide, by decide, Or.inl (lwg_of (List.mem_of_getElem? (i := 152) (by decide +kernel)) rfl)⟩
theorem fl_X0_25 : fr_link RX0 25 0 4 := ⟨by decide, by decide, Or.inl (lwg_of (List.mem_of_getElem? (i := 153) (by decide +kernel)) rfl)⟩
theorem fl_X3_227 : fr_link RX3 227 0 4 := ⟨by decide, by decide, Or.inr ⟨"HomeRings", by decide +kernel⟩⟩
theorem fl_X0_28 : fr_link RX0 28 0 5 := ⟨by decide, by decide, Or.inl (lwg_of (List.mem_of_getElem? (i := 155) (by decide +kernel)) rfl)⟩
theorem fl_X3_230 : fr_link RX3 230 0 5 := ⟨by decide, by decide, Or.inr ⟨"HomeRings", by decide +kernel⟩⟩
theorem fl_X0_32 : fr_link RX0 32 0 6 := ⟨by decide, by decide, Or.inl (lwg_of (List.mem_of_getElem? (i := 157) (by decide +kernel)) rfl)⟩
theorem fl_X3_114 : fr_link RX3 114 0 6 := ⟨by decide, by decide, Or.inr ⟨"HomeRings", by decide +kernel⟩⟩
theorem fl_X0_35 : fr_link RX0 35 0 7 := ⟨by decide, by decide, Or.inl (lwg_of (List.mem_of_getElem? (i := 159) (by decide +kernel)) rfl)⟩
theorem fl_X3_77 : fr_link RX3 77 0 7 := ⟨by decide, by decide, Or.inr ⟨"HomeRings", by decide +kernel⟩⟩
theorem fl_X0_38 : fr_link RX0 38 0 8 := ⟨by decide, by decide, Or.inl (lwg_of (List.mem_of_getElem? (i := 161) (by decide +kernel)) rfl)⟩
theorem fl_X3_80 : fr_link RX3 80 0 8 := ⟨by decide, by decide, Or.inr ⟨"HomeRings", by decide +kernel⟩⟩
theorem fl_X0_41 : fr_link RX0 41 0 9 := ⟨by decide, by decide, Or.inl (lwg_of (List.mem_of_getElem? (i := 163) (by decide +kernel)) rfl)⟩
theorem fl_X3_83 : fr_link RX3 83 0 9 := ⟨by decide, by decide, Or.inr ⟨"HomeRings", by decide +kernel⟩⟩
theorem fl_X0_44 : fr_link RX0 44 0 10 := ⟨by decide, by decide, Or.inl (lwg_of (List.mem_of_getElem? (i := 165) (by decide +kernel)) rfl)⟩
theorem fl_X3_86 : fr_link RX3 86 0 10 := ⟨by decide, by decide, Or.inr ⟨"HomeRings", by decide +kernel⟩⟩
theorem fl_X0_47 : fr_link RX0 47 0 11 := ⟨by decide, by decide, Or.inl (lwg_of (List.mem_of_getElem? (i := 167) (by decide +kernel)) rfl)⟩
theorem fl_X0_50 : fr_link RX0 50 0 12 := ⟨by decide, by decide, Or.inl (lwg_of (List.mem_of_getElem? (i := 168) (by decide +kernel)) rfl)⟩
theorem fl_X3_143 : fr_link RX3 143 0 12 := ⟨by decide, by decide, Or.inr ⟨"HomeRings", by decide +kernel⟩⟩
theorem fl_X3_11 : fr_link RX3 11 3 0 := ⟨by decide, by decide, Or.inl (lwg_of (List.mem_of_getElem? (i := 197) (by decide +kernel)) rfl)⟩
theorem fl_X3_15 : fr_link RX3 15 3 1 := ⟨by decide, by decide, Or.inl (lwg_of (List.mem_of_getElem? (i := 198) (by decide +kernel)) rfl)⟩
theorem fl_X3_19 : fr_link RX3 19 3 2 := ⟨by decide, by decide, Or.inl (lwg_of (List.mem_of_getElem? (i := 199) (by decide +kernel)) rfl)⟩
theorem fl_X3_22 : fr_link RX3 22 3 3 := ⟨by decide, by decide, Or.inl (lwg_of (List.mem_of_getElem? (i := 200) (by decide +kernel)) rfl)⟩
theorem fl_X3_25 : fr_link RX3 25 3 4 := ⟨by decide, by decide, Or.inl (lwg_of (List.mem_of_getElem? (i := 201) (by decide +kernel)) rfl)⟩
theorem fl_X3_31 : fr_link RX3 31 3 5 := ⟨by decide, by decide, Or.inl (lwg_of (List.mem_of_getElem? (i := 202) (by decide +kernel)) rfl)⟩
theorem fl_X3_38 : fr_link RX3 38 3 6 := ⟨by decide, by decide, Or.inl (lwg_of (List.mem_of_getElem? (i := 203) (by decide +kernel)) rfl)⟩
theorem fl_X3_42 : fr_link RX3 42 3 7 := ⟨by decide, by decide, Or.inl (lwg_of (List.mem_of_getElem? (i := 204) (by decide +kernel)) rfl)⟩
theorem fl_X3_46 : fr_link RX3 46 3 8 := ⟨by decide, by decide, Or.inl (lwg_of (List.mem_of_getElem? (i := 205) (by decide +kernel)) rfl)⟩
theorem fl_X3_49 : fr_link RX3 49 3 9 := ⟨by decide, by decide, Or.inl (lwg_of (List.mem_of_getElem? (i := 206) (by decide +kernel)) rfl)⟩
theorem fl_X3_52 : fr_link RX3 52 3 10 := ⟨by decide, by decide, Or.inl (lwg_of (List.mem_of_getElem? (i := 207) (by decide +kernel)) rfl)⟩
theorem fl_X3_55 : fr_link RX3 55 3 11 := ⟨by decide, by decide, Or.inl (lwg_of (List.mem_of_getElem? (i := 208) (by decide +kernel)) rfl)⟩
theorem fl_X3_58 : fr_link RX3 58 3 12 := ⟨by decide, by decide, Or.inl (lwg_of (List.mem_of_getElem? (i := 209) (by decide +kernel)) rfl)⟩
theorem fl_X3_61 : fr_link RX3 61 3 13 := ⟨by decide, by decide, Or.inl (lwg_of (List.mem_of_getElem? (i := 210) (by decide +kernel)) rfl)⟩
theorem ml_L_23 : fr_mlink RL 23 mX3_family RX3 4 := ⟨lwg_of (List.mem_of_getElem? (i := 240) (by decide +kernel)) rfl, wm_X3_family, ws_X3_family, wi_X3, wc_X3_family, ⟨rfl, by decide +kernel, by decide +kernel, by decide +kernel⟩, by decide⟩
theorem ml_X3_66 : fr_slink RX3 66 mX3_isOneToNine 1 := ⟨lwg_of (List.mem_of_getElem? (i := 244) (by decide +kernel)) rfl, wt_X3_isOneToNine, wi_X3, wc_X3_isOneToNine, ⟨by decide +kernel, by decide +kernel, by decide +kernel⟩, by decide⟩
theorem ml_X3_70 : fr_mlink RX3 70 mX0_moveIn RX0 4 := ⟨lwg_of (List.mem_of_getElem? (i := 247) (by decide +kernel)) rfl, wm_X0_moveIn, ws_X0_moveIn, wi_X0, wc_X0_moveIn, ⟨rfl, by decide +kernel, by decide +kernel, by decide +kernel⟩, by decide⟩
theorem ml_L_28 : fr_mlink RL 28 mX3_weeks RX3 4 := ⟨lwg_of (List.mem_of_getElem? (i := 251) (by decide +kernel)) rfl, wm_X3_weeks, ws_X3_weeks, wi_X3, wc_X3_weeks, ⟨rfl, by decide +kernel, by decide +kernel, by decide +kernel⟩, by decide⟩
theorem ml_X3_74 : fr_mlink RX3 74 mX3_isFamily RX3 1 := ⟨lwg_of (List.mem_of_getElem? (i := 255) (by decide +kernel)) rfl, wm_X3_isFamily, ws_X3_isFamily, wi_X3, wc_X3_isFamily, ⟨rfl, by decide +kernel, by decide +kernel, by decide +kernel⟩, by decide⟩
theorem ml_L_33 : fr_mlink RL 33 mX3_wish RX3 2 := ⟨lwg_of (List.mem_of_getElem? (i := 259) (by decide +kernel)) rfl, wm_X3_wish, ws_X3_wish, wi_X3, wc_X3_wish, ⟨rfl, by decide +kernel, by decide +kernel, by decide +kernel⟩, by decide⟩
theorem ml_X3_89 : fr_mlink RX3 89 mX3_canBecomeWish RX3 2 := ⟨lwg_of (List.mem_of_getElem? (i := 263) (by decide +kernel)) rfl, wm_X3_canBecomeWish, ws_X3_canBecomeWish, wi_X3, wc_X3_canBecomeWish, ⟨rfl, by decide +kernel, by decide +kernel, by decide +kernel⟩, by decide⟩
theorem ml_X3_107 : fr_mlink RX3 107 mX3_areTwo RX3 2 := ⟨lwg_of (List.mem_of_getElem? (i := 267) (by decide +kernel)) rfl, wm_X3_areTwo, ws_X3_areTwo, wi_X3, wc_X3_areTwo, ⟨rfl, by decide +kernel, by decide +kernel, by decide +kernel⟩, by decide⟩
theorem ml_X3_93 : fr_mlink RX3 93 mX0_addWish RX0 1 := ⟨lwg_of (List.mem_of_getElem? (i := 271) (by decide +kernel)) rfl, wm_X0_addWish, ws_X0_addWish, wi_X0, wc_X0_addWish, ⟨rfl, by decide +kernel, by decide +kernel, by decide +kernel⟩, by decide⟩
theorem ml_L_37 : fr_mlink RL 37 mX3_wishes RX3 5 := ⟨lwg_of (List.mem_of_getElem? (i := 275) (by decide +kernel)) rfl, wm_X3_wishes, ws_X3_wishes, wi_X3, wc_X3_wishes, ⟨rfl, by decide +kernel, by decide +kernel, by decide +kernel⟩, by decide⟩
theorem ml_X3_100 : fr_mlink RX3 100 mX0_dropWishes RX0 0 := ⟨lwg_of (List.mem_of_getElem? (i := 279) (by decide +kernel)) rfl, wm_X0_dropWishes, ws_X0_dropWishes, wi_X0, wc_X0_dropWishes, ⟨rfl, by decide +kernel, by decide +kernel, by decide +kernel⟩, by decide⟩
theorem ml_X3_103 : fr_mlink RX3 103 mX3_copySheet RX3 5 := ⟨lwg_of (List.mem_of_getElem? (i := 283) (by decide +kernel)) rfl, wm_X3_copySheet, ws_X3_copySheet, wi_X3, wc_X3_copySheet, ⟨rfl, by decide +kernel, by decide +kernel, by decide +kernel⟩, by decide⟩
theorem ml_L_42 : fr_mlink RL 42 mX3_bar RX3 3 := ⟨lwg_of (List.mem_of_getElem? (i := 287) (by decide +kernel)) rfl, wm_X3_bar, ws_X3_bar, wi_X3, wc_X3_bar, ⟨rfl, by decide +kernel, by decide +kernel, by decide +kernel⟩, by decide⟩
theorem ml_X3_110 : fr_mlink RX3 110 mX0_barFrom RX0 2 := ⟨lwg_of (List.mem_of_getElem? (i := 291) (by decide +kernel)) rfl, wm_X0_barFrom, ws_X0_barFrom, wi_X0, wc_X0_barFrom, ⟨rfl, by decide +kernel, by decide +kernel, by decide +kernel⟩, by decide⟩
theorem ml_L_47 : fr_mlink RL 47 mX3_in RX3 2 := ⟨lwg_of (List.mem_of_getElem? (i := 295) (by decide +kernel)) rfl, wm_X3_in, ws_X3_in, wi_X3, wc_X3_in, ⟨rfl, by decide +kernel, by decide +kernel, by decide +kernel⟩, by decide⟩
theorem ml_L_52 : fr_mlink RL 52 mX3_set RX3 2 := ⟨lwg_of (List.mem_of_getElem? (i := 299) (by decide +kernel)) rfl, wm_X3_set, ws_X3_set, wi_X3, wc_X3_set, ⟨rfl, by decide +kernel, by decide +kernel, by decide +kernel⟩, by decide⟩
theorem ml_L_56 : fr_mlink RL 56 mX3_count RX3 1 := ⟨lwg_of (List.mem_of_getElem? (i := 303) (by decide +kernel)) rfl, wm_X3_count, ws_X3_count, wi_X3, wc_X3_count, ⟨rfl, by decide +kernel, by decide +kernel, by decide +kernel⟩, by decide⟩
theorem ml_X3_117 : fr_mlink RX3 117 mX3_countPresent RX3 0 := ⟨lwg_of (List.mem_of_getElem? (i := 307) (by decide +kernel)) rfl, wm_X3_countPresent, ws_X3_countPresent, wi_X3, wc_X3_countPresent, ⟨rfl, by decide +kernel, by decide +kernel, by decide +kernel⟩, by decide⟩
theorem ml_X3_121 : fr_mlink RX3 121 mX3_countGoing RX3 0 := ⟨lwg_of (List.mem_of_getElem? (i := 311) (by decide +kernel)) rfl, wm_X3_countGoing, ws_X3_countGoing, wi_X3, wc_X3_countGoing, ⟨rfl, by decide +kernel, by decide +kernel, by decide +kernel⟩, by decide⟩
theorem ml_X3_124 : fr_mlink RX3 124 mX3_countRings RX3 0 := ⟨lwg_of (List.mem_of_getElem? (i := 315) (by decide +kernel)) rfl, wm_X3_countRings, ws_X3_countRings, wi_X3, wc_X3_countRings, ⟨rfl, by decide +kernel, by decide +kernel, by decide +kernel⟩, by decide⟩
theorem ml_X3_167 : fr_mlink RX3 167 mX3_faultOfClosing RX3 0 := ⟨lwg_of (List.mem_of_getElem? (i := 319) (by decide +kernel)) rfl, wm_X3_faultOfClosing, ws_X3_faultOfClosing, wi_X3, wc_X3_faultOfClosing, ⟨rfl, by decide +kernel, by decide +kernel, by decide +kernel⟩, by decide⟩
theorem ml_X3_188 : fr_mlink RX3 188 mX3_takes RX3 2 := ⟨lwg_of (List.mem_of_getElem? (i := 323) (by decide +kernel)) rfl, wm_X3_takes, ws_X3_takes, wi_X3, wc_X3_takes, ⟨rfl, by decide +kernel, by decide +kernel, by decide +kernel⟩, by decide⟩
theorem ml_X3_158 : fr_mlink RX3 158 mX3_hindrance RX3 2 := ⟨lwg_of (List.mem_of_getElem? (i := 327) (by decide +kernel)) rfl, wm_X3_hindrance, ws_X3_hindrance, wi_X3, wc_X3_hindrance, ⟨rfl, by decide +kernel, by decide +kernel, by decide +kernel⟩, by decide⟩
theorem ml_X3_224 : fr_mlink RX3 224 mX0_isBarredFrom RX0 1 := ⟨lwg_of (List.mem_of_getElem? (i := 331) (by decide +kernel)) rfl, wm_X0_isBarredFrom, ws_X0_isBarredFrom, wi_X0, wc_X0_isBarredFrom, ⟨rfl, by decide +kernel, by decide +kernel, by decide +kernel⟩, by decide⟩
theorem ml_X3_137 : fr_mlink RX3 137 mX0_sleeps RX0 0 := ⟨lwg_of (List.mem_of_getElem? (i := 335) (by decide +kernel)) rfl, wm_X0_sleeps, ws_X0_sleeps, wi_X0, wc_X0_sleeps, ⟨rfl, by decide +kernel, by decide +kernel, by decide +kernel⟩, by decide⟩
theorem ml_X3_233 : fr_mlink RX3 233 mX0_welcomesPets RX0 0 := ⟨lwg_of (List.mem_of_getElem? (i := 339) (by decide +kernel)) rfl, wm_X0_welcomesPets, ws_X0_welcomesPets, wi_X0, wc_X0_welcomesPets, ⟨rfl, by decide +kernel, by decide +kernel, by decide +kernel⟩, by decide⟩
theorem ml_X3_237 : fr_mlink RX3 237 mX0_weeksAt RX0 1 := ⟨lwg_of (List.mem_of_getElem? (i := 343) (by decide +kernel)) rfl, wm_X0_weeksAt, ws_X0_weeksAt, wi_X0, wc_X0_weeksAt, ⟨rfl, by decide +kernel, by decide +kernel, by decide +kernel⟩, by decide⟩
theorem ml_X0_57 : fr_slink RX0 57 mJ9_min_7cf53 2 := ⟨lwg_of (List.mem_of_getElem? (i := 347) (by decide +kernel)) rfl, wt_J9_min_7cf53, wi_J9, wc_J9_min_7cf53, ⟨by decide +kernel, by decide +kernel, by decide +kernel⟩, by decide⟩
theorem ml_X0_63 : fr_slink RX0 63 mJ9_max_7cf53 2 := ⟨lwg_of (List.mem_of_getElem? (i := 350) (by decide +kernel)) rfl, wt_J9_max_7cf53, wi_J9, wc_J9_max_7cf53, ⟨by decide +kernel, by decide +kernel, by decide +kernel⟩, by decide⟩
theorem ml_X3_244 : fr_mlink RX3 244 mX3_hasRival RX3 1 := ⟨lwg_of (List.mem_of_getElem? (i := 353) (by decide +kernel)) rfl, wm_X3_hasRival, ws_X3_hasRival, wi_X3, wc_X3_hasRival, ⟨rfl, by decide +kernel, by decide +kernel, by decide +kernel⟩, by decide⟩
theorem ml_X3_146 : fr_mlink RX3 146 mX3_firstGuest RX3 1 := ⟨lwg_of (List.mem_of_getElem? (i := 357) (by decide +kernel)) rfl, wm_X3_firstGuest, ws_X3_firstGuest, wi_X3, wc_X3_firstGuest, ⟨rfl, by decide +kernel, by decide +kernel, by decide +kernel⟩, by decide⟩
theorem ml_X3_247 : fr_mlink RX3 247 mX3_isLeastOfRing RX3 1 := ⟨lwg_of (List.mem_of_getElem? (i := 361) (by decide +kernel)) rfl, wm_X3_isLeastOfRing, ws_X3_isLeastOfRing, wi_X3, wc_X3_isLeastOfRing, ⟨rfl, by decide +kernel, by decide +kernel, by decide +kernel⟩, by decide⟩
theorem ml_X3_205 : fr_mlink RX3 205 mX3_ringLength RX3 1 := ⟨lwg_of (List.mem_of_getElem? (i := 365) (by decide +kernel)) rfl, wm_X3_ringLength, ws_X3_ringLength, wi_X3, wc_X3_ringLength, ⟨rfl, by decide +kernel, by decide +kernel, by decide +kernel⟩, by decide⟩
theorem ml_X3_127 : fr_mlink RX3 127 mX3_sumOfRanks RX3 0 := ⟨lwg_of (List.mem_of_getElem? (i := 369) (by decide +kernel)) rfl, wm_X3_sumOfRanks, ws_X3_sumOfRanks, wi_X3, wc_X3_sumOfRanks, ⟨rfl, by decide +kernel, by decide +kernel, by decide +kernel⟩, by decide⟩
theorem ml_X3_241 : fr_mlink RX3 241 mX3_planRank RX3 1 := ⟨lwg_of (List.mem_of_getElem? (i := 373) (by decide +kernel)) rfl, wm_X3_planRank, ws_X3_planRank, wi_X3, wc_X3_planRank, ⟨rfl, by decide +kernel, by decide +kernel, by decide +kernel⟩, by decide⟩
theorem ml_L_70 : fr_mlink RL 70 mX3_rank RX3 2 := ⟨lwg_of (List.mem_of_getElem? (i := 377) (by decide +kernel)) rfl, wm_X3_rank, ws_X3_rank, wi_X3, wc_X3_rank, ⟨rfl, by decide +kernel, by decide +kernel, by decide +kernel⟩, by decide⟩
theorem ml_L_74 : fr_mlink RL 74 mX3_can RX3 2 := ⟨lwg_of (List.mem_of_getElem? (i := 381) (by decide +kernel)) rfl, wm_X3_can, ws_X3_can, wi_X3, wc_X3_can, ⟨rfl, by decide +kernel, by decide +kernel, by decide +kernel⟩, by decide⟩
theorem ml_L_78 : fr_mlink RL 78 mX3_week RX3 2 := ⟨lwg_of (List.mem_of_getElem? (i := 385) (by decide +kernel)) rfl, wm_X3_week, ws_X3_week, wi_X3, wc_X3_week, ⟨rfl, by decide +kernel, by decide +kernel, by decide +kernel⟩, by decide⟩
theorem ml_X3_162 : fr_slink RX3 162 mJ9_max_7cf53 2 := ⟨lwg_of (List.mem_of_getElem? (i := 389) (by decide +kernel)) rfl, wt_J9_max_7cf53, wi_J9, wc_J9_max_7cf53, ⟨by decide +kernel, by decide +kernel, by decide +kernel⟩, by decide⟩
theorem ml_L_82 : fr_mlink RL 82 mX3_put RX3 2 := ⟨lwg_of (List.mem_of_getElem? (i := 390) (by decide +kernel)) rfl, wm_X3_put, ws_X3_put, wi_X3, wc_X3_put, ⟨rfl, by decide +kernel, by decide +kernel, by decide +kernel⟩, by decide⟩
theorem ml_L_87 : fr_mlink RL 87 mX3_wrong RX3 0 := ⟨lwg_of (List.mem_of_getElem? (i := 394) (by decide +kernel)) rfl, wm_X3_wrong, ws_X3_wrong, wi_X3, wc_X3_wrong, ⟨rfl, by decide +kernel, by decide +kernel, by decide +kernel⟩, by decide⟩
theorem ml_X3_170 : fr_mlink RX3 170 mX3_faultOfLength RX3 0 := ⟨lwg_of (List.mem_of_getElem? (i := 398) (by decide +kernel)) rfl, wm_X3_faultOfLength, ws_X3_faultOfLength, wi_X3, wc_X3_faultOfLength, ⟨rfl, by decide +kernel, by decide +kernel, by decide +kernel⟩, by decide⟩
theorem ml_L_91 : fr_mlink RL 91 mX3_best RX3 0 := ⟨lwg_of (List.mem_of_getElem? (i := 402) (by decide +kernel)) rfl, wm_X3_best, ws_X3_best, wi_X3, wc_X3_best, ⟨rfl, by decide +kernel, by decide +kernel, by decide +kernel⟩, by decide⟩
theorem ml_X3_173 : fr_mlink RX3 173 mX3_planRings RX3 1 := ⟨lwg_of (List.mem_of_getElem? (i := 406) (by decide +kernel)) rfl, wm_X3_planRings, ws_X3_planRings, wi_X3, wc_X3_planRings, ⟨rfl, by decide +kernel, by decide +kernel, by decide +kernel⟩, by decide⟩
theorem ml_X3_250 : fr_mlink RX3 250 mX1_clear RX1 1 := ⟨lwg_of (List.mem_of_getElem? (i := 410) (by decide +kernel)) rfl, wm_X1_clear, ws_X1_clear, wi_X1, wc_X1_clear, ⟨rfl, by decide +kernel, by decide +kernel, by decide +kernel⟩, by decide⟩
theorem kl_X1_33 : Cond.constantLong RX1 33 (-4611686018427387904) ∈ lwg := lwg_of (List.mem_of_getElem? (i := 414) (by decide +kernel)) rfl
theorem ml_X3_251 : fr_mlink RX3 251 mX1_allow RX1 3 := ⟨lwg_of (List.mem_of_getElem? (i := 415) (by decide +kernel)) rfl, wm_X1_allow, ws_X1_allow, wi_X1, wc_X1_allow, ⟨rfl, by decide +kernel, by decide +kernel, by decide +kernel⟩, by decide⟩
theorem kl_X1_35 : Cond.constantLong RX1 35 (25937424601) ∈ lwg := lwg_of (List.mem_of_getElem? (i := 419) (by decide +kernel)) rfl
theorem ml_X3_254 : fr_mlink RX3 254 mX1_replacePlan RX1 2 := ⟨lwg_of (List.mem_of_getElem? (i := 420) (by decide +kernel)) rfl, wm_X1_replacePlan, ws_X1_replacePlan, wi_X1, wc_X1_replacePlan, ⟨rfl, by decide +kernel, by decide +kernel, by decide +kernel⟩, by decide⟩
theorem ml_X1_37 : fr_mlink RX1 37 mX1_findRings RX1 1 := ⟨lwg_of (List.mem_of_getElem? (i := 424) (by decide +kernel)) rfl, wm_X1_findRings, ws_X1_findRings, wi_X1, wc_X1_findRings, ⟨rfl, by decide +kernel, by decide +kernel, by decide +kernel⟩, by decide⟩
theorem ml_X1_48 : fr_mlink RX1 48 mX1_openWays RX1 1 := ⟨lwg_of (List.mem_of_getElem? (i := 428) (by decide +kernel)) rfl, wm_X1_openWays, ws_X1_openWays, wi_X1, wc_X1_openWays, ⟨rfl, by decide +kernel, by decide +kernel, by decide +kernel⟩, by decide⟩
theorem ml_X1_51 : fr_mlink RX1 51 mX1_growWays RX1 2 := ⟨lwg_of (List.mem_of_getElem? (i := 432) (by decide +kernel)) rfl, wm_X1_growWays, ws_X1_growWays, wi_X1, wc_X1_growWays, ⟨rfl, by decide +kernel, by decide +kernel, by decide +kernel⟩, by decide⟩
theorem ml_X1_55 : fr_slink RX1 55 mJ6_bitCount_0f7a4 1 := ⟨lwg_of (List.mem_of_getElem? (i := 436) (by decide +kernel)) rfl, wt_J6_bitCount_0f7a4, wi_J6, wc_J6_bitCount_0f7a4, ⟨by decide +kernel, by decide +kernel, by decide +kernel⟩, by decide⟩
theorem kl_J6_265 : Cond.constant RJ6 265 (1431655765) ∈ lwg := lwg_of (List.mem_of_getElem? (i := 439) (by decide +kernel)) rfl
theorem kl_J6_266 : Cond.constant RJ6 266 (858993459) ∈ lwg := lwg_of (List.mem_of_getElem? (i := 440) (by decide +kernel)) rfl
theorem kl_J6_267 : Cond.constant RJ6 267 (252645135) ∈ lwg := lwg_of (List.mem_of_getElem? (i := 441) (by decide +kernel)) rfl
theorem ml_X1_61 : fr_mlink RX1 61 mX1_closeWay RX1 3 := ⟨lwg_of (List.mem_of_getElem? (i := 442) (by decide +kernel)) rfl, wm_X1_closeWay, ws_X1_closeWay, wi_X1, wc_X1_closeWay, ⟨rfl, by decide +kernel, by decide +kernel, by decide +kernel⟩, by decide⟩
theorem ml_X1_68 : fr_slink RX1 68 mJ9_max_f86c9 2 := ⟨lwg_of (List.mem_of_getElem? (i := 446) (by decide +kernel)) rfl, wt_J9_max_f86c9, wi_J9, wc_J9_max_f86c9, ⟨by decide +kernel, by decide +kernel, by decide +kernel⟩, by decide⟩
theorem ml_X1_65 : fr_mlink RX1 65 mX1_growWay RX1 3 := ⟨lwg_of (List.mem_of_getElem? (i := 449) (by decide +kernel)) rfl, wm_X1_growWay, ws_X1_growWay, wi_X1, wc_X1_growWay, ⟨rfl, by decide +kernel, by decide +kernel, by decide +kernel⟩, by decide⟩
theorem ml_X1_41 : fr_mlink RX1 41 mX1_settleAll RX1 0 := ⟨lwg_of (List.mem_of_getElem? (i := 453) (by decide +kernel)) rfl, wm_X1_settleAll, ws_X1_settleAll, wi_X1, wc_X1_settleAll, ⟨rfl, by decide +kernel, by decide +kernel, by decide +kernel⟩, by decide⟩
theorem ml_X1_74 : fr_mlink RX1 74 mX1_settleFirst RX1 1 := ⟨lwg_of (List.mem_of_getElem? (i := 457) (by decide +kernel)) rfl, wm_X1_settleFirst, ws_X1_settleFirst, wi_X1, wc_X1_settleFirst, ⟨rfl, by decide +kernel, by decide +kernel, by decide +kernel⟩, by decide⟩
theorem kl_X1_77 : Cond.constantLong RX1 77 (10) ∈ lwg := lwg_of (List.mem_of_getElem? (i := 461) (by decide +kernel)) rfl
theorem ml_X1_44 : fr_mlink RX1 44 mX1_readPlan RX1 2 := ⟨lwg_of (List.mem_of_getElem? (i := 462) (by decide +kernel)) rfl, wm_X1_readPlan, ws_X1_readPlan, wi_X1, wc_X1_readPlan, ⟨rfl, by decide +kernel, by decide +kernel, by decide +kernel⟩, by decide⟩
theorem ml_X1_79 : fr_slink RX1 79 mJ9_floorMod_f86c9 2 := ⟨lwg_of (List.mem_of_getElem? (i := 466) (by decide +kernel)) rfl, wt_J9_floorMod_f86c9, wi_J9, wc_J9_floorMod_f86c9, ⟨by decide +kernel, by decide +kernel, by decide +kernel⟩, by decide⟩
theorem ml_L_95 : fr_mlink RL 95 mX3_mend RX3 0 := ⟨lwg_of (List.mem_of_getElem? (i := 469) (by decide +kernel)) rfl, wm_X3_mend, ws_X3_mend, wi_X3, wc_X3_mend, ⟨rfl, by decide +kernel, by decide +kernel, by decide +kernel⟩, by decide⟩
theorem ml_L_99 : fr_mlink RL 99 mX3_trade RX3 0 := ⟨lwg_of (List.mem_of_getElem? (i := 473) (by decide +kernel)) rfl, wm_X3_trade, ws_X3_trade, wi_X3, wc_X3_trade, ⟨rfl, by decide +kernel, by decide +kernel, by decide +kernel⟩, by decide⟩
theorem ml_X3_176 : fr_mlink RX3 176 mX3_clearPlan RX3 0 := ⟨lwg_of (List.mem_of_getElem? (i := 477) (by decide +kernel)) rfl, wm_X3_clearPlan, ws_X3_clearPlan, wi_X3, wc_X3_clearPlan, ⟨rfl, by decide +kernel, by decide +kernel, by decide +kernel⟩, by decide⟩
theorem ml_X3_179 : fr_mlink RX3 179 mX3_showHomes RX3 1 := ⟨lwg_of (List.mem_of_getElem? (i := 481) (by decide +kernel)) rfl, wm_X3_showHomes, ws_X3_showHomes, wi_X3, wc_X3_showHomes, ⟨rfl, by decide +kernel, by decide +kernel, by decide +kernel⟩, by decide⟩
theorem ml_X3_258 : fr_mlink RX3 258 mX3_firstWithoutHome RX3 1 := ⟨lwg_of (List.mem_of_getElem? (i := 485) (by decide +kernel)) rfl, wm_X3_firstWithoutHome, ws_X3_firstWithoutHome, wi_X3, wc_X3_firstWithoutHome, ⟨rfl, by decide +kernel, by decide +kernel, by decide +kernel⟩, by decide⟩
theorem ml_X3_261 : fr_mlink RX3 261 mX3_likedMost RX3 2 := ⟨lwg_of (List.mem_of_getElem? (i := 489) (by decide +kernel)) rfl, wm_X3_likedMost, ws_X3_likedMost, wi_X3, wc_X3_likedMost, ⟨rfl, by decide +kernel, by decide +kernel, by decide +kernel⟩, by decide⟩
theorem ml_X3_182 : fr_mlink RX3 182 mX3_sendShownRing RX3 1 := ⟨lwg_of (List.mem_of_getElem? (i := 493) (by decide +kernel)) rfl, wm_X3_sendShownRing, ws_X3_sendShownRing, wi_X3, wc_X3_sendShownRing, ⟨rfl, by decide +kernel, by decide +kernel, by decide +kernel⟩, by decide⟩
theorem ml_X3_264 : fr_mlink RX3 264 mX3_comesRound RX3 1 := ⟨lwg_of (List.mem_of_getElem? (i := 497) (by decide +kernel)) rfl, wm_X3_comesRound, ws_X3_comesRound, wi_X3, wc_X3_comesRound, ⟨rfl, by decide +kernel, by decide +kernel, by decide +kernel⟩, by decide⟩
theorem ml_X3_267 : fr_mlink RX3 267 mX3_sendAsShown RX3 1 := ⟨lwg_of (List.mem_of_getElem? (i := 501) (by decide +kernel)) rfl, wm_X3_sendAsShown, ws_X3_sendAsShown, wi_X3, wc_X3_sendAsShown, ⟨rfl, by decide +kernel, by decide +kernel, by decide +kernel⟩, by decide⟩
theorem ml_L_103 : fr_mlink RL 103 mX3_blocks RX3 0 := ⟨lwg_of (List.mem_of_getElem? (i := 505) (by decide +kernel)) rfl, wm_X3_blocks, ws_X3_blocks, wi_X3, wc_X3_blocks, ⟨rfl, by decide +kernel, by decide +kernel, by decide +kernel⟩, by decide⟩
theorem ml_X3_185 : fr_mlink RX3 185 mX2_clear RX2 1 := ⟨lwg_of (List.mem_of_getElem? (i := 509) (by decide +kernel)) rfl, wm_X2_clear, ws_X2_clear, wi_X2, wc_X2_clear, ⟨rfl, by decide +kernel, by decide +kernel, by decide +kernel⟩, by decide⟩
theorem ml_X3_191 : fr_mlink RX3 191 mX3_isLiked RX3 2 := ⟨lwg_of (List.mem_of_getElem? (i := 513) (by decide +kernel)) rfl, wm_X3_isLiked, ws_X3_isLiked, wi_X3, wc_X3_isLiked, ⟨rfl, by decide +kernel, by decide +kernel, by decide +kernel⟩, by decide⟩
theorem ml_X3_194 : fr_mlink RX3 194 mX2_add RX2 2 := ⟨lwg_of (List.mem_of_getElem? (i := 517) (by decide +kernel)) rfl, wm_X2_add, ws_X2_add, wi_X2, wc_X2_add, ⟨rfl, by decide +kernel, by decide +kernel, by decide +kernel⟩, by decide⟩
theorem ml_X3_198 : fr_mlink RX3 198 mX2_tellShortestRing RX2 1 := ⟨lwg_of (List.mem_of_getElem? (i := 521) (by decide +kernel)) rfl, wm_X2_tellShortestRing, ws_X2_tellShortestRing, wi_X2, wc_X2_tellShortestRing, ⟨rfl, by decide +kernel, by decide +kernel, by decide +kernel⟩, by decide⟩
theorem ml_X2_25 : fr_mlink RX2 25 mX2_lengthFrom RX2 1 := ⟨lwg_of (List.mem_of_getElem? (i := 525) (by decide +kernel)) rfl, wm_X2_lengthFrom, ws_X2_lengthFrom, wi_X2, wc_X2_lengthFrom, ⟨rfl, by decide +kernel, by decide +kernel, by decide +kernel⟩, by decide⟩
theorem ml_X2_29 : fr_slink RX2 29 mX2_leastOf 1 := ⟨lwg_of (List.mem_of_getElem? (i := 529) (by decide +kernel)) rfl, wt_X2_leastOf, wi_X2, wc_X2_leastOf, ⟨by decide +kernel, by decide +kernel, by decide +kernel⟩, by decide⟩
theorem ml_X3_202 : fr_mlink RX3 202 mX3_keepRow RX3 1 := ⟨lwg_of (List.mem_of_getElem? (i := 532) (by decide +kernel)) rfl, wm_X3_keepRow, ws_X3_keepRow, wi_X3, wc_X3_keepRow, ⟨rfl, by decide +kernel, by decide +kernel, by decide +kernel⟩, by decide⟩
theorem ml_L_107 : fr_mlink RL 107 mX3_ring RX3 1 := ⟨lwg_of (List.mem_of_getElem? (i := 536) (by decide +kernel)) rfl, wm_X3_ring, ws_X3_ring, wi_X3, wc_X3_ring, ⟨rfl, by decide +kernel, by decide +kernel, by decide +kernel⟩, by decide⟩
theorem ml_L_111 : fr_mlink RL 111 mX3_chain RX3 1 := ⟨lwg_of (List.mem_of_getElem? (i := 540) (by decide +kernel)) rfl, wm_X3_chain, ws_X3_chain, wi_X3, wc_X3_chain, ⟨rfl, by decide +kernel, by decide +kernel, by decide +kernel⟩, by decide⟩
theorem ml_X3_208 : fr_mlink RX3 208 mX3_addChainWaysTo RX3 2 := ⟨lwg_of (List.mem_of_getElem? (i := 544) (by decide +kernel)) rfl, wm_X3_addChainWaysTo, ws_X3_addChainWaysTo, wi_X3, wc_X3_addChainWaysTo, ⟨rfl, by decide +kernel, by decide +kernel, by decide +kernel⟩, by decide⟩
theorem ml_X3_140 : fr_mlink RX3 140 mX0_worth RX0 0 := ⟨lwg_of (List.mem_of_getElem? (i := 548) (by decide +kernel)) rfl, wm_X0_worth, ws_X0_worth, wi_X0, wc_X0_worth, ⟨rfl, by decide +kernel, by decide +kernel, by decide +kernel⟩, by decide⟩
theorem ml_X0_53 : fr_mlink RX0 53 mX0_sleeps RX0 0 := ⟨lwg_of (List.mem_of_getElem? (i := 552) (by decide +kernel)) rfl, wm_X0_sleeps, ws_X0_sleeps, wi_X0, wc_X0_sleeps, ⟨rfl, by decide +kernel, by decide +kernel, by decide +kernel⟩, by decide⟩
theorem ml_X3_211 : fr_mlink RX3 211 mX2_tellLongestWay RX2 2 := ⟨lwg_of (List.mem_of_getElem? (i := 553) (by decide +kernel)) rfl, wm_X2_tellLongestWay, ws_X2_tellLongestWay, wi_X2, wc_X2_tellLongestWay, ⟨rfl, by decide +kernel, by decide +kernel, by decide +kernel⟩, by decide⟩
theorem ml_X2_32 : fr_mlink RX2 32 mX2_findStarts RX2 0 := ⟨lwg_of (List.mem_of_getElem? (i := 557) (by decide +kernel)) rfl, wm_X2_findStarts, ws_X2_findStarts, wi_X2, wc_X2_findStarts, ⟨rfl, by decide +kernel, by decide +kernel, by decide +kernel⟩, by decide⟩
theorem ml_X2_42 : fr_mlink RX2 42 mX2_startsWithin RX2 1 := ⟨lwg_of (List.mem_of_getElem? (i := 561) (by decide +kernel)) rfl, wm_X2_startsWithin, ws_X2_startsWithin, wi_X2, wc_X2_startsWithin, ⟨rfl, by decide +kernel, by decide +kernel, by decide +kernel⟩, by decide⟩
theorem ml_X2_35 : fr_mlink RX2 35 mX2_mostSteps RX2 1 := ⟨lwg_of (List.mem_of_getElem? (i := 565) (by decide +kernel)) rfl, wm_X2_mostSteps, ws_X2_mostSteps, wi_X2, wc_X2_mostSteps, ⟨rfl, by decide +kernel, by decide +kernel, by decide +kernel⟩, by decide⟩
theorem ml_X2_45 : fr_slink RX2 45 mJ6_bitCount_0f7a4 1 := ⟨lwg_of (List.mem_of_getElem? (i := 569) (by decide +kernel)) rfl, wt_J6_bitCount_0f7a4, wi_J6, wc_J6_bitCount_0f7a4, ⟨by decide +kernel, by decide +kernel, by decide +kernel⟩, by decide⟩
theorem ml_X2_50 : fr_slink RX2 50 mJ9_max_7cf53 2 := ⟨lwg_of (List.mem_of_getElem? (i := 570) (by decide +kernel)) rfl, wt_J9_max_7cf53, wi_J9, wc_J9_max_7cf53, ⟨by decide +kernel, by decide +kernel, by decide +kernel⟩, by decide⟩
theorem ml_X2_38 : fr_mlink RX2 38 mX2_startsApart RX2 2 := ⟨lwg_of (List.mem_of_getElem? (i := 571) (by decide +kernel)) rfl, wm_X2_startsApart, ws_X2_startsApart, wi_X2, wc_X2_startsApart, ⟨rfl, by decide +kernel, by decide +kernel, by decide +kernel⟩, by decide⟩
theorem ml_L_115 : fr_mlink RL 115 mX3_travel RX3 0 := ⟨lwg_of (List.mem_of_getElem? (i := 575) (by decide +kernel)) rfl, wm_X3_travel, ws_X3_travel, wi_X3, wc_X3_travel, ⟨rfl, by decide +kernel, by decide +kernel, by decide +kernel⟩, by decide⟩
theorem ml_X3_215 : fr_mlink RX3 215 mX3_pay RX3 3 := ⟨lwg_of (List.mem_of_getElem? (i := 579) (by decide +kernel)) rfl, wm_X3_pay, ws_X3_pay, wi_X3, wc_X3_pay, ⟨rfl, by decide +kernel, by decide +kernel, by decide +kernel⟩, by decide⟩
theorem ml_L_119 : fr_mlink RL 119 mX3_book RX3 0 := ⟨lwg_of (List.mem_of_getElem? (i := 583) (by decide +kernel)) rfl, wm_X3_book, ws_X3_book, wi_X3, wc_X3_book, ⟨rfl, by decide +kernel, by decide +kernel, by decide +kernel⟩, by decide⟩
theorem ml_X3_219 : fr_mlink RX3 219 mX3_payPlan RX3 1 := ⟨lwg_of (List.mem_of_getElem? (i := 587) (by decide +kernel)) rfl, wm_X3_payPlan, ws_X3_payPlan, wi_X3, wc_X3_payPlan, ⟨rfl, by decide +kernel, by decide +kernel, by decide +kernel⟩, by decide⟩
theorem ml_L_123 : fr_mlink RL 123 mX3_went RX3 2 := ⟨lwg_of (List.mem_of_getElem? (i := 591) (by decide +kernel)) rfl, wm_X3_went, ws_X3_went, wi_X3, wc_X3_went, ⟨rfl, by decide +kernel, by decide +kernel, by decide +kernel⟩, by decide⟩
theorem ml_L_127 : fr_mlink RL 127 mX3_undo RX3 0 := ⟨lwg_of (List.mem_of_getElem? (i := 595) (by decide +kernel)) rfl, wm_X3_undo, ws_X3_undo, wi_X3, wc_X3_undo, ⟨rfl, by decide +kernel, by decide +kernel, by decide +kernel⟩, by decide⟩
theorem ml_L_7 : fr_mlink RL 7 mX3_of RX3 2 := ⟨lwg_of (List.mem_of_getElem? (i := 603) (by decide +kernel)) rfl, wm_X3_of, ws_X3_of, wi_X3, wc_X3_of, ⟨rfl, by decide +kernel, by decide +kernel, by decide +kernel⟩, by decide⟩
theorem ml_X3_150 : fr_mlink RX3 150 mX3_countTaken RX3 1 := ⟨lwg_of (List.mem_of_getElem? (i := 673) (by decide +kernel)) rfl, wm_X3_countTaken, ws_X3_countTaken, wi_X3, wc_X3_countTaken, ⟨rfl, by decide +kernel, by decide +kernel, by decide +kernel⟩, by decide⟩
theorem ml_L_15 : fr_mlink RL 15 mX3_row RX3 1 := ⟨lwg_of (List.mem_of_getElem? (i := 681) (by decide +kernel)) rfl, wm_X3_row, ws_X3_row, wi_X3, wc_X3_row, ⟨rfl, by decide +kernel, by decide +kernel, by decide +kernel⟩, by decide⟩
theorem ml_L_22 : fr_ilink RL 22 mX4_init 0 := ⟨Or.inl (lwg_of (List.mem_of_getElem? (i := 688) (by decide +kernel)) rfl), wm_X4_init, wi_X4, wc_X4_init, rfl, rfl, ⟨by decide +kernel, by decide +kernel, by decide +kernel⟩, by decide⟩
theorem ml_X4_1 : Cond.methodLink RX4 1 objectInit ∈ lwg := lwg_of (List.mem_of_getElem? (i := 691) (by decide +kernel)) rfl
theorem fl_X4_84 : fr_link RX4 84 4 0 := ⟨by decide, by decide, Or.inl (lwg_of (List.mem_of_getElem? (i := 692) (by decide +kernel)) rfl)⟩
theorem fl_X4_87 : fr_link RX4 87 4 1 := ⟨by decide, by decide, Or.inl (lwg_of (List.mem_of_getElem? (i := 693) (by decide +kernel)) rfl)⟩
theorem fl_X4_9 : fr_link RX4 9 4 2 := ⟨by decide, by decide, Or.inl (lwg_of (List.mem_of_getElem? (i := 694) (by decide +kernel)) rfl)⟩
theorem fl_X4_13 : fr_link RX4 13 4 3 := ⟨by decide, by decide, Or.inl (lwg_of (List.mem_of_getElem? (i := 695) (by decide +kernel)) rfl)⟩
theorem fl_X4_16 : fr_link RX4 16 4 4 := ⟨by decide, by decide, Or.inl (lwg_of (List.mem_of_getElem? (i := 696) (by decide +kernel)) rfl)⟩
theorem fl_X4_19 : fr_link RX4 19 4 5 := ⟨by decide, by decide, Or.inl (lwg_of (List.mem_of_getElem? (i := 697) (by decide +kernel)) rfl)⟩
theorem fl_X4_23 : fr_link RX4 23 4 6 := ⟨by decide, by decide, Or.inl (lwg_of (List.mem_of_getElem? (i := 698) (by decide +kernel)) rfl)⟩
theorem fl_X4_26 : fr_link RX4 26 4 7 := ⟨by decide, by decide, Or.inl (lwg_of (List.mem_of_getElem? (i := 699) (by decide +kernel)) rfl)⟩
theorem fl_X4_29 : fr_link RX4 29 4 8 := ⟨by decide, by decide, Or.inl (lwg_of (List.mem_of_getElem? (i := 700) (by decide +kernel)) rfl)⟩
theorem fl_X4_32 : fr_link RX4 32 4 9 := ⟨by decide, by decide, Or.inl (lwg_of (List.mem_of_getElem? (i := 701) (by decide +kernel)) rfl)⟩
theorem fl_X4_35 : fr_link RX4 35 4 10 := ⟨by decide, by decide, Or.inl (lwg_of (List.mem_of_getElem? (i := 702) (by decide +kernel)) rfl)⟩
theorem fl_X4_38 : fr_link RX4 38 4 11 := ⟨by decide, by decide, Or.inl (lwg_of (List.mem_of_getElem? (i := 703) (by decide +kernel)) rfl)⟩
theorem fl_X4_41 : fr_link RX4 41 4 12 := ⟨by decide, by decide, Or.inl (lwg_of (List.mem_of_getElem? (i := 704) (by decide +kernel)) rfl)⟩
theorem fl_X4_44 : fr_link RX4 44 4 13 := ⟨by decide, by decide, Or.inl (lwg_of (List.mem_of_getElem? (i := 705) (by decide +kernel)) rfl)⟩
theorem fl_X4_47 : fr_link RX4 47 4 14 := ⟨by decide, by decide, Or.inl (lwg_of (List.mem_of_getElem? (i := 706) (by decide +kernel)) rfl)⟩
theorem fl_X4_50 : fr_link RX4 50 4 15 := ⟨by decide, by decide, Or.inl (lwg_of (List.mem_of_getElem? (i := 707) (by decide +kernel)) rfl)⟩
theorem fl_X4_53 : fr_link RX4 53 4 16 := ⟨by decide, by decide, Or.inl (lwg_of (List.mem_of_getElem? (i := 708) (by decide +kernel)) rfl)⟩
theorem fl_X4_57 : fr_link RX4 57 4 17 := ⟨by decide, by decide, Or.inl (lwg_of (List.mem_of_getElem? (i := 709) (by decide +kernel)) rfl)⟩
theorem fl_X4_121 : fr_link RX4 121 4 18 := ⟨by decide, by decide, Or.inl (lwg_of (List.mem_of_getElem? (i := 710) (by decide +kernel)) rfl)⟩
theorem fl_X4_98 : fr_link RX4 98 4 19 := ⟨by decide, by decide, Or.inl (lwg_of (List.mem_of_getElem? (i := 711) (by decide +kernel)) rfl)⟩
theorem fl_X4_60 : fr_link RX4 60 4 20 := ⟨by decide, by decide, Or.inl (lwg_of (List.mem_of_getElem? (i := 712) (by decide +kernel)) rfl)⟩
theorem fl_X4_63 : fr_link RX4 63 4 21 := ⟨by decide, by decide, Or.inl (lwg_of (List.mem_of_getElem? (i := 713) (by decide +kernel)) rfl)⟩
theorem fl_X4_181 : fr_link RX4 181 4 22 := ⟨by decide, by decide, Or.inl (lwg_of (List.mem_of_getElem? (i := 714) (by decide +kernel)) rfl)⟩
theorem fl_X4_185 : fr_link RX4 185 4 23 := ⟨by decide, by decide, Or.inl (lwg_of (List.mem_of_getElem? (i := 715) (by decide +kernel)) rfl)⟩
theorem fl_X4_188 : fr_link RX4 188 4 24 := ⟨by decide, by decide, Or.inl (lwg_of (List.mem_of_getElem? (i := 716) (by decide +kernel)) rfl)⟩
theorem fl_X4_191 : fr_link RX4 191 4 25 := ⟨by decide, by decide, Or.inl (lwg_of (List.mem_of_getElem? (i := 717) (by decide +kernel)) rfl)⟩
theorem fl_X4_194 : fr_link RX4 194 4 26 := ⟨by decide, by decide, Or.inl (lwg_of (List.mem_of_getElem? (i := 718) (by decide +kernel)) rfl)⟩
theorem fl_X4_66 : fr_link RX4 66 4 27 := ⟨by decide, by decide, Or.inl (lwg_of (List.mem_of_getElem? (i := 719) (by decide +kernel)) rfl)⟩
theorem fl_X4_69 : fr_link RX4 69 4 28 := ⟨by decide, by decide, Or.inl (lwg_of (List.mem_of_getElem? (i := 720) (by decide +kernel)) rfl)⟩
theorem fl_X4_164 : fr_link RX4 164 4 29 := ⟨by decide, by decide, Or.inl (lwg_of (List.mem_of_getElem? (i := 721) (by decide +kernel)) rfl)⟩
theorem fl_X4_72 : fr_link RX4 72 4 30 := ⟨by decide, by decide, Or.inl (lwg_of (List.mem_of_getElem? (i := 722) (by decide +kernel)) rfl)⟩
theorem fl_X4_75 : fr_link RX4 75 4 31 := ⟨by decide, by decide, Or.inl (lwg_of (List.mem_of_getElem? (i := 723) (by decide +kernel)) rfl)⟩
theorem fl_X4_235 : fr_link RX4 235 4 32 := ⟨by decide, by decide, Or.inl (lwg_of (List.mem_of_getElem? (i := 724) (by decide +kernel)) rfl)⟩
theorem fl_X4_78 : fr_link RX4 78 4 33 := ⟨by decide, by decide, Or.inl (lwg_of (List.mem_of_getElem? (i := 725) (by decide +kernel)) rfl)⟩
theorem fl_X4_161 : fr_link RX4 161 4 34 := ⟨by decide, by decide, Or.inl (lwg_of (List.mem_of_getElem? (i := 726) (by decide +kernel)) rfl)⟩
theorem fl_X4_81 : fr_link RX4 81 4 35 := ⟨by decide, by decide, Or.inl (lwg_of (List.mem_of_getElem? (i := 727) (by decide +kernel)) rfl)⟩
theorem ml_L_66 : fr_mlink RL 66 mX4_thrown RX4 0 := ⟨lwg_of (List.mem_of_getElem? (i := 802) (by decide +kernel)) rfl, wm_X4_thrown, ws_X4_thrown, wi_X4, wc_X4_thrown, ⟨rfl, by decide +kernel, by decide +kernel, by decide +kernel⟩, by decide⟩
