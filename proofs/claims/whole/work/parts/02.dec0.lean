theorem dX0_init_0 : decode cX0_init 0 = .ok (.aload_n 0, 1) := by decide +kernel
theorem dX0_init_1 : decode cX0_init 1 = .ok (.invokespecial 3, 3) := by decide +kernel
theorem dX0_init_4 : decode cX0_init 4 = .ok (.aload_n 0, 1) := by decide +kernel
theorem dX0_init_5 : decode cX0_init 5 = .ok (.bipush 10, 2) := by decide +kernel
theorem dX0_init_7 : decode cX0_init 7 = .ok (.newarray .int, 2) := by decide +kernel
theorem dX0_init_9 : decode cX0_init 9 = .ok (.putfield 9, 3) := by decide +kernel
theorem dX0_init_12 : decode cX0_init 12 = .ok (.aload_n 0, 1) := by decide +kernel
theorem dX0_init_13 : decode cX0_init 13 = .ok (.iconst 0, 1) := by decide +kernel
theorem dX0_init_14 : decode cX0_init 14 = .ok (.putfield 15, 3) := by decide +kernel
theorem dX0_init_17 : decode cX0_init 17 = .ok (.aload_n 0, 1) := by decide +kernel
theorem dX0_init_18 : decode cX0_init 18 = .ok (.iconst 0, 1) := by decide +kernel
theorem dX0_init_19 : decode cX0_init 19 = .ok (.putfield 19, 3) := by decide +kernel
theorem dX0_init_22 : decode cX0_init 22 = .ok (.aload_n 0, 1) := by decide +kernel
theorem dX0_init_23 : decode cX0_init 23 = .ok (.iconst 0, 1) := by decide +kernel
theorem dX0_init_24 : decode cX0_init 24 = .ok (.putfield 22, 3) := by decide +kernel
theorem dX0_init_27 : decode cX0_init 27 = .ok (.aload_n 0, 1) := by decide +kernel
theorem dX0_init_28 : decode cX0_init 28 = .ok (.iconst 0, 1) := by decide +kernel
theorem dX0_init_29 : decode cX0_init 29 = .ok (.putfield 25, 3) := by decide +kernel
theorem dX0_init_32 : decode cX0_init 32 = .ok (.aload_n 0, 1) := by decide +kernel
theorem dX0_init_33 : decode cX0_init 33 = .ok (.iconst 0, 1) := by decide +kernel
theorem dX0_init_34 : decode cX0_init 34 = .ok (.putfield 28, 3) := by decide +kernel
theorem dX0_init_37 : decode cX0_init 37 = .ok (.aload_n 0, 1) := by decide +kernel
theorem dX0_init_38 : decode cX0_init 38 = .ok (.iconst 1, 1) := by decide +kernel
theorem dX0_init_39 : decode cX0_init 39 = .ok (.putfield 32, 3) := by decide +kernel
theorem dX0_init_42 : decode cX0_init 42 = .ok (.aload_n 0, 1) := by decide +kernel
theorem dX0_init_43 : decode cX0_init 43 = .ok (.iconst 0, 1) := by decide +kernel
theorem dX0_init_44 : decode cX0_init 44 = .ok (.putfield 35, 3) := by decide +kernel
theorem dX0_init_47 : decode cX0_init 47 = .ok (.aload_n 0, 1) := by decide +kernel
theorem dX0_init_48 : decode cX0_init 48 = .ok (.bipush 51, 2) := by decide +kernel
theorem dX0_init_50 : decode cX0_init 50 = .ok (.putfield 38, 3) := by decide +kernel
theorem dX0_init_53 : decode cX0_init 53 = .ok (.aload_n 0, 1) := by decide +kernel
theorem dX0_init_54 : decode cX0_init 54 = .ok (.iconst 0, 1) := by decide +kernel
theorem dX0_init_55 : decode cX0_init 55 = .ok (.putfield 41, 3) := by decide +kernel
theorem dX0_init_58 : decode cX0_init 58 = .ok (.aload_n 0, 1) := by decide +kernel
theorem dX0_init_59 : decode cX0_init 59 = .ok (.bipush 51, 2) := by decide +kernel
theorem dX0_init_61 : decode cX0_init 61 = .ok (.putfield 44, 3) := by decide +kernel
theorem dX0_init_64 : decode cX0_init 64 = .ok (.aload_n 0, 1) := by decide +kernel
theorem dX0_init_65 : decode cX0_init 65 = .ok (.iconst 0, 1) := by decide +kernel
theorem dX0_init_66 : decode cX0_init 66 = .ok (.putfield 47, 3) := by decide +kernel
theorem dX0_init_69 : decode cX0_init 69 = .ok (.aload_n 0, 1) := by decide +kernel
theorem dX0_init_70 : decode cX0_init 70 = .ok (.iconst 0, 1) := by decide +kernel
theorem dX0_init_71 : decode cX0_init 71 = .ok (.putfield 50, 3) := by decide +kernel
theorem dX0_init_74 : decode cX0_init 74 = .ok (.return_, 1) := by decide +kernel
theorem dX0_moveIn_0 : decode cX0_moveIn 0 = .ok (.aload_n 0, 1) := by decide +kernel
theorem dX0_moveIn_1 : decode cX0_moveIn 1 = .ok (.iload_n 1, 1) := by decide +kernel
theorem dX0_moveIn_2 : decode cX0_moveIn 2 = .ok (.putfield 19, 3) := by decide +kernel
theorem dX0_moveIn_5 : decode cX0_moveIn 5 = .ok (.aload_n 0, 1) := by decide +kernel
theorem dX0_moveIn_6 : decode cX0_moveIn 6 = .ok (.iload_n 2, 1) := by decide +kernel
theorem dX0_moveIn_7 : decode cX0_moveIn 7 = .ok (.putfield 22, 3) := by decide +kernel
theorem dX0_moveIn_10 : decode cX0_moveIn 10 = .ok (.aload_n 0, 1) := by decide +kernel
theorem dX0_moveIn_11 : decode cX0_moveIn 11 = .ok (.iload_n 3, 1) := by decide +kernel
theorem dX0_moveIn_12 : decode cX0_moveIn 12 = .ok (.putfield 25, 3) := by decide +kernel
theorem dX0_moveIn_15 : decode cX0_moveIn 15 = .ok (.aload_n 0, 1) := by decide +kernel
theorem dX0_moveIn_16 : decode cX0_moveIn 16 = .ok (.iload 4, 2) := by decide +kernel
theorem dX0_moveIn_18 : decode cX0_moveIn 18 = .ok (.putfield 28, 3) := by decide +kernel
theorem dX0_moveIn_21 : decode cX0_moveIn 21 = .ok (.return_, 1) := by decide +kernel
theorem dX0_sleeps_0 : decode cX0_sleeps 0 = .ok (.aload_n 0, 1) := by decide +kernel
theorem dX0_sleeps_1 : decode cX0_sleeps 1 = .ok (.getfield 19, 3) := by decide +kernel
theorem dX0_sleeps_4 : decode cX0_sleeps 4 = .ok (.iconst 1, 1) := by decide +kernel
theorem dX0_sleeps_5 : decode cX0_sleeps 5 = .ok (.if_icmp .eq 11, 3) := by decide +kernel
theorem dX0_sleeps_8 : decode cX0_sleeps 8 = .ok (.aload_n 0, 1) := by decide +kernel
theorem dX0_sleeps_9 : decode cX0_sleeps 9 = .ok (.getfield 19, 3) := by decide +kernel
theorem dX0_sleeps_12 : decode cX0_sleeps 12 = .ok (.iconst 3, 1) := by decide +kernel
theorem dX0_sleeps_13 : decode cX0_sleeps 13 = .ok (.if_icmp .ne 12, 3) := by decide +kernel
theorem dX0_sleeps_16 : decode cX0_sleeps 16 = .ok (.aload_n 0, 1) := by decide +kernel
theorem dX0_sleeps_17 : decode cX0_sleeps 17 = .ok (.getfield 22, 3) := by decide +kernel
theorem dX0_sleeps_20 : decode cX0_sleeps 20 = .ok (.iconst 1, 1) := by decide +kernel
theorem dX0_sleeps_21 : decode cX0_sleeps 21 = .ok (.isub, 1) := by decide +kernel
theorem dX0_sleeps_22 : decode cX0_sleeps 22 = .ok (.goto 7, 3) := by decide +kernel
theorem dX0_sleeps_25 : decode cX0_sleeps 25 = .ok (.aload_n 0, 1) := by decide +kernel
theorem dX0_sleeps_26 : decode cX0_sleeps 26 = .ok (.getfield 22, 3) := by decide +kernel
theorem dX0_sleeps_29 : decode cX0_sleeps 29 = .ok (.ireturn, 1) := by decide +kernel
theorem dX0_worth_0 : decode cX0_worth 0 = .ok (.aload_n 0, 1) := by decide +kernel
theorem dX0_worth_1 : decode cX0_worth 1 = .ok (.getfield 19, 3) := by decide +kernel
theorem dX0_worth_4 : decode cX0_worth 4 = .ok (.iconst 2, 1) := by decide +kernel
theorem dX0_worth_5 : decode cX0_worth 5 = .ok (.if_icmp .ne 7, 3) := by decide +kernel
theorem dX0_worth_8 : decode cX0_worth 8 = .ok (.iconst 5, 1) := by decide +kernel
theorem dX0_worth_9 : decode cX0_worth 9 = .ok (.goto 17, 3) := by decide +kernel
theorem dX0_worth_12 : decode cX0_worth 12 = .ok (.aload_n 0, 1) := by decide +kernel
theorem dX0_worth_13 : decode cX0_worth 13 = .ok (.getfield 19, 3) := by decide +kernel
theorem dX0_worth_16 : decode cX0_worth 16 = .ok (.iconst 3, 1) := by decide +kernel
theorem dX0_worth_17 : decode cX0_worth 17 = .ok (.if_icmp .ne 8, 3) := by decide +kernel
theorem dX0_worth_20 : decode cX0_worth 20 = .ok (.bipush 15, 2) := by decide +kernel
theorem dX0_worth_22 : decode cX0_worth 22 = .ok (.goto 4, 3) := by decide +kernel
theorem dX0_worth_25 : decode cX0_worth 25 = .ok (.iconst 0, 1) := by decide +kernel
theorem dX0_worth_26 : decode cX0_worth 26 = .ok (.istore_n 1, 1) := by decide +kernel
theorem dX0_worth_27 : decode cX0_worth 27 = .ok (.bipush 10, 2) := by decide +kernel
theorem dX0_worth_29 : decode cX0_worth 29 = .ok (.aload_n 0, 1) := by decide +kernel
theorem dX0_worth_30 : decode cX0_worth 30 = .ok (.invokevirtual 53, 3) := by decide +kernel
theorem dX0_worth_33 : decode cX0_worth 33 = .ok (.imul, 1) := by decide +kernel
theorem dX0_worth_34 : decode cX0_worth 34 = .ok (.iload_n 1, 1) := by decide +kernel
theorem dX0_worth_35 : decode cX0_worth 35 = .ok (.iadd, 1) := by decide +kernel
theorem dX0_worth_36 : decode cX0_worth 36 = .ok (.ireturn, 1) := by decide +kernel
theorem dX0_welcomesPets_0 : decode cX0_welcomesPets 0 = .ok (.aload_n 0, 1) := by decide +kernel
theorem dX0_welcomesPets_1 : decode cX0_welcomesPets 1 = .ok (.getfield 19, 3) := by decide +kernel
theorem dX0_welcomesPets_4 : decode cX0_welcomesPets 4 = .ok (.iconst 2, 1) := by decide +kernel
theorem dX0_welcomesPets_5 : decode cX0_welcomesPets 5 = .ok (.if_icmp .eq 11, 3) := by decide +kernel
theorem dX0_welcomesPets_8 : decode cX0_welcomesPets 8 = .ok (.aload_n 0, 1) := by decide +kernel
theorem dX0_welcomesPets_9 : decode cX0_welcomesPets 9 = .ok (.getfield 19, 3) := by decide +kernel
theorem dX0_welcomesPets_12 : decode cX0_welcomesPets 12 = .ok (.iconst 3, 1) := by decide +kernel
theorem dX0_welcomesPets_13 : decode cX0_welcomesPets 13 = .ok (.if_icmp .ne 7, 3) := by decide +kernel
theorem dX0_welcomesPets_16 : decode cX0_welcomesPets 16 = .ok (.iconst 1, 1) := by decide +kernel
theorem dX0_welcomesPets_17 : decode cX0_welcomesPets 17 = .ok (.goto 4, 3) := by decide +kernel
theorem dX0_welcomesPets_20 : decode cX0_welcomesPets 20 = .ok (.iconst 0, 1) := by decide +kernel
theorem dX0_welcomesPets_21 : decode cX0_welcomesPets 21 = .ok (.ireturn, 1) := by decide +kernel
theorem dX0_weeksAt_0 : decode cX0_weeksAt 0 = .ok (.aload_n 0, 1) := by decide +kernel
theorem dX0_weeksAt_1 : decode cX0_weeksAt 1 = .ok (.getfield 44, 3) := by decide +kernel
theorem dX0_weeksAt_4 : decode cX0_weeksAt 4 = .ok (.aload_n 1, 1) := by decide +kernel
theorem dX0_weeksAt_5 : decode cX0_weeksAt 5 = .ok (.getfield 38, 3) := by decide +kernel
theorem dX0_weeksAt_8 : decode cX0_weeksAt 8 = .ok (.invokestatic 57, 3) := by decide +kernel
theorem dX0_weeksAt_11 : decode cX0_weeksAt 11 = .ok (.aload_n 0, 1) := by decide +kernel
theorem dX0_weeksAt_12 : decode cX0_weeksAt 12 = .ok (.getfield 41, 3) := by decide +kernel
theorem dX0_weeksAt_15 : decode cX0_weeksAt 15 = .ok (.aload_n 1, 1) := by decide +kernel
theorem dX0_weeksAt_16 : decode cX0_weeksAt 16 = .ok (.getfield 35, 3) := by decide +kernel
theorem dX0_weeksAt_19 : decode cX0_weeksAt 19 = .ok (.invokestatic 63, 3) := by decide +kernel
theorem dX0_weeksAt_22 : decode cX0_weeksAt 22 = .ok (.isub, 1) := by decide +kernel
theorem dX0_weeksAt_23 : decode cX0_weeksAt 23 = .ok (.iconst 1, 1) := by decide +kernel
theorem dX0_weeksAt_24 : decode cX0_weeksAt 24 = .ok (.iadd, 1) := by decide +kernel
theorem dX0_weeksAt_25 : decode cX0_weeksAt 25 = .ok (.ireturn, 1) := by decide +kernel
theorem dX0_addWish_0 : decode cX0_addWish 0 = .ok (.aload_n 0, 1) := by decide +kernel
theorem dX0_addWish_1 : decode cX0_addWish 1 = .ok (.dup, 1) := by decide +kernel
theorem dX0_addWish_2 : decode cX0_addWish 2 = .ok (.getfield 15, 3) := by decide +kernel
theorem dX0_addWish_5 : decode cX0_addWish 5 = .ok (.iconst 1, 1) := by decide +kernel
theorem dX0_addWish_6 : decode cX0_addWish 6 = .ok (.iadd, 1) := by decide +kernel
theorem dX0_addWish_7 : decode cX0_addWish 7 = .ok (.putfield 15, 3) := by decide +kernel
theorem dX0_addWish_10 : decode cX0_addWish 10 = .ok (.aload_n 0, 1) := by decide +kernel
theorem dX0_addWish_11 : decode cX0_addWish 11 = .ok (.getfield 9, 3) := by decide +kernel
theorem dX0_addWish_14 : decode cX0_addWish 14 = .ok (.iload_n 1, 1) := by decide +kernel
theorem dX0_addWish_15 : decode cX0_addWish 15 = .ok (.aload_n 0, 1) := by decide +kernel
theorem dX0_addWish_16 : decode cX0_addWish 16 = .ok (.getfield 15, 3) := by decide +kernel
theorem dX0_addWish_19 : decode cX0_addWish 19 = .ok (.iastore, 1) := by decide +kernel
theorem dX0_addWish_20 : decode cX0_addWish 20 = .ok (.return_, 1) := by decide +kernel
theorem dX0_dropWishes_0 : decode cX0_dropWishes 0 = .ok (.aload_n 0, 1) := by decide +kernel
theorem dX0_dropWishes_1 : decode cX0_dropWishes 1 = .ok (.iconst 0, 1) := by decide +kernel
theorem dX0_dropWishes_2 : decode cX0_dropWishes 2 = .ok (.putfield 15, 3) := by decide +kernel
theorem dX0_dropWishes_5 : decode cX0_dropWishes 5 = .ok (.iconst 0, 1) := by decide +kernel
theorem dX0_dropWishes_6 : decode cX0_dropWishes 6 = .ok (.istore_n 1, 1) := by decide +kernel
theorem dX0_dropWishes_7 : decode cX0_dropWishes 7 = .ok (.iload_n 1, 1) := by decide +kernel
theorem dX0_dropWishes_8 : decode cX0_dropWishes 8 = .ok (.bipush 10, 2) := by decide +kernel
theorem dX0_dropWishes_10 : decode cX0_dropWishes 10 = .ok (.if_icmp .ge 16, 3) := by decide +kernel
theorem dX0_dropWishes_13 : decode cX0_dropWishes 13 = .ok (.aload_n 0, 1) := by decide +kernel
theorem dX0_dropWishes_14 : decode cX0_dropWishes 14 = .ok (.getfield 9, 3) := by decide +kernel
theorem dX0_dropWishes_17 : decode cX0_dropWishes 17 = .ok (.iload_n 1, 1) := by decide +kernel
theorem dX0_dropWishes_18 : decode cX0_dropWishes 18 = .ok (.iconst 0, 1) := by decide +kernel
theorem dX0_dropWishes_19 : decode cX0_dropWishes 19 = .ok (.iastore, 1) := by decide +kernel
theorem dX0_dropWishes_20 : decode cX0_dropWishes 20 = .ok (.iinc 1 1, 3) := by decide +kernel
theorem dX0_dropWishes_23 : decode cX0_dropWishes 23 = .ok (.goto (-16), 3) := by decide +kernel
theorem dX0_dropWishes_26 : decode cX0_dropWishes 26 = .ok (.return_, 1) := by decide +kernel
theorem dX0_barFrom_0 : decode cX0_barFrom 0 = .ok (.aload_n 0, 1) := by decide +kernel
theorem dX0_barFrom_1 : decode cX0_barFrom 1 = .ok (.iload_n 2, 1) := by decide +kernel
theorem dX0_barFrom_2 : decode cX0_barFrom 2 = .ok (.ifCond .eq 14, 3) := by decide +kernel
theorem dX0_barFrom_5 : decode cX0_barFrom 5 = .ok (.aload_n 0, 1) := by decide +kernel
theorem dX0_barFrom_6 : decode cX0_barFrom 6 = .ok (.getfield 47, 3) := by decide +kernel
theorem dX0_barFrom_9 : decode cX0_barFrom 9 = .ok (.iconst 1, 1) := by decide +kernel
theorem dX0_barFrom_10 : decode cX0_barFrom 10 = .ok (.iload_n 1, 1) := by decide +kernel
theorem dX0_barFrom_11 : decode cX0_barFrom 11 = .ok (.ishl, 1) := by decide +kernel
theorem dX0_barFrom_12 : decode cX0_barFrom 12 = .ok (.ior, 1) := by decide +kernel
theorem dX0_barFrom_13 : decode cX0_barFrom 13 = .ok (.goto 13, 3) := by decide +kernel
theorem dX0_barFrom_16 : decode cX0_barFrom 16 = .ok (.aload_n 0, 1) := by decide +kernel
theorem dX0_barFrom_17 : decode cX0_barFrom 17 = .ok (.getfield 47, 3) := by decide +kernel
theorem dX0_barFrom_20 : decode cX0_barFrom 20 = .ok (.iconst 1, 1) := by decide +kernel
theorem dX0_barFrom_21 : decode cX0_barFrom 21 = .ok (.iload_n 1, 1) := by decide +kernel
theorem dX0_barFrom_22 : decode cX0_barFrom 22 = .ok (.ishl, 1) := by decide +kernel
theorem dX0_barFrom_23 : decode cX0_barFrom 23 = .ok (.iconst (-1), 1) := by decide +kernel
theorem dX0_barFrom_24 : decode cX0_barFrom 24 = .ok (.ixor, 1) := by decide +kernel
theorem dX0_barFrom_25 : decode cX0_barFrom 25 = .ok (.iand, 1) := by decide +kernel
theorem dX0_barFrom_26 : decode cX0_barFrom 26 = .ok (.putfield 47, 3) := by decide +kernel
theorem dX0_barFrom_29 : decode cX0_barFrom 29 = .ok (.return_, 1) := by decide +kernel
theorem dX0_isBarredFrom_0 : decode cX0_isBarredFrom 0 = .ok (.aload_n 0, 1) := by decide +kernel
theorem dX0_isBarredFrom_1 : decode cX0_isBarredFrom 1 = .ok (.getfield 47, 3) := by decide +kernel
theorem dX0_isBarredFrom_4 : decode cX0_isBarredFrom 4 = .ok (.iload_n 1, 1) := by decide +kernel
theorem dX0_isBarredFrom_5 : decode cX0_isBarredFrom 5 = .ok (.ishr, 1) := by decide +kernel
theorem dX0_isBarredFrom_6 : decode cX0_isBarredFrom 6 = .ok (.iconst 1, 1) := by decide +kernel
theorem dX0_isBarredFrom_7 : decode cX0_isBarredFrom 7 = .ok (.iand, 1) := by decide +kernel
theorem dX0_isBarredFrom_8 : decode cX0_isBarredFrom 8 = .ok (.iconst 1, 1) := by decide +kernel
theorem dX0_isBarredFrom_9 : decode cX0_isBarredFrom 9 = .ok (.if_icmp .ne 7, 3) := by decide +kernel
theorem dX0_isBarredFrom_12 : decode cX0_isBarredFrom 12 = .ok (.iconst 1, 1) := by decide +kernel
theorem dX0_isBarredFrom_13 : decode cX0_isBarredFrom 13 = .ok (.goto 4, 3) := by decide +kernel
theorem dX0_isBarredFrom_16 : decode cX0_isBarredFrom 16 = .ok (.iconst 0, 1) := by decide +kernel
theorem dX0_isBarredFrom_17 : decode cX0_isBarredFrom 17 = .ok (.ireturn, 1) := by decide +kernel
theorem dX1_init_0 : decode cX1_init 0 = .ok (.aload_n 0, 1) := by decide +kernel
theorem dX1_init_1 : decode cX1_init 1 = .ok (.invokespecial 3, 3) := by decide +kernel
theorem dX1_init_4 : decode cX1_init 4 = .ok (.aload_n 0, 1) := by decide +kernel
theorem dX1_init_5 : decode cX1_init 5 = .ok (.bipush 10, 2) := by decide +kernel
theorem dX1_init_7 : decode cX1_init 7 = .ok (.newarray .long, 2) := by decide +kernel
theorem dX1_init_9 : decode cX1_init 9 = .ok (.putfield 9, 3) := by decide +kernel
theorem dX1_init_12 : decode cX1_init 12 = .ok (.aload_n 0, 1) := by decide +kernel
theorem dX1_init_13 : decode cX1_init 13 = .ok (.bipush 100, 2) := by decide +kernel
theorem dX1_init_15 : decode cX1_init 15 = .ok (.newarray .long, 2) := by decide +kernel
theorem dX1_init_17 : decode cX1_init 17 = .ok (.putfield 15, 3) := by decide +kernel
theorem dX1_init_20 : decode cX1_init 20 = .ok (.aload_n 0, 1) := by decide +kernel
theorem dX1_init_21 : decode cX1_init 21 = .ok (.sipush 4608, 3) := by decide +kernel
theorem dX1_init_24 : decode cX1_init 24 = .ok (.newarray .long, 2) := by decide +kernel
theorem dX1_init_26 : decode cX1_init 26 = .ok (.putfield 18, 3) := by decide +kernel
theorem dX1_init_29 : decode cX1_init 29 = .ok (.aload_n 0, 1) := by decide +kernel
theorem dX1_init_30 : decode cX1_init 30 = .ok (.sipush 1024, 3) := by decide +kernel
theorem dX1_init_33 : decode cX1_init 33 = .ok (.newarray .long, 2) := by decide +kernel
theorem dX1_init_35 : decode cX1_init 35 = .ok (.putfield 21, 3) := by decide +kernel
theorem dX1_init_38 : decode cX1_init 38 = .ok (.aload_n 0, 1) := by decide +kernel
theorem dX1_init_39 : decode cX1_init 39 = .ok (.sipush 1024, 3) := by decide +kernel
theorem dX1_init_42 : decode cX1_init 42 = .ok (.newarray .long, 2) := by decide +kernel
theorem dX1_init_44 : decode cX1_init 44 = .ok (.putfield 24, 3) := by decide +kernel
theorem dX1_init_47 : decode cX1_init 47 = .ok (.aload_n 0, 1) := by decide +kernel
theorem dX1_init_48 : decode cX1_init 48 = .ok (.iconst 0, 1) := by decide +kernel
theorem dX1_init_49 : decode cX1_init 49 = .ok (.putfield 27, 3) := by decide +kernel
theorem dX1_init_52 : decode cX1_init 52 = .ok (.lconst 1, 1) := by decide +kernel
theorem dX1_init_53 : decode cX1_init 53 = .ok (.lstore_n 1, 1) := by decide +kernel
theorem dX1_init_54 : decode cX1_init 54 = .ok (.bipush 9, 2) := by decide +kernel
theorem dX1_init_56 : decode cX1_init 56 = .ok (.istore_n 3, 1) := by decide +kernel
theorem dX1_init_57 : decode cX1_init 57 = .ok (.iload_n 3, 1) := by decide +kernel
theorem dX1_init_58 : decode cX1_init 58 = .ok (.ifCond .lt 22, 3) := by decide +kernel
theorem dX1_init_61 : decode cX1_init 61 = .ok (.aload_n 0, 1) := by decide +kernel
theorem dX1_init_62 : decode cX1_init 62 = .ok (.getfield 9, 3) := by decide +kernel
theorem dX1_init_65 : decode cX1_init 65 = .ok (.iload_n 3, 1) := by decide +kernel
theorem dX1_init_66 : decode cX1_init 66 = .ok (.lload_n 1, 1) := by decide +kernel
theorem dX1_init_67 : decode cX1_init 67 = .ok (.lastore, 1) := by decide +kernel
theorem dX1_init_68 : decode cX1_init 68 = .ok (.lload_n 1, 1) := by decide +kernel
theorem dX1_init_69 : decode cX1_init 69 = .ok (.ldc2_w 31, 3) := by decide +kernel
theorem dX1_init_72 : decode cX1_init 72 = .ok (.lmul, 1) := by decide +kernel
theorem dX1_init_73 : decode cX1_init 73 = .ok (.lstore_n 1, 1) := by decide +kernel
theorem dX1_init_74 : decode cX1_init 74 = .ok (.iinc 3 (-1), 3) := by decide +kernel
theorem dX1_init_77 : decode cX1_init 77 = .ok (.goto (-20), 3) := by decide +kernel
theorem dX1_init_80 : decode cX1_init 80 = .ok (.return_, 1) := by decide +kernel
theorem dX1_clear_0 : decode cX1_clear 0 = .ok (.aload_n 0, 1) := by decide +kernel
theorem dX1_clear_1 : decode cX1_clear 1 = .ok (.iload_n 1, 1) := by decide +kernel
theorem dX1_clear_2 : decode cX1_clear 2 = .ok (.putfield 27, 3) := by decide +kernel
theorem dX1_clear_5 : decode cX1_clear 5 = .ok (.iconst 0, 1) := by decide +kernel
theorem dX1_clear_6 : decode cX1_clear 6 = .ok (.istore_n 2, 1) := by decide +kernel
theorem dX1_clear_7 : decode cX1_clear 7 = .ok (.iload_n 2, 1) := by decide +kernel
theorem dX1_clear_8 : decode cX1_clear 8 = .ok (.aload_n 0, 1) := by decide +kernel
theorem dX1_clear_9 : decode cX1_clear 9 = .ok (.getfield 15, 3) := by decide +kernel
theorem dX1_clear_12 : decode cX1_clear 12 = .ok (.arraylength, 1) := by decide +kernel
theorem dX1_clear_13 : decode cX1_clear 13 = .ok (.if_icmp .ge 18, 3) := by decide +kernel
theorem dX1_clear_16 : decode cX1_clear 16 = .ok (.aload_n 0, 1) := by decide +kernel
theorem dX1_clear_17 : decode cX1_clear 17 = .ok (.getfield 15, 3) := by decide +kernel
theorem dX1_clear_20 : decode cX1_clear 20 = .ok (.iload_n 2, 1) := by decide +kernel
theorem dX1_clear_21 : decode cX1_clear 21 = .ok (.ldc2_w 33, 3) := by decide +kernel
theorem dX1_clear_24 : decode cX1_clear 24 = .ok (.lastore, 1) := by decide +kernel
theorem dX1_clear_25 : decode cX1_clear 25 = .ok (.iinc 2 1, 3) := by decide +kernel
theorem dX1_clear_28 : decode cX1_clear 28 = .ok (.goto (-21), 3) := by decide +kernel
theorem dX1_clear_31 : decode cX1_clear 31 = .ok (.return_, 1) := by decide +kernel
theorem dX1_allow_0 : decode cX1_allow 0 = .ok (.aload_n 0, 1) := by decide +kernel
theorem dX1_allow_1 : decode cX1_allow 1 = .ok (.getfield 15, 3) := by decide +kernel
theorem dX1_allow_4 : decode cX1_allow 4 = .ok (.iload_n 1, 1) := by decide +kernel
theorem dX1_allow_5 : decode cX1_allow 5 = .ok (.bipush 10, 2) := by decide +kernel
theorem dX1_allow_7 : decode cX1_allow 7 = .ok (.imul, 1) := by decide +kernel
theorem dX1_allow_8 : decode cX1_allow 8 = .ok (.iload_n 2, 1) := by decide +kernel
theorem dX1_allow_9 : decode cX1_allow 9 = .ok (.iadd, 1) := by decide +kernel
theorem dX1_allow_10 : decode cX1_allow 10 = .ok (.iload_n 3, 1) := by decide +kernel
theorem dX1_allow_11 : decode cX1_allow 11 = .ok (.i2l, 1) := by decide +kernel
theorem dX1_allow_12 : decode cX1_allow 12 = .ok (.ldc2_w 35, 3) := by decide +kernel
theorem dX1_allow_15 : decode cX1_allow 15 = .ok (.lmul, 1) := by decide +kernel
theorem dX1_allow_16 : decode cX1_allow 16 = .ok (.iload_n 2, 1) := by decide +kernel
theorem dX1_allow_17 : decode cX1_allow 17 = .ok (.i2l, 1) := by decide +kernel
theorem dX1_allow_18 : decode cX1_allow 18 = .ok (.aload_n 0, 1) := by decide +kernel
theorem dX1_allow_19 : decode cX1_allow 19 = .ok (.getfield 9, 3) := by decide +kernel
theorem dX1_allow_22 : decode cX1_allow 22 = .ok (.iload_n 1, 1) := by decide +kernel
theorem dX1_allow_23 : decode cX1_allow 23 = .ok (.laload, 1) := by decide +kernel
theorem dX1_allow_24 : decode cX1_allow 24 = .ok (.lmul, 1) := by decide +kernel
theorem dX1_allow_25 : decode cX1_allow 25 = .ok (.lsub, 1) := by decide +kernel
theorem dX1_allow_26 : decode cX1_allow 26 = .ok (.lastore, 1) := by decide +kernel
theorem dX1_allow_27 : decode cX1_allow 27 = .ok (.return_, 1) := by decide +kernel
theorem dX1_replacePlan_0 : decode cX1_replacePlan 0 = .ok (.aload_n 0, 1) := by decide +kernel
theorem dX1_replacePlan_1 : decode cX1_replacePlan 1 = .ok (.iload_n 2, 1) := by decide +kernel
theorem dX1_replacePlan_2 : decode cX1_replacePlan 2 = .ok (.invokevirtual 37, 3) := by decide +kernel
theorem dX1_replacePlan_5 : decode cX1_replacePlan 5 = .ok (.aload_n 0, 1) := by decide +kernel
theorem dX1_replacePlan_6 : decode cX1_replacePlan 6 = .ok (.invokevirtual 41, 3) := by decide +kernel
theorem dX1_replacePlan_9 : decode cX1_replacePlan 9 = .ok (.aload_n 0, 1) := by decide +kernel
theorem dX1_replacePlan_10 : decode cX1_replacePlan 10 = .ok (.aload_n 0, 1) := by decide +kernel
theorem dX1_replacePlan_11 : decode cX1_replacePlan 11 = .ok (.getfield 24, 3) := by decide +kernel
theorem dX1_replacePlan_14 : decode cX1_replacePlan 14 = .ok (.iconst 0, 1) := by decide +kernel
theorem dX1_replacePlan_15 : decode cX1_replacePlan 15 = .ok (.laload, 1) := by decide +kernel
theorem dX1_replacePlan_16 : decode cX1_replacePlan 16 = .ok (.aload_n 1, 1) := by decide +kernel
theorem dX1_replacePlan_17 : decode cX1_replacePlan 17 = .ok (.invokevirtual 44, 3) := by decide +kernel
theorem dX1_replacePlan_20 : decode cX1_replacePlan 20 = .ok (.ireturn, 1) := by decide +kernel
theorem dX1_findRings_0 : decode cX1_findRings 0 = .ok (.iconst 0, 1) := by decide +kernel
theorem dX1_findRings_1 : decode cX1_findRings 1 = .ok (.istore_n 2, 1) := by decide +kernel
theorem dX1_findRings_2 : decode cX1_findRings 2 = .ok (.iload_n 2, 1) := by decide +kernel
theorem dX1_findRings_3 : decode cX1_findRings 3 = .ok (.iconst 1, 1) := by decide +kernel
theorem dX1_findRings_4 : decode cX1_findRings 4 = .ok (.aload_n 0, 1) := by decide +kernel
theorem dX1_findRings_5 : decode cX1_findRings 5 = .ok (.getfield 27, 3) := by decide +kernel
theorem dX1_findRings_8 : decode cX1_findRings 8 = .ok (.ishl, 1) := by decide +kernel
theorem dX1_findRings_9 : decode cX1_findRings 9 = .ok (.if_icmp .ge 18, 3) := by decide +kernel
theorem dX1_findRings_12 : decode cX1_findRings 12 = .ok (.aload_n 0, 1) := by decide +kernel
theorem dX1_findRings_13 : decode cX1_findRings 13 = .ok (.getfield 21, 3) := by decide +kernel
theorem dX1_findRings_16 : decode cX1_findRings 16 = .ok (.iload_n 2, 1) := by decide +kernel
theorem dX1_findRings_17 : decode cX1_findRings 17 = .ok (.ldc2_w 33, 3) := by decide +kernel
theorem dX1_findRings_20 : decode cX1_findRings 20 = .ok (.lastore, 1) := by decide +kernel
theorem dX1_findRings_21 : decode cX1_findRings 21 = .ok (.iinc 2 1, 3) := by decide +kernel
theorem dX1_findRings_24 : decode cX1_findRings 24 = .ok (.goto (-22), 3) := by decide +kernel
theorem dX1_findRings_27 : decode cX1_findRings 27 = .ok (.iconst 0, 1) := by decide +kernel
theorem dX1_findRings_28 : decode cX1_findRings 28 = .ok (.istore_n 2, 1) := by decide +kernel
theorem dX1_findRings_29 : decode cX1_findRings 29 = .ok (.iload_n 2, 1) := by decide +kernel
theorem dX1_findRings_30 : decode cX1_findRings 30 = .ok (.aload_n 0, 1) := by decide +kernel
theorem dX1_findRings_31 : decode cX1_findRings 31 = .ok (.getfield 27, 3) := by decide +kernel
theorem dX1_findRings_34 : decode cX1_findRings 34 = .ok (.if_icmp .ge 20, 3) := by decide +kernel
theorem dX1_findRings_37 : decode cX1_findRings 37 = .ok (.aload_n 0, 1) := by decide +kernel
theorem dX1_findRings_38 : decode cX1_findRings 38 = .ok (.iload_n 2, 1) := by decide +kernel
theorem dX1_findRings_39 : decode cX1_findRings 39 = .ok (.invokevirtual 48, 3) := by decide +kernel
theorem dX1_findRings_42 : decode cX1_findRings 42 = .ok (.aload_n 0, 1) := by decide +kernel
theorem dX1_findRings_43 : decode cX1_findRings 43 = .ok (.iload_n 2, 1) := by decide +kernel
theorem dX1_findRings_44 : decode cX1_findRings 44 = .ok (.iload_n 1, 1) := by decide +kernel
theorem dX1_findRings_45 : decode cX1_findRings 45 = .ok (.invokevirtual 51, 3) := by decide +kernel
theorem dX1_findRings_48 : decode cX1_findRings 48 = .ok (.iinc 2 1, 3) := by decide +kernel
theorem dX1_findRings_51 : decode cX1_findRings 51 = .ok (.goto (-22), 3) := by decide +kernel
theorem dX1_findRings_54 : decode cX1_findRings 54 = .ok (.return_, 1) := by decide +kernel
theorem dX1_openWays_0 : decode cX1_openWays 0 = .ok (.aload_n 0, 1) := by decide +kernel
theorem dX1_openWays_1 : decode cX1_openWays 1 = .ok (.getfield 27, 3) := by decide +kernel
theorem dX1_openWays_4 : decode cX1_openWays 4 = .ok (.iconst 1, 1) := by decide +kernel
theorem dX1_openWays_5 : decode cX1_openWays 5 = .ok (.isub, 1) := by decide +kernel
theorem dX1_openWays_6 : decode cX1_openWays 6 = .ok (.iload_n 1, 1) := by decide +kernel
theorem dX1_openWays_7 : decode cX1_openWays 7 = .ok (.isub, 1) := by decide +kernel
theorem dX1_openWays_8 : decode cX1_openWays 8 = .ok (.istore_n 2, 1) := by decide +kernel
theorem dX1_openWays_9 : decode cX1_openWays 9 = .ok (.iconst 1, 1) := by decide +kernel
theorem dX1_openWays_10 : decode cX1_openWays 10 = .ok (.iload_n 2, 1) := by decide +kernel
theorem dX1_openWays_11 : decode cX1_openWays 11 = .ok (.ishl, 1) := by decide +kernel
theorem dX1_openWays_12 : decode cX1_openWays 12 = .ok (.bipush 9, 2) := by decide +kernel
theorem dX1_openWays_14 : decode cX1_openWays 14 = .ok (.imul, 1) := by decide +kernel
theorem dX1_openWays_15 : decode cX1_openWays 15 = .ok (.istore_n 3, 1) := by decide +kernel
theorem dX1_openWays_16 : decode cX1_openWays 16 = .ok (.iconst 0, 1) := by decide +kernel
theorem dX1_openWays_17 : decode cX1_openWays 17 = .ok (.istore 4, 2) := by decide +kernel
theorem dX1_openWays_19 : decode cX1_openWays 19 = .ok (.iload 4, 2) := by decide +kernel
theorem dX1_openWays_21 : decode cX1_openWays 21 = .ok (.iload_n 3, 1) := by decide +kernel
theorem dX1_openWays_22 : decode cX1_openWays 22 = .ok (.if_icmp .ge 19, 3) := by decide +kernel
theorem dX1_openWays_25 : decode cX1_openWays 25 = .ok (.aload_n 0, 1) := by decide +kernel
theorem dX1_openWays_26 : decode cX1_openWays 26 = .ok (.getfield 18, 3) := by decide +kernel
theorem dX1_openWays_29 : decode cX1_openWays 29 = .ok (.iload 4, 2) := by decide +kernel
theorem dX1_openWays_31 : decode cX1_openWays 31 = .ok (.ldc2_w 33, 3) := by decide +kernel
theorem dX1_openWays_34 : decode cX1_openWays 34 = .ok (.lastore, 1) := by decide +kernel
theorem dX1_openWays_35 : decode cX1_openWays 35 = .ok (.iinc 4 1, 3) := by decide +kernel
theorem dX1_openWays_38 : decode cX1_openWays 38 = .ok (.goto (-19), 3) := by decide +kernel
theorem dX1_openWays_41 : decode cX1_openWays 41 = .ok (.iconst 0, 1) := by decide +kernel
theorem dX1_openWays_42 : decode cX1_openWays 42 = .ok (.istore 4, 2) := by decide +kernel
theorem dX1_openWays_44 : decode cX1_openWays 44 = .ok (.iload 4, 2) := by decide +kernel
theorem dX1_openWays_46 : decode cX1_openWays 46 = .ok (.iload_n 2, 1) := by decide +kernel
theorem dX1_openWays_47 : decode cX1_openWays 47 = .ok (.if_icmp .ge 40, 3) := by decide +kernel
theorem dX1_openWays_50 : decode cX1_openWays 50 = .ok (.aload_n 0, 1) := by decide +kernel
theorem dX1_openWays_51 : decode cX1_openWays 51 = .ok (.getfield 18, 3) := by decide +kernel
theorem dX1_openWays_54 : decode cX1_openWays 54 = .ok (.iconst 1, 1) := by decide +kernel
theorem dX1_openWays_55 : decode cX1_openWays 55 = .ok (.iload 4, 2) := by decide +kernel
theorem dX1_openWays_57 : decode cX1_openWays 57 = .ok (.ishl, 1) := by decide +kernel
theorem dX1_openWays_58 : decode cX1_openWays 58 = .ok (.bipush 9, 2) := by decide +kernel
theorem dX1_openWays_60 : decode cX1_openWays 60 = .ok (.imul, 1) := by decide +kernel
theorem dX1_openWays_61 : decode cX1_openWays 61 = .ok (.iload 4, 2) := by decide +kernel
theorem dX1_openWays_63 : decode cX1_openWays 63 = .ok (.iadd, 1) := by decide +kernel
theorem dX1_openWays_64 : decode cX1_openWays 64 = .ok (.aload_n 0, 1) := by decide +kernel
theorem dX1_openWays_65 : decode cX1_openWays 65 = .ok (.getfield 15, 3) := by decide +kernel
theorem dX1_openWays_68 : decode cX1_openWays 68 = .ok (.iload_n 1, 1) := by decide +kernel
theorem dX1_openWays_69 : decode cX1_openWays 69 = .ok (.bipush 10, 2) := by decide +kernel
theorem dX1_openWays_71 : decode cX1_openWays 71 = .ok (.imul, 1) := by decide +kernel
theorem dX1_openWays_72 : decode cX1_openWays 72 = .ok (.iload_n 1, 1) := by decide +kernel
theorem dX1_openWays_73 : decode cX1_openWays 73 = .ok (.iadd, 1) := by decide +kernel
theorem dX1_openWays_74 : decode cX1_openWays 74 = .ok (.iconst 1, 1) := by decide +kernel
theorem dX1_openWays_75 : decode cX1_openWays 75 = .ok (.iadd, 1) := by decide +kernel
theorem dX1_openWays_76 : decode cX1_openWays 76 = .ok (.iload 4, 2) := by decide +kernel
theorem dX1_openWays_78 : decode cX1_openWays 78 = .ok (.iadd, 1) := by decide +kernel
theorem dX1_openWays_79 : decode cX1_openWays 79 = .ok (.laload, 1) := by decide +kernel
theorem dX1_openWays_80 : decode cX1_openWays 80 = .ok (.lastore, 1) := by decide +kernel
theorem dX1_openWays_81 : decode cX1_openWays 81 = .ok (.iinc 4 1, 3) := by decide +kernel
theorem dX1_openWays_84 : decode cX1_openWays 84 = .ok (.goto (-40), 3) := by decide +kernel
theorem dX1_openWays_87 : decode cX1_openWays 87 = .ok (.return_, 1) := by decide +kernel
theorem dX1_growWays_0 : decode cX1_growWays 0 = .ok (.aload_n 0, 1) := by decide +kernel
theorem dX1_growWays_1 : decode cX1_growWays 1 = .ok (.getfield 27, 3) := by decide +kernel
theorem dX1_growWays_4 : decode cX1_growWays 4 = .ok (.iconst 1, 1) := by decide +kernel
theorem dX1_growWays_5 : decode cX1_growWays 5 = .ok (.isub, 1) := by decide +kernel
theorem dX1_growWays_6 : decode cX1_growWays 6 = .ok (.iload_n 1, 1) := by decide +kernel
theorem dX1_growWays_7 : decode cX1_growWays 7 = .ok (.isub, 1) := by decide +kernel
theorem dX1_growWays_8 : decode cX1_growWays 8 = .ok (.istore_n 3, 1) := by decide +kernel
theorem dX1_growWays_9 : decode cX1_growWays 9 = .ok (.iconst 1, 1) := by decide +kernel
theorem dX1_growWays_10 : decode cX1_growWays 10 = .ok (.istore 4, 2) := by decide +kernel
theorem dX1_growWays_12 : decode cX1_growWays 12 = .ok (.iload 4, 2) := by decide +kernel
theorem dX1_growWays_14 : decode cX1_growWays 14 = .ok (.iconst 1, 1) := by decide +kernel
theorem dX1_growWays_15 : decode cX1_growWays 15 = .ok (.iload_n 3, 1) := by decide +kernel
theorem dX1_growWays_16 : decode cX1_growWays 16 = .ok (.ishl, 1) := by decide +kernel
theorem dX1_growWays_17 : decode cX1_growWays 17 = .ok (.if_icmp .ge 83, 3) := by decide +kernel
theorem dX1_growWays_20 : decode cX1_growWays 20 = .ok (.iload 4, 2) := by decide +kernel
theorem dX1_growWays_22 : decode cX1_growWays 22 = .ok (.invokestatic 55, 3) := by decide +kernel
theorem dX1_growWays_25 : decode cX1_growWays 25 = .ok (.iconst 1, 1) := by decide +kernel
theorem dX1_growWays_26 : decode cX1_growWays 26 = .ok (.iadd, 1) := by decide +kernel
theorem dX1_growWays_27 : decode cX1_growWays 27 = .ok (.istore 5, 2) := by decide +kernel
theorem dX1_growWays_29 : decode cX1_growWays 29 = .ok (.iconst 0, 1) := by decide +kernel
theorem dX1_growWays_30 : decode cX1_growWays 30 = .ok (.istore 6, 2) := by decide +kernel
theorem dX1_growWays_32 : decode cX1_growWays 32 = .ok (.iload 6, 2) := by decide +kernel
theorem dX1_growWays_34 : decode cX1_growWays 34 = .ok (.iload_n 3, 1) := by decide +kernel
theorem dX1_growWays_35 : decode cX1_growWays 35 = .ok (.if_icmp .ge 59, 3) := by decide +kernel
theorem dX1_growWays_38 : decode cX1_growWays 38 = .ok (.iload 5, 2) := by decide +kernel
theorem dX1_growWays_40 : decode cX1_growWays 40 = .ok (.iload_n 2, 1) := by decide +kernel
theorem dX1_growWays_41 : decode cX1_growWays 41 = .ok (.if_icmp .gt 53, 3) := by decide +kernel
theorem dX1_growWays_44 : decode cX1_growWays 44 = .ok (.aload_n 0, 1) := by decide +kernel
theorem dX1_growWays_45 : decode cX1_growWays 45 = .ok (.getfield 18, 3) := by decide +kernel
theorem dX1_growWays_48 : decode cX1_growWays 48 = .ok (.iload 4, 2) := by decide +kernel
theorem dX1_growWays_50 : decode cX1_growWays 50 = .ok (.bipush 9, 2) := by decide +kernel
theorem dX1_growWays_52 : decode cX1_growWays 52 = .ok (.imul, 1) := by decide +kernel
theorem dX1_growWays_53 : decode cX1_growWays 53 = .ok (.iload 6, 2) := by decide +kernel
theorem dX1_growWays_55 : decode cX1_growWays 55 = .ok (.iadd, 1) := by decide +kernel
theorem dX1_growWays_56 : decode cX1_growWays 56 = .ok (.laload, 1) := by decide +kernel
theorem dX1_growWays_57 : decode cX1_growWays 57 = .ok (.ldc2_w 33, 3) := by decide +kernel
theorem dX1_growWays_60 : decode cX1_growWays 60 = .ok (.lcmp, 1) := by decide +kernel
theorem dX1_growWays_61 : decode cX1_growWays 61 = .ok (.ifCond .eq 27, 3) := by decide +kernel
theorem dX1_growWays_64 : decode cX1_growWays 64 = .ok (.aload_n 0, 1) := by decide +kernel
theorem dX1_growWays_65 : decode cX1_growWays 65 = .ok (.iload_n 1, 1) := by decide +kernel
theorem dX1_growWays_66 : decode cX1_growWays 66 = .ok (.iload 4, 2) := by decide +kernel
theorem dX1_growWays_68 : decode cX1_growWays 68 = .ok (.iload 6, 2) := by decide +kernel
theorem dX1_growWays_70 : decode cX1_growWays 70 = .ok (.invokevirtual 61, 3) := by decide +kernel
theorem dX1_growWays_73 : decode cX1_growWays 73 = .ok (.iload 5, 2) := by decide +kernel
theorem dX1_growWays_75 : decode cX1_growWays 75 = .ok (.iload_n 2, 1) := by decide +kernel
theorem dX1_growWays_76 : decode cX1_growWays 76 = .ok (.if_icmp .ge 12, 3) := by decide +kernel
theorem dX1_growWays_79 : decode cX1_growWays 79 = .ok (.aload_n 0, 1) := by decide +kernel
theorem dX1_growWays_80 : decode cX1_growWays 80 = .ok (.iload_n 1, 1) := by decide +kernel
theorem dX1_growWays_81 : decode cX1_growWays 81 = .ok (.iload 4, 2) := by decide +kernel
theorem dX1_growWays_83 : decode cX1_growWays 83 = .ok (.iload 6, 2) := by decide +kernel
theorem dX1_growWays_85 : decode cX1_growWays 85 = .ok (.invokevirtual 65, 3) := by decide +kernel
theorem dX1_growWays_88 : decode cX1_growWays 88 = .ok (.iinc 6 1, 3) := by decide +kernel
theorem dX1_growWays_91 : decode cX1_growWays 91 = .ok (.goto (-59), 3) := by decide +kernel
theorem dX1_growWays_94 : decode cX1_growWays 94 = .ok (.iinc 4 1, 3) := by decide +kernel
theorem dX1_growWays_97 : decode cX1_growWays 97 = .ok (.goto (-85), 3) := by decide +kernel
theorem dX1_growWays_100 : decode cX1_growWays 100 = .ok (.return_, 1) := by decide +kernel
theorem dX1_closeWay_0 : decode cX1_closeWay 0 = .ok (.aload_n 0, 1) := by decide +kernel
theorem dX1_closeWay_1 : decode cX1_closeWay 1 = .ok (.getfield 15, 3) := by decide +kernel
theorem dX1_closeWay_4 : decode cX1_closeWay 4 = .ok (.iload_n 1, 1) := by decide +kernel
theorem dX1_closeWay_5 : decode cX1_closeWay 5 = .ok (.iconst 1, 1) := by decide +kernel
theorem dX1_closeWay_6 : decode cX1_closeWay 6 = .ok (.iadd, 1) := by decide +kernel
theorem dX1_closeWay_7 : decode cX1_closeWay 7 = .ok (.iload_n 3, 1) := by decide +kernel
theorem dX1_closeWay_8 : decode cX1_closeWay 8 = .ok (.iadd, 1) := by decide +kernel
theorem dX1_closeWay_9 : decode cX1_closeWay 9 = .ok (.bipush 10, 2) := by decide +kernel
theorem dX1_closeWay_11 : decode cX1_closeWay 11 = .ok (.imul, 1) := by decide +kernel
theorem dX1_closeWay_12 : decode cX1_closeWay 12 = .ok (.iload_n 1, 1) := by decide +kernel
theorem dX1_closeWay_13 : decode cX1_closeWay 13 = .ok (.iadd, 1) := by decide +kernel
theorem dX1_closeWay_14 : decode cX1_closeWay 14 = .ok (.laload, 1) := by decide +kernel
theorem dX1_closeWay_15 : decode cX1_closeWay 15 = .ok (.lstore 4, 2) := by decide +kernel
theorem dX1_closeWay_17 : decode cX1_closeWay 17 = .ok (.lload 4, 2) := by decide +kernel
theorem dX1_closeWay_19 : decode cX1_closeWay 19 = .ok (.ldc2_w 33, 3) := by decide +kernel
theorem dX1_closeWay_22 : decode cX1_closeWay 22 = .ok (.lcmp, 1) := by decide +kernel
theorem dX1_closeWay_23 : decode cX1_closeWay 23 = .ok (.ifCond .eq 45, 3) := by decide +kernel
theorem dX1_closeWay_26 : decode cX1_closeWay 26 = .ok (.iload_n 2, 1) := by decide +kernel
theorem dX1_closeWay_27 : decode cX1_closeWay 27 = .ok (.iload_n 1, 1) := by decide +kernel
theorem dX1_closeWay_28 : decode cX1_closeWay 28 = .ok (.iconst 1, 1) := by decide +kernel
theorem dX1_closeWay_29 : decode cX1_closeWay 29 = .ok (.iadd, 1) := by decide +kernel
theorem dX1_closeWay_30 : decode cX1_closeWay 30 = .ok (.ishl, 1) := by decide +kernel
theorem dX1_closeWay_31 : decode cX1_closeWay 31 = .ok (.iconst 1, 1) := by decide +kernel
theorem dX1_closeWay_32 : decode cX1_closeWay 32 = .ok (.iload_n 1, 1) := by decide +kernel
theorem dX1_closeWay_33 : decode cX1_closeWay 33 = .ok (.ishl, 1) := by decide +kernel
theorem dX1_closeWay_34 : decode cX1_closeWay 34 = .ok (.ior, 1) := by decide +kernel
theorem dX1_closeWay_35 : decode cX1_closeWay 35 = .ok (.istore 6, 2) := by decide +kernel
theorem dX1_closeWay_37 : decode cX1_closeWay 37 = .ok (.aload_n 0, 1) := by decide +kernel
theorem dX1_closeWay_38 : decode cX1_closeWay 38 = .ok (.getfield 21, 3) := by decide +kernel
theorem dX1_closeWay_41 : decode cX1_closeWay 41 = .ok (.iload 6, 2) := by decide +kernel
theorem dX1_closeWay_43 : decode cX1_closeWay 43 = .ok (.aload_n 0, 1) := by decide +kernel
theorem dX1_closeWay_44 : decode cX1_closeWay 44 = .ok (.getfield 21, 3) := by decide +kernel
theorem dX1_closeWay_47 : decode cX1_closeWay 47 = .ok (.iload 6, 2) := by decide +kernel
theorem dX1_closeWay_49 : decode cX1_closeWay 49 = .ok (.laload, 1) := by decide +kernel
theorem dX1_closeWay_50 : decode cX1_closeWay 50 = .ok (.aload_n 0, 1) := by decide +kernel
theorem dX1_closeWay_51 : decode cX1_closeWay 51 = .ok (.getfield 18, 3) := by decide +kernel
theorem dX1_closeWay_54 : decode cX1_closeWay 54 = .ok (.iload_n 2, 1) := by decide +kernel
theorem dX1_closeWay_55 : decode cX1_closeWay 55 = .ok (.bipush 9, 2) := by decide +kernel
theorem dX1_closeWay_57 : decode cX1_closeWay 57 = .ok (.imul, 1) := by decide +kernel
theorem dX1_closeWay_58 : decode cX1_closeWay 58 = .ok (.iload_n 3, 1) := by decide +kernel
theorem dX1_closeWay_59 : decode cX1_closeWay 59 = .ok (.iadd, 1) := by decide +kernel
theorem dX1_closeWay_60 : decode cX1_closeWay 60 = .ok (.laload, 1) := by decide +kernel
theorem dX1_closeWay_61 : decode cX1_closeWay 61 = .ok (.lload 4, 2) := by decide +kernel
theorem dX1_closeWay_63 : decode cX1_closeWay 63 = .ok (.ladd, 1) := by decide +kernel
theorem dX1_closeWay_64 : decode cX1_closeWay 64 = .ok (.invokestatic 68, 3) := by decide +kernel
theorem dX1_closeWay_67 : decode cX1_closeWay 67 = .ok (.lastore, 1) := by decide +kernel
theorem dX1_closeWay_68 : decode cX1_closeWay 68 = .ok (.return_, 1) := by decide +kernel
theorem dX1_growWay_0 : decode cX1_growWay 0 = .ok (.aload_n 0, 1) := by decide +kernel
theorem dX1_growWay_1 : decode cX1_growWay 1 = .ok (.getfield 27, 3) := by decide +kernel
theorem dX1_growWay_4 : decode cX1_growWay 4 = .ok (.iconst 1, 1) := by decide +kernel
theorem dX1_growWay_5 : decode cX1_growWay 5 = .ok (.isub, 1) := by decide +kernel
theorem dX1_growWay_6 : decode cX1_growWay 6 = .ok (.iload_n 1, 1) := by decide +kernel
theorem dX1_growWay_7 : decode cX1_growWay 7 = .ok (.isub, 1) := by decide +kernel
theorem dX1_growWay_8 : decode cX1_growWay 8 = .ok (.istore 4, 2) := by decide +kernel
theorem dX1_growWay_10 : decode cX1_growWay 10 = .ok (.iload_n 1, 1) := by decide +kernel
theorem dX1_growWay_11 : decode cX1_growWay 11 = .ok (.iconst 1, 1) := by decide +kernel
theorem dX1_growWay_12 : decode cX1_growWay 12 = .ok (.iadd, 1) := by decide +kernel
theorem dX1_growWay_13 : decode cX1_growWay 13 = .ok (.iload_n 3, 1) := by decide +kernel
theorem dX1_growWay_14 : decode cX1_growWay 14 = .ok (.iadd, 1) := by decide +kernel
theorem dX1_growWay_15 : decode cX1_growWay 15 = .ok (.bipush 10, 2) := by decide +kernel
theorem dX1_growWay_17 : decode cX1_growWay 17 = .ok (.imul, 1) := by decide +kernel
theorem dX1_growWay_18 : decode cX1_growWay 18 = .ok (.iload_n 1, 1) := by decide +kernel
theorem dX1_growWay_19 : decode cX1_growWay 19 = .ok (.iadd, 1) := by decide +kernel
theorem dX1_growWay_20 : decode cX1_growWay 20 = .ok (.iconst 1, 1) := by decide +kernel
theorem dX1_growWay_21 : decode cX1_growWay 21 = .ok (.iadd, 1) := by decide +kernel
theorem dX1_growWay_22 : decode cX1_growWay 22 = .ok (.istore 5, 2) := by decide +kernel
theorem dX1_growWay_24 : decode cX1_growWay 24 = .ok (.iconst 0, 1) := by decide +kernel
theorem dX1_growWay_25 : decode cX1_growWay 25 = .ok (.istore 6, 2) := by decide +kernel
theorem dX1_growWay_27 : decode cX1_growWay 27 = .ok (.iload 6, 2) := by decide +kernel
theorem dX1_growWay_29 : decode cX1_growWay 29 = .ok (.iload 4, 2) := by decide +kernel
theorem dX1_growWay_31 : decode cX1_growWay 31 = .ok (.if_icmp .ge 88, 3) := by decide +kernel
theorem dX1_growWay_34 : decode cX1_growWay 34 = .ok (.iload_n 2, 1) := by decide +kernel
theorem dX1_growWay_35 : decode cX1_growWay 35 = .ok (.iload 6, 2) := by decide +kernel
theorem dX1_growWay_37 : decode cX1_growWay 37 = .ok (.ishr, 1) := by decide +kernel
theorem dX1_growWay_38 : decode cX1_growWay 38 = .ok (.iconst 1, 1) := by decide +kernel
theorem dX1_growWay_39 : decode cX1_growWay 39 = .ok (.iand, 1) := by decide +kernel
theorem dX1_growWay_40 : decode cX1_growWay 40 = .ok (.ifCond .ne 73, 3) := by decide +kernel
theorem dX1_growWay_43 : decode cX1_growWay 43 = .ok (.aload_n 0, 1) := by decide +kernel
theorem dX1_growWay_44 : decode cX1_growWay 44 = .ok (.getfield 15, 3) := by decide +kernel
theorem dX1_growWay_47 : decode cX1_growWay 47 = .ok (.iload 5, 2) := by decide +kernel
theorem dX1_growWay_49 : decode cX1_growWay 49 = .ok (.iload 6, 2) := by decide +kernel
theorem dX1_growWay_51 : decode cX1_growWay 51 = .ok (.iadd, 1) := by decide +kernel
theorem dX1_growWay_52 : decode cX1_growWay 52 = .ok (.laload, 1) := by decide +kernel
theorem dX1_growWay_53 : decode cX1_growWay 53 = .ok (.ldc2_w 33, 3) := by decide +kernel
theorem dX1_growWay_56 : decode cX1_growWay 56 = .ok (.lcmp, 1) := by decide +kernel
theorem dX1_growWay_57 : decode cX1_growWay 57 = .ok (.ifCond .eq 56, 3) := by decide +kernel
theorem dX1_growWay_60 : decode cX1_growWay 60 = .ok (.iload_n 2, 1) := by decide +kernel
theorem dX1_growWay_61 : decode cX1_growWay 61 = .ok (.iconst 1, 1) := by decide +kernel
theorem dX1_growWay_62 : decode cX1_growWay 62 = .ok (.iload 6, 2) := by decide +kernel
theorem dX1_growWay_64 : decode cX1_growWay 64 = .ok (.ishl, 1) := by decide +kernel
theorem dX1_growWay_65 : decode cX1_growWay 65 = .ok (.ior, 1) := by decide +kernel
theorem dX1_growWay_66 : decode cX1_growWay 66 = .ok (.bipush 9, 2) := by decide +kernel
theorem dX1_growWay_68 : decode cX1_growWay 68 = .ok (.imul, 1) := by decide +kernel
theorem dX1_growWay_69 : decode cX1_growWay 69 = .ok (.iload 6, 2) := by decide +kernel
theorem dX1_growWay_71 : decode cX1_growWay 71 = .ok (.iadd, 1) := by decide +kernel
theorem dX1_growWay_72 : decode cX1_growWay 72 = .ok (.istore 7, 2) := by decide +kernel
theorem dX1_growWay_74 : decode cX1_growWay 74 = .ok (.aload_n 0, 1) := by decide +kernel
theorem dX1_growWay_75 : decode cX1_growWay 75 = .ok (.getfield 18, 3) := by decide +kernel
theorem dX1_growWay_78 : decode cX1_growWay 78 = .ok (.iload 7, 2) := by decide +kernel
theorem dX1_growWay_80 : decode cX1_growWay 80 = .ok (.aload_n 0, 1) := by decide +kernel
theorem dX1_growWay_81 : decode cX1_growWay 81 = .ok (.getfield 18, 3) := by decide +kernel
theorem dX1_growWay_84 : decode cX1_growWay 84 = .ok (.iload 7, 2) := by decide +kernel
theorem dX1_growWay_86 : decode cX1_growWay 86 = .ok (.laload, 1) := by decide +kernel
theorem dX1_growWay_87 : decode cX1_growWay 87 = .ok (.aload_n 0, 1) := by decide +kernel
theorem dX1_growWay_88 : decode cX1_growWay 88 = .ok (.getfield 18, 3) := by decide +kernel
theorem dX1_growWay_91 : decode cX1_growWay 91 = .ok (.iload_n 2, 1) := by decide +kernel
theorem dX1_growWay_92 : decode cX1_growWay 92 = .ok (.bipush 9, 2) := by decide +kernel
theorem dX1_growWay_94 : decode cX1_growWay 94 = .ok (.imul, 1) := by decide +kernel
theorem dX1_growWay_95 : decode cX1_growWay 95 = .ok (.iload_n 3, 1) := by decide +kernel
theorem dX1_growWay_96 : decode cX1_growWay 96 = .ok (.iadd, 1) := by decide +kernel
theorem dX1_growWay_97 : decode cX1_growWay 97 = .ok (.laload, 1) := by decide +kernel
theorem dX1_growWay_98 : decode cX1_growWay 98 = .ok (.aload_n 0, 1) := by decide +kernel
theorem dX1_growWay_99 : decode cX1_growWay 99 = .ok (.getfield 15, 3) := by decide +kernel
theorem dX1_growWay_102 : decode cX1_growWay 102 = .ok (.iload 5, 2) := by decide +kernel
theorem dX1_growWay_104 : decode cX1_growWay 104 = .ok (.iload 6, 2) := by decide +kernel
theorem dX1_growWay_106 : decode cX1_growWay 106 = .ok (.iadd, 1) := by decide +kernel
theorem dX1_growWay_107 : decode cX1_growWay 107 = .ok (.laload, 1) := by decide +kernel
theorem dX1_growWay_108 : decode cX1_growWay 108 = .ok (.ladd, 1) := by decide +kernel
theorem dX1_growWay_109 : decode cX1_growWay 109 = .ok (.invokestatic 68, 3) := by decide +kernel
theorem dX1_growWay_112 : decode cX1_growWay 112 = .ok (.lastore, 1) := by decide +kernel
theorem dX1_growWay_113 : decode cX1_growWay 113 = .ok (.iinc 6 1, 3) := by decide +kernel
theorem dX1_growWay_116 : decode cX1_growWay 116 = .ok (.goto (-89), 3) := by decide +kernel
theorem dX1_growWay_119 : decode cX1_growWay 119 = .ok (.return_, 1) := by decide +kernel
theorem dX1_settleAll_0 : decode cX1_settleAll 0 = .ok (.iconst 1, 1) := by decide +kernel
theorem dX1_settleAll_1 : decode cX1_settleAll 1 = .ok (.aload_n 0, 1) := by decide +kernel
theorem dX1_settleAll_2 : decode cX1_settleAll 2 = .ok (.getfield 27, 3) := by decide +kernel
theorem dX1_settleAll_5 : decode cX1_settleAll 5 = .ok (.ishl, 1) := by decide +kernel
theorem dX1_settleAll_6 : decode cX1_settleAll 6 = .ok (.iconst 1, 1) := by decide +kernel
theorem dX1_settleAll_7 : decode cX1_settleAll 7 = .ok (.isub, 1) := by decide +kernel
theorem dX1_settleAll_8 : decode cX1_settleAll 8 = .ok (.istore_n 1, 1) := by decide +kernel
theorem dX1_settleAll_9 : decode cX1_settleAll 9 = .ok (.iconst 0, 1) := by decide +kernel
theorem dX1_settleAll_10 : decode cX1_settleAll 10 = .ok (.istore_n 2, 1) := by decide +kernel
theorem dX1_settleAll_11 : decode cX1_settleAll 11 = .ok (.iload_n 2, 1) := by decide +kernel
theorem dX1_settleAll_12 : decode cX1_settleAll 12 = .ok (.iload_n 1, 1) := by decide +kernel
theorem dX1_settleAll_13 : decode cX1_settleAll 13 = .ok (.if_icmp .ge 18, 3) := by decide +kernel
theorem dX1_settleAll_16 : decode cX1_settleAll 16 = .ok (.aload_n 0, 1) := by decide +kernel
theorem dX1_settleAll_17 : decode cX1_settleAll 17 = .ok (.getfield 24, 3) := by decide +kernel
theorem dX1_settleAll_20 : decode cX1_settleAll 20 = .ok (.iload_n 2, 1) := by decide +kernel
theorem dX1_settleAll_21 : decode cX1_settleAll 21 = .ok (.ldc2_w 33, 3) := by decide +kernel
theorem dX1_settleAll_24 : decode cX1_settleAll 24 = .ok (.lastore, 1) := by decide +kernel
theorem dX1_settleAll_25 : decode cX1_settleAll 25 = .ok (.iinc 2 1, 3) := by decide +kernel
theorem dX1_settleAll_28 : decode cX1_settleAll 28 = .ok (.goto (-17), 3) := by decide +kernel
theorem dX1_settleAll_31 : decode cX1_settleAll 31 = .ok (.aload_n 0, 1) := by decide +kernel
theorem dX1_settleAll_32 : decode cX1_settleAll 32 = .ok (.getfield 24, 3) := by decide +kernel
theorem dX1_settleAll_35 : decode cX1_settleAll 35 = .ok (.iload_n 1, 1) := by decide +kernel
theorem dX1_settleAll_36 : decode cX1_settleAll 36 = .ok (.lconst 0, 1) := by decide +kernel
theorem dX1_settleAll_37 : decode cX1_settleAll 37 = .ok (.lastore, 1) := by decide +kernel
theorem dX1_settleAll_38 : decode cX1_settleAll 38 = .ok (.iload_n 1, 1) := by decide +kernel
theorem dX1_settleAll_39 : decode cX1_settleAll 39 = .ok (.istore_n 2, 1) := by decide +kernel
theorem dX1_settleAll_40 : decode cX1_settleAll 40 = .ok (.iload_n 2, 1) := by decide +kernel
theorem dX1_settleAll_41 : decode cX1_settleAll 41 = .ok (.ifCond .le 27, 3) := by decide +kernel
theorem dX1_settleAll_44 : decode cX1_settleAll 44 = .ok (.aload_n 0, 1) := by decide +kernel
theorem dX1_settleAll_45 : decode cX1_settleAll 45 = .ok (.getfield 24, 3) := by decide +kernel
theorem dX1_settleAll_48 : decode cX1_settleAll 48 = .ok (.iload_n 2, 1) := by decide +kernel
theorem dX1_settleAll_49 : decode cX1_settleAll 49 = .ok (.laload, 1) := by decide +kernel
theorem dX1_settleAll_50 : decode cX1_settleAll 50 = .ok (.ldc2_w 33, 3) := by decide +kernel
theorem dX1_settleAll_53 : decode cX1_settleAll 53 = .ok (.lcmp, 1) := by decide +kernel
theorem dX1_settleAll_54 : decode cX1_settleAll 54 = .ok (.ifCond .eq 8, 3) := by decide +kernel
theorem dX1_settleAll_57 : decode cX1_settleAll 57 = .ok (.aload_n 0, 1) := by decide +kernel
theorem dX1_settleAll_58 : decode cX1_settleAll 58 = .ok (.iload_n 2, 1) := by decide +kernel
theorem dX1_settleAll_59 : decode cX1_settleAll 59 = .ok (.invokevirtual 74, 3) := by decide +kernel
theorem dX1_settleAll_62 : decode cX1_settleAll 62 = .ok (.iinc 2 (-1), 3) := by decide +kernel
theorem dX1_settleAll_65 : decode cX1_settleAll 65 = .ok (.goto (-25), 3) := by decide +kernel
theorem dX1_settleAll_68 : decode cX1_settleAll 68 = .ok (.return_, 1) := by decide +kernel
theorem dX1_settleFirst_0 : decode cX1_settleFirst 0 = .ok (.iload_n 1, 1) := by decide +kernel
theorem dX1_settleFirst_1 : decode cX1_settleFirst 1 = .ok (.iload_n 1, 1) := by decide +kernel
theorem dX1_settleFirst_2 : decode cX1_settleFirst 2 = .ok (.iconst 1, 1) := by decide +kernel
theorem dX1_settleFirst_3 : decode cX1_settleFirst 3 = .ok (.isub, 1) := by decide +kernel
theorem dX1_settleFirst_4 : decode cX1_settleFirst 4 = .ok (.iand, 1) := by decide +kernel
theorem dX1_settleFirst_5 : decode cX1_settleFirst 5 = .ok (.istore_n 2, 1) := by decide +kernel
theorem dX1_settleFirst_6 : decode cX1_settleFirst 6 = .ok (.iload_n 1, 1) := by decide +kernel
theorem dX1_settleFirst_7 : decode cX1_settleFirst 7 = .ok (.iload_n 2, 1) := by decide +kernel
theorem dX1_settleFirst_8 : decode cX1_settleFirst 8 = .ok (.ixor, 1) := by decide +kernel
theorem dX1_settleFirst_9 : decode cX1_settleFirst 9 = .ok (.istore_n 3, 1) := by decide +kernel
theorem dX1_settleFirst_10 : decode cX1_settleFirst 10 = .ok (.iload_n 3, 1) := by decide +kernel
theorem dX1_settleFirst_11 : decode cX1_settleFirst 11 = .ok (.iconst 1, 1) := by decide +kernel
theorem dX1_settleFirst_12 : decode cX1_settleFirst 12 = .ok (.isub, 1) := by decide +kernel
theorem dX1_settleFirst_13 : decode cX1_settleFirst 13 = .ok (.invokestatic 55, 3) := by decide +kernel
theorem dX1_settleFirst_16 : decode cX1_settleFirst 16 = .ok (.istore 4, 2) := by decide +kernel
theorem dX1_settleFirst_18 : decode cX1_settleFirst 18 = .ok (.aload_n 0, 1) := by decide +kernel
theorem dX1_settleFirst_19 : decode cX1_settleFirst 19 = .ok (.getfield 24, 3) := by decide +kernel
theorem dX1_settleFirst_22 : decode cX1_settleFirst 22 = .ok (.iload_n 2, 1) := by decide +kernel
theorem dX1_settleFirst_23 : decode cX1_settleFirst 23 = .ok (.aload_n 0, 1) := by decide +kernel
theorem dX1_settleFirst_24 : decode cX1_settleFirst 24 = .ok (.getfield 24, 3) := by decide +kernel
theorem dX1_settleFirst_27 : decode cX1_settleFirst 27 = .ok (.iload_n 2, 1) := by decide +kernel
theorem dX1_settleFirst_28 : decode cX1_settleFirst 28 = .ok (.laload, 1) := by decide +kernel
theorem dX1_settleFirst_29 : decode cX1_settleFirst 29 = .ok (.aload_n 0, 1) := by decide +kernel
theorem dX1_settleFirst_30 : decode cX1_settleFirst 30 = .ok (.getfield 24, 3) := by decide +kernel
theorem dX1_settleFirst_33 : decode cX1_settleFirst 33 = .ok (.iload_n 1, 1) := by decide +kernel
theorem dX1_settleFirst_34 : decode cX1_settleFirst 34 = .ok (.laload, 1) := by decide +kernel
theorem dX1_settleFirst_35 : decode cX1_settleFirst 35 = .ok (.ldc2_w 77, 3) := by decide +kernel
theorem dX1_settleFirst_38 : decode cX1_settleFirst 38 = .ok (.aload_n 0, 1) := by decide +kernel
theorem dX1_settleFirst_39 : decode cX1_settleFirst 39 = .ok (.getfield 9, 3) := by decide +kernel
theorem dX1_settleFirst_42 : decode cX1_settleFirst 42 = .ok (.iload 4, 2) := by decide +kernel
theorem dX1_settleFirst_44 : decode cX1_settleFirst 44 = .ok (.laload, 1) := by decide +kernel
theorem dX1_settleFirst_45 : decode cX1_settleFirst 45 = .ok (.lmul, 1) := by decide +kernel
theorem dX1_settleFirst_46 : decode cX1_settleFirst 46 = .ok (.lsub, 1) := by decide +kernel
theorem dX1_settleFirst_47 : decode cX1_settleFirst 47 = .ok (.invokestatic 68, 3) := by decide +kernel
theorem dX1_settleFirst_50 : decode cX1_settleFirst 50 = .ok (.lastore, 1) := by decide +kernel
theorem dX1_settleFirst_51 : decode cX1_settleFirst 51 = .ok (.iload_n 2, 1) := by decide +kernel
theorem dX1_settleFirst_52 : decode cX1_settleFirst 52 = .ok (.istore 5, 2) := by decide +kernel
theorem dX1_settleFirst_54 : decode cX1_settleFirst 54 = .ok (.iload 5, 2) := by decide +kernel
theorem dX1_settleFirst_56 : decode cX1_settleFirst 56 = .ok (.ifCond .le 69, 3) := by decide +kernel
theorem dX1_settleFirst_59 : decode cX1_settleFirst 59 = .ok (.aload_n 0, 1) := by decide +kernel
theorem dX1_settleFirst_60 : decode cX1_settleFirst 60 = .ok (.getfield 21, 3) := by decide +kernel
theorem dX1_settleFirst_63 : decode cX1_settleFirst 63 = .ok (.iload 5, 2) := by decide +kernel
theorem dX1_settleFirst_65 : decode cX1_settleFirst 65 = .ok (.iload_n 3, 1) := by decide +kernel
theorem dX1_settleFirst_66 : decode cX1_settleFirst 66 = .ok (.ior, 1) := by decide +kernel
theorem dX1_settleFirst_67 : decode cX1_settleFirst 67 = .ok (.laload, 1) := by decide +kernel
theorem dX1_settleFirst_68 : decode cX1_settleFirst 68 = .ok (.ldc2_w 33, 3) := by decide +kernel
theorem dX1_settleFirst_71 : decode cX1_settleFirst 71 = .ok (.lcmp, 1) := by decide +kernel
theorem dX1_settleFirst_72 : decode cX1_settleFirst 72 = .ok (.ifCond .eq 42, 3) := by decide +kernel
theorem dX1_settleFirst_75 : decode cX1_settleFirst 75 = .ok (.iload_n 2, 1) := by decide +kernel
theorem dX1_settleFirst_76 : decode cX1_settleFirst 76 = .ok (.iload 5, 2) := by decide +kernel
theorem dX1_settleFirst_78 : decode cX1_settleFirst 78 = .ok (.ixor, 1) := by decide +kernel
theorem dX1_settleFirst_79 : decode cX1_settleFirst 79 = .ok (.istore 6, 2) := by decide +kernel
theorem dX1_settleFirst_81 : decode cX1_settleFirst 81 = .ok (.aload_n 0, 1) := by decide +kernel
theorem dX1_settleFirst_82 : decode cX1_settleFirst 82 = .ok (.getfield 24, 3) := by decide +kernel
theorem dX1_settleFirst_85 : decode cX1_settleFirst 85 = .ok (.iload 6, 2) := by decide +kernel
theorem dX1_settleFirst_87 : decode cX1_settleFirst 87 = .ok (.aload_n 0, 1) := by decide +kernel
theorem dX1_settleFirst_88 : decode cX1_settleFirst 88 = .ok (.getfield 24, 3) := by decide +kernel
theorem dX1_settleFirst_91 : decode cX1_settleFirst 91 = .ok (.iload 6, 2) := by decide +kernel
theorem dX1_settleFirst_93 : decode cX1_settleFirst 93 = .ok (.laload, 1) := by decide +kernel
theorem dX1_settleFirst_94 : decode cX1_settleFirst 94 = .ok (.aload_n 0, 1) := by decide +kernel
theorem dX1_settleFirst_95 : decode cX1_settleFirst 95 = .ok (.getfield 24, 3) := by decide +kernel
theorem dX1_settleFirst_98 : decode cX1_settleFirst 98 = .ok (.iload_n 1, 1) := by decide +kernel
theorem dX1_settleFirst_99 : decode cX1_settleFirst 99 = .ok (.laload, 1) := by decide +kernel
theorem dX1_settleFirst_100 : decode cX1_settleFirst 100 = .ok (.aload_n 0, 1) := by decide +kernel
theorem dX1_settleFirst_101 : decode cX1_settleFirst 101 = .ok (.getfield 21, 3) := by decide +kernel
theorem dX1_settleFirst_104 : decode cX1_settleFirst 104 = .ok (.iload 5, 2) := by decide +kernel
theorem dX1_settleFirst_106 : decode cX1_settleFirst 106 = .ok (.iload_n 3, 1) := by decide +kernel
theorem dX1_settleFirst_107 : decode cX1_settleFirst 107 = .ok (.ior, 1) := by decide +kernel
theorem dX1_settleFirst_108 : decode cX1_settleFirst 108 = .ok (.laload, 1) := by decide +kernel
theorem dX1_settleFirst_109 : decode cX1_settleFirst 109 = .ok (.ladd, 1) := by decide +kernel
theorem dX1_settleFirst_110 : decode cX1_settleFirst 110 = .ok (.invokestatic 68, 3) := by decide +kernel
theorem dX1_settleFirst_113 : decode cX1_settleFirst 113 = .ok (.lastore, 1) := by decide +kernel
theorem dX1_settleFirst_114 : decode cX1_settleFirst 114 = .ok (.iload 5, 2) := by decide +kernel
theorem dX1_settleFirst_116 : decode cX1_settleFirst 116 = .ok (.iconst 1, 1) := by decide +kernel
theorem dX1_settleFirst_117 : decode cX1_settleFirst 117 = .ok (.isub, 1) := by decide +kernel
theorem dX1_settleFirst_118 : decode cX1_settleFirst 118 = .ok (.iload_n 2, 1) := by decide +kernel
theorem dX1_settleFirst_119 : decode cX1_settleFirst 119 = .ok (.iand, 1) := by decide +kernel
theorem dX1_settleFirst_120 : decode cX1_settleFirst 120 = .ok (.istore 5, 2) := by decide +kernel
theorem dX1_settleFirst_122 : decode cX1_settleFirst 122 = .ok (.goto (-68), 3) := by decide +kernel
theorem dX1_settleFirst_125 : decode cX1_settleFirst 125 = .ok (.return_, 1) := by decide +kernel
theorem dX1_readPlan_0 : decode cX1_readPlan 0 = .ok (.lload_n 1, 1) := by decide +kernel
theorem dX1_readPlan_1 : decode cX1_readPlan 1 = .ok (.lneg, 1) := by decide +kernel
theorem dX1_readPlan_2 : decode cX1_readPlan 2 = .ok (.ldc2_w 35, 3) := by decide +kernel
theorem dX1_readPlan_5 : decode cX1_readPlan 5 = .ok (.invokestatic 79, 3) := by decide +kernel
theorem dX1_readPlan_8 : decode cX1_readPlan 8 = .ok (.lstore 4, 2) := by decide +kernel
theorem dX1_readPlan_10 : decode cX1_readPlan 10 = .ok (.iconst 0, 1) := by decide +kernel
theorem dX1_readPlan_11 : decode cX1_readPlan 11 = .ok (.istore 6, 2) := by decide +kernel
theorem dX1_readPlan_13 : decode cX1_readPlan 13 = .ok (.bipush 9, 2) := by decide +kernel
theorem dX1_readPlan_15 : decode cX1_readPlan 15 = .ok (.istore 7, 2) := by decide +kernel
theorem dX1_readPlan_17 : decode cX1_readPlan 17 = .ok (.iload 7, 2) := by decide +kernel
theorem dX1_readPlan_19 : decode cX1_readPlan 19 = .ok (.ifCond .lt 74, 3) := by decide +kernel
theorem dX1_readPlan_22 : decode cX1_readPlan 22 = .ok (.lload 4, 2) := by decide +kernel
theorem dX1_readPlan_24 : decode cX1_readPlan 24 = .ok (.ldc2_w 31, 3) := by decide +kernel
theorem dX1_readPlan_27 : decode cX1_readPlan 27 = .ok (.lrem, 1) := by decide +kernel
theorem dX1_readPlan_28 : decode cX1_readPlan 28 = .ok (.l2i, 1) := by decide +kernel
theorem dX1_readPlan_29 : decode cX1_readPlan 29 = .ok (.istore 8, 2) := by decide +kernel
theorem dX1_readPlan_31 : decode cX1_readPlan 31 = .ok (.lload 4, 2) := by decide +kernel
theorem dX1_readPlan_33 : decode cX1_readPlan 33 = .ok (.ldc2_w 31, 3) := by decide +kernel
theorem dX1_readPlan_36 : decode cX1_readPlan 36 = .ok (.ldiv, 1) := by decide +kernel
theorem dX1_readPlan_37 : decode cX1_readPlan 37 = .ok (.lstore 4, 2) := by decide +kernel
theorem dX1_readPlan_39 : decode cX1_readPlan 39 = .ok (.iload 7, 2) := by decide +kernel
theorem dX1_readPlan_41 : decode cX1_readPlan 41 = .ok (.aload_n 0, 1) := by decide +kernel
theorem dX1_readPlan_42 : decode cX1_readPlan 42 = .ok (.getfield 27, 3) := by decide +kernel
theorem dX1_readPlan_45 : decode cX1_readPlan 45 = .ok (.if_icmp .ge 15, 3) := by decide +kernel
theorem dX1_readPlan_48 : decode cX1_readPlan 48 = .ok (.iload 8, 2) := by decide +kernel
theorem dX1_readPlan_50 : decode cX1_readPlan 50 = .ok (.bipush 10, 2) := by decide +kernel
theorem dX1_readPlan_52 : decode cX1_readPlan 52 = .ok (.if_icmp .eq 8, 3) := by decide +kernel
theorem dX1_readPlan_55 : decode cX1_readPlan 55 = .ok (.iload 8, 2) := by decide +kernel
theorem dX1_readPlan_57 : decode cX1_readPlan 57 = .ok (.goto 4, 3) := by decide +kernel
theorem dX1_readPlan_60 : decode cX1_readPlan 60 = .ok (.iconst (-1), 1) := by decide +kernel
theorem dX1_readPlan_61 : decode cX1_readPlan 61 = .ok (.istore 9, 2) := by decide +kernel
theorem dX1_readPlan_63 : decode cX1_readPlan 63 = .ok (.iload 9, 2) := by decide +kernel
theorem dX1_readPlan_65 : decode cX1_readPlan 65 = .ok (.iconst (-1), 1) := by decide +kernel
theorem dX1_readPlan_66 : decode cX1_readPlan 66 = .ok (.if_icmp .eq 15, 3) := by decide +kernel
theorem dX1_readPlan_69 : decode cX1_readPlan 69 = .ok (.iload 9, 2) := by decide +kernel
theorem dX1_readPlan_71 : decode cX1_readPlan 71 = .ok (.aload_n 3, 1) := by decide +kernel
theorem dX1_readPlan_72 : decode cX1_readPlan 72 = .ok (.iload 7, 2) := by decide +kernel
theorem dX1_readPlan_74 : decode cX1_readPlan 74 = .ok (.iaload, 1) := by decide +kernel
theorem dX1_readPlan_75 : decode cX1_readPlan 75 = .ok (.if_icmp .ne 6, 3) := by decide +kernel
theorem dX1_readPlan_78 : decode cX1_readPlan 78 = .ok (.iinc 6 1, 3) := by decide +kernel
theorem dX1_readPlan_81 : decode cX1_readPlan 81 = .ok (.aload_n 3, 1) := by decide +kernel
theorem dX1_readPlan_82 : decode cX1_readPlan 82 = .ok (.iload 7, 2) := by decide +kernel
theorem dX1_readPlan_84 : decode cX1_readPlan 84 = .ok (.iload 9, 2) := by decide +kernel
theorem dX1_readPlan_86 : decode cX1_readPlan 86 = .ok (.iastore, 1) := by decide +kernel
theorem dX1_readPlan_87 : decode cX1_readPlan 87 = .ok (.iinc 7 (-1), 3) := by decide +kernel
theorem dX1_readPlan_90 : decode cX1_readPlan 90 = .ok (.goto (-73), 3) := by decide +kernel
theorem dX1_readPlan_93 : decode cX1_readPlan 93 = .ok (.iload 6, 2) := by decide +kernel
theorem dX1_readPlan_95 : decode cX1_readPlan 95 = .ok (.ireturn, 1) := by decide +kernel
theorem dX2_init_0 : decode cX2_init 0 = .ok (.aload_n 0, 1) := by decide +kernel
theorem dX2_init_1 : decode cX2_init 1 = .ok (.invokespecial 3, 3) := by decide +kernel
theorem dX2_init_4 : decode cX2_init 4 = .ok (.aload_n 0, 1) := by decide +kernel
theorem dX2_init_5 : decode cX2_init 5 = .ok (.bipush 10, 2) := by decide +kernel
theorem dX2_init_7 : decode cX2_init 7 = .ok (.newarray .int, 2) := by decide +kernel
theorem dX2_init_9 : decode cX2_init 9 = .ok (.putfield 9, 3) := by decide +kernel
theorem dX2_init_12 : decode cX2_init 12 = .ok (.aload_n 0, 1) := by decide +kernel
theorem dX2_init_13 : decode cX2_init 13 = .ok (.bipush 11, 2) := by decide +kernel
theorem dX2_init_15 : decode cX2_init 15 = .ok (.newarray .int, 2) := by decide +kernel
theorem dX2_init_17 : decode cX2_init 17 = .ok (.putfield 15, 3) := by decide +kernel
theorem dX2_init_20 : decode cX2_init 20 = .ok (.aload_n 0, 1) := by decide +kernel
theorem dX2_init_21 : decode cX2_init 21 = .ok (.sipush 1024, 3) := by decide +kernel
theorem dX2_init_24 : decode cX2_init 24 = .ok (.newarray .int, 2) := by decide +kernel
theorem dX2_init_26 : decode cX2_init 26 = .ok (.putfield 18, 3) := by decide +kernel
theorem dX2_init_29 : decode cX2_init 29 = .ok (.aload_n 0, 1) := by decide +kernel
theorem dX2_init_30 : decode cX2_init 30 = .ok (.iconst 0, 1) := by decide +kernel
theorem dX2_init_31 : decode cX2_init 31 = .ok (.putfield 21, 3) := by decide +kernel
theorem dX2_init_34 : decode cX2_init 34 = .ok (.return_, 1) := by decide +kernel
theorem dX2_clear_0 : decode cX2_clear 0 = .ok (.aload_n 0, 1) := by decide +kernel
theorem dX2_clear_1 : decode cX2_clear 1 = .ok (.iload_n 1, 1) := by decide +kernel
theorem dX2_clear_2 : decode cX2_clear 2 = .ok (.putfield 21, 3) := by decide +kernel
theorem dX2_clear_5 : decode cX2_clear 5 = .ok (.iconst 0, 1) := by decide +kernel
theorem dX2_clear_6 : decode cX2_clear 6 = .ok (.istore_n 2, 1) := by decide +kernel
theorem dX2_clear_7 : decode cX2_clear 7 = .ok (.iload_n 2, 1) := by decide +kernel
theorem dX2_clear_8 : decode cX2_clear 8 = .ok (.bipush 10, 2) := by decide +kernel
theorem dX2_clear_10 : decode cX2_clear 10 = .ok (.if_icmp .ge 16, 3) := by decide +kernel
theorem dX2_clear_13 : decode cX2_clear 13 = .ok (.aload_n 0, 1) := by decide +kernel
theorem dX2_clear_14 : decode cX2_clear 14 = .ok (.getfield 9, 3) := by decide +kernel
theorem dX2_clear_17 : decode cX2_clear 17 = .ok (.iload_n 2, 1) := by decide +kernel
theorem dX2_clear_18 : decode cX2_clear 18 = .ok (.iconst 0, 1) := by decide +kernel
theorem dX2_clear_19 : decode cX2_clear 19 = .ok (.iastore, 1) := by decide +kernel
theorem dX2_clear_20 : decode cX2_clear 20 = .ok (.iinc 2 1, 3) := by decide +kernel
theorem dX2_clear_23 : decode cX2_clear 23 = .ok (.goto (-16), 3) := by decide +kernel
theorem dX2_clear_26 : decode cX2_clear 26 = .ok (.return_, 1) := by decide +kernel
theorem dX2_add_0 : decode cX2_add 0 = .ok (.aload_n 0, 1) := by decide +kernel
theorem dX2_add_1 : decode cX2_add 1 = .ok (.getfield 9, 3) := by decide +kernel
theorem dX2_add_4 : decode cX2_add 4 = .ok (.iload_n 1, 1) := by decide +kernel
theorem dX2_add_5 : decode cX2_add 5 = .ok (.dup2, 1) := by decide +kernel
theorem dX2_add_6 : decode cX2_add 6 = .ok (.iaload, 1) := by decide +kernel
theorem dX2_add_7 : decode cX2_add 7 = .ok (.iconst 1, 1) := by decide +kernel
theorem dX2_add_8 : decode cX2_add 8 = .ok (.iload_n 2, 1) := by decide +kernel
theorem dX2_add_9 : decode cX2_add 9 = .ok (.ishl, 1) := by decide +kernel
theorem dX2_add_10 : decode cX2_add 10 = .ok (.ior, 1) := by decide +kernel
theorem dX2_add_11 : decode cX2_add 11 = .ok (.iastore, 1) := by decide +kernel
theorem dX2_add_12 : decode cX2_add 12 = .ok (.return_, 1) := by decide +kernel
theorem dX2_tellShortestRing_0 : decode cX2_tellShortestRing 0 = .ok (.bipush 11, 2) := by decide +kernel
theorem dX2_tellShortestRing_2 : decode cX2_tellShortestRing 2 = .ok (.istore_n 2, 1) := by decide +kernel
theorem dX2_tellShortestRing_3 : decode cX2_tellShortestRing 3 = .ok (.iconst 0, 1) := by decide +kernel
theorem dX2_tellShortestRing_4 : decode cX2_tellShortestRing 4 = .ok (.istore_n 3, 1) := by decide +kernel
theorem dX2_tellShortestRing_5 : decode cX2_tellShortestRing 5 = .ok (.iconst 0, 1) := by decide +kernel
theorem dX2_tellShortestRing_6 : decode cX2_tellShortestRing 6 = .ok (.istore 4, 2) := by decide +kernel
theorem dX2_tellShortestRing_8 : decode cX2_tellShortestRing 8 = .ok (.iload 4, 2) := by decide +kernel
theorem dX2_tellShortestRing_10 : decode cX2_tellShortestRing 10 = .ok (.aload_n 0, 1) := by decide +kernel
theorem dX2_tellShortestRing_11 : decode cX2_tellShortestRing 11 = .ok (.getfield 21, 3) := by decide +kernel
theorem dX2_tellShortestRing_14 : decode cX2_tellShortestRing 14 = .ok (.if_icmp .ge 34, 3) := by decide +kernel
theorem dX2_tellShortestRing_17 : decode cX2_tellShortestRing 17 = .ok (.aload_n 0, 1) := by decide +kernel
theorem dX2_tellShortestRing_18 : decode cX2_tellShortestRing 18 = .ok (.iload 4, 2) := by decide +kernel
theorem dX2_tellShortestRing_20 : decode cX2_tellShortestRing 20 = .ok (.invokevirtual 25, 3) := by decide +kernel
theorem dX2_tellShortestRing_23 : decode cX2_tellShortestRing 23 = .ok (.istore 5, 2) := by decide +kernel
theorem dX2_tellShortestRing_25 : decode cX2_tellShortestRing 25 = .ok (.iload 5, 2) := by decide +kernel
theorem dX2_tellShortestRing_27 : decode cX2_tellShortestRing 27 = .ok (.ifCond .le 15, 3) := by decide +kernel
theorem dX2_tellShortestRing_30 : decode cX2_tellShortestRing 30 = .ok (.iload 5, 2) := by decide +kernel
theorem dX2_tellShortestRing_32 : decode cX2_tellShortestRing 32 = .ok (.iload_n 2, 1) := by decide +kernel
theorem dX2_tellShortestRing_33 : decode cX2_tellShortestRing 33 = .ok (.if_icmp .ge 9, 3) := by decide +kernel
theorem dX2_tellShortestRing_36 : decode cX2_tellShortestRing 36 = .ok (.iload 5, 2) := by decide +kernel
theorem dX2_tellShortestRing_38 : decode cX2_tellShortestRing 38 = .ok (.istore_n 2, 1) := by decide +kernel
theorem dX2_tellShortestRing_39 : decode cX2_tellShortestRing 39 = .ok (.iload 4, 2) := by decide +kernel
theorem dX2_tellShortestRing_41 : decode cX2_tellShortestRing 41 = .ok (.istore_n 3, 1) := by decide +kernel
theorem dX2_tellShortestRing_42 : decode cX2_tellShortestRing 42 = .ok (.iinc 4 1, 3) := by decide +kernel
theorem dX2_tellShortestRing_45 : decode cX2_tellShortestRing 45 = .ok (.goto (-37), 3) := by decide +kernel
theorem dX2_tellShortestRing_48 : decode cX2_tellShortestRing 48 = .ok (.iload_n 2, 1) := by decide +kernel
theorem dX2_tellShortestRing_49 : decode cX2_tellShortestRing 49 = .ok (.bipush 10, 2) := by decide +kernel
theorem dX2_tellShortestRing_51 : decode cX2_tellShortestRing 51 = .ok (.if_icmp .le 5, 3) := by decide +kernel
theorem dX2_tellShortestRing_54 : decode cX2_tellShortestRing 54 = .ok (.iconst 0, 1) := by decide +kernel
theorem dX2_tellShortestRing_55 : decode cX2_tellShortestRing 55 = .ok (.ireturn, 1) := by decide +kernel
theorem dX2_tellShortestRing_56 : decode cX2_tellShortestRing 56 = .ok (.aload_n 0, 1) := by decide +kernel
theorem dX2_tellShortestRing_57 : decode cX2_tellShortestRing 57 = .ok (.iload_n 3, 1) := by decide +kernel
theorem dX2_tellShortestRing_58 : decode cX2_tellShortestRing 58 = .ok (.invokevirtual 25, 3) := by decide +kernel
theorem dX2_tellShortestRing_61 : decode cX2_tellShortestRing 61 = .ok (.pop, 1) := by decide +kernel
theorem dX2_tellShortestRing_62 : decode cX2_tellShortestRing 62 = .ok (.iload_n 3, 1) := by decide +kernel
theorem dX2_tellShortestRing_63 : decode cX2_tellShortestRing 63 = .ok (.istore 4, 2) := by decide +kernel
theorem dX2_tellShortestRing_65 : decode cX2_tellShortestRing 65 = .ok (.iconst 0, 1) := by decide +kernel
theorem dX2_tellShortestRing_66 : decode cX2_tellShortestRing 66 = .ok (.istore 5, 2) := by decide +kernel
theorem dX2_tellShortestRing_68 : decode cX2_tellShortestRing 68 = .ok (.iload 5, 2) := by decide +kernel
theorem dX2_tellShortestRing_70 : decode cX2_tellShortestRing 70 = .ok (.iload_n 2, 1) := by decide +kernel
theorem dX2_tellShortestRing_71 : decode cX2_tellShortestRing 71 = .ok (.if_icmp .ge 39, 3) := by decide +kernel
theorem dX2_tellShortestRing_74 : decode cX2_tellShortestRing 74 = .ok (.aload_n 1, 1) := by decide +kernel
theorem dX2_tellShortestRing_75 : decode cX2_tellShortestRing 75 = .ok (.iload 5, 2) := by decide +kernel
theorem dX2_tellShortestRing_77 : decode cX2_tellShortestRing 77 = .ok (.iload 4, 2) := by decide +kernel
theorem dX2_tellShortestRing_79 : decode cX2_tellShortestRing 79 = .ok (.iastore, 1) := by decide +kernel
theorem dX2_tellShortestRing_80 : decode cX2_tellShortestRing 80 = .ok (.aload_n 0, 1) := by decide +kernel
theorem dX2_tellShortestRing_81 : decode cX2_tellShortestRing 81 = .ok (.getfield 9, 3) := by decide +kernel
theorem dX2_tellShortestRing_84 : decode cX2_tellShortestRing 84 = .ok (.iload 4, 2) := by decide +kernel
theorem dX2_tellShortestRing_86 : decode cX2_tellShortestRing 86 = .ok (.iaload, 1) := by decide +kernel
theorem dX2_tellShortestRing_87 : decode cX2_tellShortestRing 87 = .ok (.aload_n 0, 1) := by decide +kernel
theorem dX2_tellShortestRing_88 : decode cX2_tellShortestRing 88 = .ok (.getfield 15, 3) := by decide +kernel
theorem dX2_tellShortestRing_91 : decode cX2_tellShortestRing 91 = .ok (.iload_n 2, 1) := by decide +kernel
theorem dX2_tellShortestRing_92 : decode cX2_tellShortestRing 92 = .ok (.iconst 1, 1) := by decide +kernel
theorem dX2_tellShortestRing_93 : decode cX2_tellShortestRing 93 = .ok (.isub, 1) := by decide +kernel
theorem dX2_tellShortestRing_94 : decode cX2_tellShortestRing 94 = .ok (.iload 5, 2) := by decide +kernel
theorem dX2_tellShortestRing_96 : decode cX2_tellShortestRing 96 = .ok (.isub, 1) := by decide +kernel
theorem dX2_tellShortestRing_97 : decode cX2_tellShortestRing 97 = .ok (.iaload, 1) := by decide +kernel
theorem dX2_tellShortestRing_98 : decode cX2_tellShortestRing 98 = .ok (.iand, 1) := by decide +kernel
theorem dX2_tellShortestRing_99 : decode cX2_tellShortestRing 99 = .ok (.invokestatic 29, 3) := by decide +kernel
theorem dX2_tellShortestRing_102 : decode cX2_tellShortestRing 102 = .ok (.istore 4, 2) := by decide +kernel
theorem dX2_tellShortestRing_104 : decode cX2_tellShortestRing 104 = .ok (.iinc 5 1, 3) := by decide +kernel
theorem dX2_tellShortestRing_107 : decode cX2_tellShortestRing 107 = .ok (.goto (-39), 3) := by decide +kernel
theorem dX2_tellShortestRing_110 : decode cX2_tellShortestRing 110 = .ok (.iload_n 2, 1) := by decide +kernel
theorem dX2_tellShortestRing_111 : decode cX2_tellShortestRing 111 = .ok (.ireturn, 1) := by decide +kernel
theorem dX2_lengthFrom_0 : decode cX2_lengthFrom 0 = .ok (.aload_n 0, 1) := by decide +kernel
theorem dX2_lengthFrom_1 : decode cX2_lengthFrom 1 = .ok (.getfield 15, 3) := by decide +kernel
theorem dX2_lengthFrom_4 : decode cX2_lengthFrom 4 = .ok (.iconst 0, 1) := by decide +kernel
theorem dX2_lengthFrom_5 : decode cX2_lengthFrom 5 = .ok (.iconst 1, 1) := by decide +kernel
theorem dX2_lengthFrom_6 : decode cX2_lengthFrom 6 = .ok (.iload_n 1, 1) := by decide +kernel
theorem dX2_lengthFrom_7 : decode cX2_lengthFrom 7 = .ok (.ishl, 1) := by decide +kernel
theorem dX2_lengthFrom_8 : decode cX2_lengthFrom 8 = .ok (.iastore, 1) := by decide +kernel
theorem dX2_lengthFrom_9 : decode cX2_lengthFrom 9 = .ok (.iconst 1, 1) := by decide +kernel
theorem dX2_lengthFrom_10 : decode cX2_lengthFrom 10 = .ok (.istore_n 2, 1) := by decide +kernel
theorem dX2_lengthFrom_11 : decode cX2_lengthFrom 11 = .ok (.iload_n 2, 1) := by decide +kernel
theorem dX2_lengthFrom_12 : decode cX2_lengthFrom 12 = .ok (.aload_n 0, 1) := by decide +kernel
theorem dX2_lengthFrom_13 : decode cX2_lengthFrom 13 = .ok (.getfield 21, 3) := by decide +kernel
theorem dX2_lengthFrom_16 : decode cX2_lengthFrom 16 = .ok (.if_icmp .gt 84, 3) := by decide +kernel
theorem dX2_lengthFrom_19 : decode cX2_lengthFrom 19 = .ok (.aload_n 0, 1) := by decide +kernel
theorem dX2_lengthFrom_20 : decode cX2_lengthFrom 20 = .ok (.getfield 9, 3) := by decide +kernel
theorem dX2_lengthFrom_23 : decode cX2_lengthFrom 23 = .ok (.iload_n 1, 1) := by decide +kernel
theorem dX2_lengthFrom_24 : decode cX2_lengthFrom 24 = .ok (.iaload, 1) := by decide +kernel
theorem dX2_lengthFrom_25 : decode cX2_lengthFrom 25 = .ok (.aload_n 0, 1) := by decide +kernel
theorem dX2_lengthFrom_26 : decode cX2_lengthFrom 26 = .ok (.getfield 15, 3) := by decide +kernel
theorem dX2_lengthFrom_29 : decode cX2_lengthFrom 29 = .ok (.iload_n 2, 1) := by decide +kernel
theorem dX2_lengthFrom_30 : decode cX2_lengthFrom 30 = .ok (.iconst 1, 1) := by decide +kernel
theorem dX2_lengthFrom_31 : decode cX2_lengthFrom 31 = .ok (.isub, 1) := by decide +kernel
theorem dX2_lengthFrom_32 : decode cX2_lengthFrom 32 = .ok (.iaload, 1) := by decide +kernel
theorem dX2_lengthFrom_33 : decode cX2_lengthFrom 33 = .ok (.iand, 1) := by decide +kernel
theorem dX2_lengthFrom_34 : decode cX2_lengthFrom 34 = .ok (.ifCond .eq 5, 3) := by decide +kernel
theorem dX2_lengthFrom_37 : decode cX2_lengthFrom 37 = .ok (.iload_n 2, 1) := by decide +kernel
theorem dX2_lengthFrom_38 : decode cX2_lengthFrom 38 = .ok (.ireturn, 1) := by decide +kernel
theorem dX2_lengthFrom_39 : decode cX2_lengthFrom 39 = .ok (.aload_n 0, 1) := by decide +kernel
theorem dX2_lengthFrom_40 : decode cX2_lengthFrom 40 = .ok (.getfield 15, 3) := by decide +kernel
theorem dX2_lengthFrom_43 : decode cX2_lengthFrom 43 = .ok (.iload_n 2, 1) := by decide +kernel
theorem dX2_lengthFrom_44 : decode cX2_lengthFrom 44 = .ok (.iconst 0, 1) := by decide +kernel
theorem dX2_lengthFrom_45 : decode cX2_lengthFrom 45 = .ok (.iastore, 1) := by decide +kernel
theorem dX2_lengthFrom_46 : decode cX2_lengthFrom 46 = .ok (.iload_n 1, 1) := by decide +kernel
theorem dX2_lengthFrom_47 : decode cX2_lengthFrom 47 = .ok (.iconst 1, 1) := by decide +kernel
theorem dX2_lengthFrom_48 : decode cX2_lengthFrom 48 = .ok (.iadd, 1) := by decide +kernel
theorem dX2_lengthFrom_49 : decode cX2_lengthFrom 49 = .ok (.istore_n 3, 1) := by decide +kernel
theorem dX2_lengthFrom_50 : decode cX2_lengthFrom 50 = .ok (.iload_n 3, 1) := by decide +kernel
theorem dX2_lengthFrom_51 : decode cX2_lengthFrom 51 = .ok (.aload_n 0, 1) := by decide +kernel
theorem dX2_lengthFrom_52 : decode cX2_lengthFrom 52 = .ok (.getfield 21, 3) := by decide +kernel
theorem dX2_lengthFrom_55 : decode cX2_lengthFrom 55 = .ok (.if_icmp .ge 39, 3) := by decide +kernel
theorem dX2_lengthFrom_58 : decode cX2_lengthFrom 58 = .ok (.aload_n 0, 1) := by decide +kernel
theorem dX2_lengthFrom_59 : decode cX2_lengthFrom 59 = .ok (.getfield 9, 3) := by decide +kernel
theorem dX2_lengthFrom_62 : decode cX2_lengthFrom 62 = .ok (.iload_n 3, 1) := by decide +kernel
theorem dX2_lengthFrom_63 : decode cX2_lengthFrom 63 = .ok (.iaload, 1) := by decide +kernel
theorem dX2_lengthFrom_64 : decode cX2_lengthFrom 64 = .ok (.aload_n 0, 1) := by decide +kernel
theorem dX2_lengthFrom_65 : decode cX2_lengthFrom 65 = .ok (.getfield 15, 3) := by decide +kernel
theorem dX2_lengthFrom_68 : decode cX2_lengthFrom 68 = .ok (.iload_n 2, 1) := by decide +kernel
theorem dX2_lengthFrom_69 : decode cX2_lengthFrom 69 = .ok (.iconst 1, 1) := by decide +kernel
theorem dX2_lengthFrom_70 : decode cX2_lengthFrom 70 = .ok (.isub, 1) := by decide +kernel
theorem dX2_lengthFrom_71 : decode cX2_lengthFrom 71 = .ok (.iaload, 1) := by decide +kernel
theorem dX2_lengthFrom_72 : decode cX2_lengthFrom 72 = .ok (.iand, 1) := by decide +kernel
theorem dX2_lengthFrom_73 : decode cX2_lengthFrom 73 = .ok (.ifCond .eq 15, 3) := by decide +kernel
theorem dX2_lengthFrom_76 : decode cX2_lengthFrom 76 = .ok (.aload_n 0, 1) := by decide +kernel
theorem dX2_lengthFrom_77 : decode cX2_lengthFrom 77 = .ok (.getfield 15, 3) := by decide +kernel
theorem dX2_lengthFrom_80 : decode cX2_lengthFrom 80 = .ok (.iload_n 2, 1) := by decide +kernel
theorem dX2_lengthFrom_81 : decode cX2_lengthFrom 81 = .ok (.dup2, 1) := by decide +kernel
theorem dX2_lengthFrom_82 : decode cX2_lengthFrom 82 = .ok (.iaload, 1) := by decide +kernel
theorem dX2_lengthFrom_83 : decode cX2_lengthFrom 83 = .ok (.iconst 1, 1) := by decide +kernel
theorem dX2_lengthFrom_84 : decode cX2_lengthFrom 84 = .ok (.iload_n 3, 1) := by decide +kernel
theorem dX2_lengthFrom_85 : decode cX2_lengthFrom 85 = .ok (.ishl, 1) := by decide +kernel
theorem dX2_lengthFrom_86 : decode cX2_lengthFrom 86 = .ok (.ior, 1) := by decide +kernel
theorem dX2_lengthFrom_87 : decode cX2_lengthFrom 87 = .ok (.iastore, 1) := by decide +kernel
theorem dX2_lengthFrom_88 : decode cX2_lengthFrom 88 = .ok (.iinc 3 1, 3) := by decide +kernel
theorem dX2_lengthFrom_91 : decode cX2_lengthFrom 91 = .ok (.goto (-41), 3) := by decide +kernel
theorem dX2_lengthFrom_94 : decode cX2_lengthFrom 94 = .ok (.iinc 2 1, 3) := by decide +kernel
theorem dX2_lengthFrom_97 : decode cX2_lengthFrom 97 = .ok (.goto (-86), 3) := by decide +kernel
theorem dX2_lengthFrom_100 : decode cX2_lengthFrom 100 = .ok (.iconst 0, 1) := by decide +kernel
theorem dX2_lengthFrom_101 : decode cX2_lengthFrom 101 = .ok (.ireturn, 1) := by decide +kernel
theorem dX2_tellLongestWay_0 : decode cX2_tellLongestWay 0 = .ok (.aload_n 0, 1) := by decide +kernel
theorem dX2_tellLongestWay_1 : decode cX2_tellLongestWay 1 = .ok (.invokevirtual 32, 3) := by decide +kernel
theorem dX2_tellLongestWay_4 : decode cX2_tellLongestWay 4 = .ok (.aload_n 0, 1) := by decide +kernel
theorem dX2_tellLongestWay_5 : decode cX2_tellLongestWay 5 = .ok (.iload_n 1, 1) := by decide +kernel
theorem dX2_tellLongestWay_6 : decode cX2_tellLongestWay 6 = .ok (.invokevirtual 35, 3) := by decide +kernel
theorem dX2_tellLongestWay_9 : decode cX2_tellLongestWay 9 = .ok (.istore_n 3, 1) := by decide +kernel
theorem dX2_tellLongestWay_10 : decode cX2_tellLongestWay 10 = .ok (.iload_n 3, 1) := by decide +kernel
theorem dX2_tellLongestWay_11 : decode cX2_tellLongestWay 11 = .ok (.ifCond .ne 5, 3) := by decide +kernel
theorem dX2_tellLongestWay_14 : decode cX2_tellLongestWay 14 = .ok (.iconst 0, 1) := by decide +kernel
theorem dX2_tellLongestWay_15 : decode cX2_tellLongestWay 15 = .ok (.ireturn, 1) := by decide +kernel
theorem dX2_tellLongestWay_16 : decode cX2_tellLongestWay 16 = .ok (.iconst 1, 1) := by decide +kernel
theorem dX2_tellLongestWay_17 : decode cX2_tellLongestWay 17 = .ok (.iload_n 1, 1) := by decide +kernel
theorem dX2_tellLongestWay_18 : decode cX2_tellLongestWay 18 = .ok (.ishl, 1) := by decide +kernel
theorem dX2_tellLongestWay_19 : decode cX2_tellLongestWay 19 = .ok (.istore 4, 2) := by decide +kernel
theorem dX2_tellLongestWay_21 : decode cX2_tellLongestWay 21 = .ok (.iload_n 1, 1) := by decide +kernel
theorem dX2_tellLongestWay_22 : decode cX2_tellLongestWay 22 = .ok (.istore 5, 2) := by decide +kernel
theorem dX2_tellLongestWay_24 : decode cX2_tellLongestWay 24 = .ok (.aload_n 2, 1) := by decide +kernel
theorem dX2_tellLongestWay_25 : decode cX2_tellLongestWay 25 = .ok (.iconst 0, 1) := by decide +kernel
theorem dX2_tellLongestWay_26 : decode cX2_tellLongestWay 26 = .ok (.iload_n 1, 1) := by decide +kernel
theorem dX2_tellLongestWay_27 : decode cX2_tellLongestWay 27 = .ok (.iastore, 1) := by decide +kernel
theorem dX2_tellLongestWay_28 : decode cX2_tellLongestWay 28 = .ok (.iconst 1, 1) := by decide +kernel
theorem dX2_tellLongestWay_29 : decode cX2_tellLongestWay 29 = .ok (.istore 6, 2) := by decide +kernel
theorem dX2_tellLongestWay_31 : decode cX2_tellLongestWay 31 = .ok (.iload 6, 2) := by decide +kernel
theorem dX2_tellLongestWay_33 : decode cX2_tellLongestWay 33 = .ok (.iload_n 3, 1) := by decide +kernel
theorem dX2_tellLongestWay_34 : decode cX2_tellLongestWay 34 = .ok (.if_icmp .gt 49, 3) := by decide +kernel
theorem dX2_tellLongestWay_37 : decode cX2_tellLongestWay 37 = .ok (.aload_n 0, 1) := by decide +kernel
theorem dX2_tellLongestWay_38 : decode cX2_tellLongestWay 38 = .ok (.getfield 9, 3) := by decide +kernel
theorem dX2_tellLongestWay_41 : decode cX2_tellLongestWay 41 = .ok (.iload 5, 2) := by decide +kernel
theorem dX2_tellLongestWay_43 : decode cX2_tellLongestWay 43 = .ok (.iaload, 1) := by decide +kernel
theorem dX2_tellLongestWay_44 : decode cX2_tellLongestWay 44 = .ok (.aload_n 0, 1) := by decide +kernel
theorem dX2_tellLongestWay_45 : decode cX2_tellLongestWay 45 = .ok (.iload 4, 2) := by decide +kernel
theorem dX2_tellLongestWay_47 : decode cX2_tellLongestWay 47 = .ok (.iload_n 3, 1) := by decide +kernel
theorem dX2_tellLongestWay_48 : decode cX2_tellLongestWay 48 = .ok (.iconst 1, 1) := by decide +kernel
theorem dX2_tellLongestWay_49 : decode cX2_tellLongestWay 49 = .ok (.iadd, 1) := by decide +kernel
theorem dX2_tellLongestWay_50 : decode cX2_tellLongestWay 50 = .ok (.iload 6, 2) := by decide +kernel
theorem dX2_tellLongestWay_52 : decode cX2_tellLongestWay 52 = .ok (.isub, 1) := by decide +kernel
theorem dX2_tellLongestWay_53 : decode cX2_tellLongestWay 53 = .ok (.invokevirtual 38, 3) := by decide +kernel
theorem dX2_tellLongestWay_56 : decode cX2_tellLongestWay 56 = .ok (.iand, 1) := by decide +kernel
theorem dX2_tellLongestWay_57 : decode cX2_tellLongestWay 57 = .ok (.invokestatic 29, 3) := by decide +kernel
theorem dX2_tellLongestWay_60 : decode cX2_tellLongestWay 60 = .ok (.istore 5, 2) := by decide +kernel
theorem dX2_tellLongestWay_62 : decode cX2_tellLongestWay 62 = .ok (.iload 4, 2) := by decide +kernel
theorem dX2_tellLongestWay_64 : decode cX2_tellLongestWay 64 = .ok (.iconst 1, 1) := by decide +kernel
theorem dX2_tellLongestWay_65 : decode cX2_tellLongestWay 65 = .ok (.iload 5, 2) := by decide +kernel
theorem dX2_tellLongestWay_67 : decode cX2_tellLongestWay 67 = .ok (.ishl, 1) := by decide +kernel
theorem dX2_tellLongestWay_68 : decode cX2_tellLongestWay 68 = .ok (.ior, 1) := by decide +kernel
theorem dX2_tellLongestWay_69 : decode cX2_tellLongestWay 69 = .ok (.istore 4, 2) := by decide +kernel
theorem dX2_tellLongestWay_71 : decode cX2_tellLongestWay 71 = .ok (.aload_n 2, 1) := by decide +kernel
theorem dX2_tellLongestWay_72 : decode cX2_tellLongestWay 72 = .ok (.iload 6, 2) := by decide +kernel
theorem dX2_tellLongestWay_74 : decode cX2_tellLongestWay 74 = .ok (.iload 5, 2) := by decide +kernel
theorem dX2_tellLongestWay_76 : decode cX2_tellLongestWay 76 = .ok (.iastore, 1) := by decide +kernel
theorem dX2_tellLongestWay_77 : decode cX2_tellLongestWay 77 = .ok (.iinc 6 1, 3) := by decide +kernel
theorem dX2_tellLongestWay_80 : decode cX2_tellLongestWay 80 = .ok (.goto (-49), 3) := by decide +kernel
theorem dX2_tellLongestWay_83 : decode cX2_tellLongestWay 83 = .ok (.iload_n 3, 1) := by decide +kernel
theorem dX2_tellLongestWay_84 : decode cX2_tellLongestWay 84 = .ok (.iconst 1, 1) := by decide +kernel
theorem dX2_tellLongestWay_85 : decode cX2_tellLongestWay 85 = .ok (.iadd, 1) := by decide +kernel
theorem dX2_tellLongestWay_86 : decode cX2_tellLongestWay 86 = .ok (.ireturn, 1) := by decide +kernel
theorem dX2_findStarts_0 : decode cX2_findStarts 0 = .ok (.iconst 1, 1) := by decide +kernel
theorem dX2_findStarts_1 : decode cX2_findStarts 1 = .ok (.istore_n 1, 1) := by decide +kernel
theorem dX2_findStarts_2 : decode cX2_findStarts 2 = .ok (.iload_n 1, 1) := by decide +kernel
theorem dX2_findStarts_3 : decode cX2_findStarts 3 = .ok (.iconst 1, 1) := by decide +kernel
theorem dX2_findStarts_4 : decode cX2_findStarts 4 = .ok (.aload_n 0, 1) := by decide +kernel
theorem dX2_findStarts_5 : decode cX2_findStarts 5 = .ok (.getfield 21, 3) := by decide +kernel
theorem dX2_findStarts_8 : decode cX2_findStarts 8 = .ok (.ishl, 1) := by decide +kernel
theorem dX2_findStarts_9 : decode cX2_findStarts 9 = .ok (.if_icmp .ge 42, 3) := by decide +kernel
theorem dX2_findStarts_12 : decode cX2_findStarts 12 = .ok (.iload_n 1, 1) := by decide +kernel
theorem dX2_findStarts_13 : decode cX2_findStarts 13 = .ok (.iload_n 1, 1) := by decide +kernel
theorem dX2_findStarts_14 : decode cX2_findStarts 14 = .ok (.iconst 1, 1) := by decide +kernel
theorem dX2_findStarts_15 : decode cX2_findStarts 15 = .ok (.isub, 1) := by decide +kernel
theorem dX2_findStarts_16 : decode cX2_findStarts 16 = .ok (.iand, 1) := by decide +kernel
theorem dX2_findStarts_17 : decode cX2_findStarts 17 = .ok (.ifCond .ne 7, 3) := by decide +kernel
theorem dX2_findStarts_20 : decode cX2_findStarts 20 = .ok (.iconst 1, 1) := by decide +kernel
theorem dX2_findStarts_21 : decode cX2_findStarts 21 = .ok (.goto 4, 3) := by decide +kernel
theorem dX2_findStarts_24 : decode cX2_findStarts 24 = .ok (.iconst 0, 1) := by decide +kernel
theorem dX2_findStarts_25 : decode cX2_findStarts 25 = .ok (.istore_n 2, 1) := by decide +kernel
theorem dX2_findStarts_26 : decode cX2_findStarts 26 = .ok (.aload_n 0, 1) := by decide +kernel
theorem dX2_findStarts_27 : decode cX2_findStarts 27 = .ok (.getfield 18, 3) := by decide +kernel
theorem dX2_findStarts_30 : decode cX2_findStarts 30 = .ok (.iload_n 1, 1) := by decide +kernel
theorem dX2_findStarts_31 : decode cX2_findStarts 31 = .ok (.iload_n 2, 1) := by decide +kernel
theorem dX2_findStarts_32 : decode cX2_findStarts 32 = .ok (.ifCond .eq 7, 3) := by decide +kernel
theorem dX2_findStarts_35 : decode cX2_findStarts 35 = .ok (.iload_n 1, 1) := by decide +kernel
theorem dX2_findStarts_36 : decode cX2_findStarts 36 = .ok (.goto 8, 3) := by decide +kernel
theorem dX2_findStarts_39 : decode cX2_findStarts 39 = .ok (.aload_n 0, 1) := by decide +kernel
theorem dX2_findStarts_40 : decode cX2_findStarts 40 = .ok (.iload_n 1, 1) := by decide +kernel
theorem dX2_findStarts_41 : decode cX2_findStarts 41 = .ok (.invokevirtual 42, 3) := by decide +kernel
theorem dX2_findStarts_44 : decode cX2_findStarts 44 = .ok (.iastore, 1) := by decide +kernel
theorem dX2_findStarts_45 : decode cX2_findStarts 45 = .ok (.iinc 1 1, 3) := by decide +kernel
theorem dX2_findStarts_48 : decode cX2_findStarts 48 = .ok (.goto (-46), 3) := by decide +kernel
theorem dX2_findStarts_51 : decode cX2_findStarts 51 = .ok (.return_, 1) := by decide +kernel
theorem dX2_startsWithin_0 : decode cX2_startsWithin 0 = .ok (.iconst 0, 1) := by decide +kernel
theorem dX2_startsWithin_1 : decode cX2_startsWithin 1 = .ok (.istore_n 2, 1) := by decide +kernel
theorem dX2_startsWithin_2 : decode cX2_startsWithin 2 = .ok (.iconst 0, 1) := by decide +kernel
theorem dX2_startsWithin_3 : decode cX2_startsWithin 3 = .ok (.istore_n 3, 1) := by decide +kernel
theorem dX2_startsWithin_4 : decode cX2_startsWithin 4 = .ok (.iload_n 3, 1) := by decide +kernel
theorem dX2_startsWithin_5 : decode cX2_startsWithin 5 = .ok (.aload_n 0, 1) := by decide +kernel
theorem dX2_startsWithin_6 : decode cX2_startsWithin 6 = .ok (.getfield 21, 3) := by decide +kernel
theorem dX2_startsWithin_9 : decode cX2_startsWithin 9 = .ok (.if_icmp .ge 45, 3) := by decide +kernel
theorem dX2_startsWithin_12 : decode cX2_startsWithin 12 = .ok (.iconst 1, 1) := by decide +kernel
theorem dX2_startsWithin_13 : decode cX2_startsWithin 13 = .ok (.iload_n 3, 1) := by decide +kernel
theorem dX2_startsWithin_14 : decode cX2_startsWithin 14 = .ok (.ishl, 1) := by decide +kernel
theorem dX2_startsWithin_15 : decode cX2_startsWithin 15 = .ok (.istore 4, 2) := by decide +kernel
theorem dX2_startsWithin_17 : decode cX2_startsWithin 17 = .ok (.iload_n 1, 1) := by decide +kernel
theorem dX2_startsWithin_18 : decode cX2_startsWithin 18 = .ok (.iload 4, 2) := by decide +kernel
theorem dX2_startsWithin_20 : decode cX2_startsWithin 20 = .ok (.iand, 1) := by decide +kernel
theorem dX2_startsWithin_21 : decode cX2_startsWithin 21 = .ok (.ifCond .eq 27, 3) := by decide +kernel
theorem dX2_startsWithin_24 : decode cX2_startsWithin 24 = .ok (.aload_n 0, 1) := by decide +kernel
theorem dX2_startsWithin_25 : decode cX2_startsWithin 25 = .ok (.getfield 9, 3) := by decide +kernel
theorem dX2_startsWithin_28 : decode cX2_startsWithin 28 = .ok (.iload_n 3, 1) := by decide +kernel
theorem dX2_startsWithin_29 : decode cX2_startsWithin 29 = .ok (.iaload, 1) := by decide +kernel
theorem dX2_startsWithin_30 : decode cX2_startsWithin 30 = .ok (.aload_n 0, 1) := by decide +kernel
theorem dX2_startsWithin_31 : decode cX2_startsWithin 31 = .ok (.getfield 18, 3) := by decide +kernel
theorem dX2_startsWithin_34 : decode cX2_startsWithin 34 = .ok (.iload_n 1, 1) := by decide +kernel
theorem dX2_startsWithin_35 : decode cX2_startsWithin 35 = .ok (.iload 4, 2) := by decide +kernel
theorem dX2_startsWithin_37 : decode cX2_startsWithin 37 = .ok (.ixor, 1) := by decide +kernel
theorem dX2_startsWithin_38 : decode cX2_startsWithin 38 = .ok (.iaload, 1) := by decide +kernel
theorem dX2_startsWithin_39 : decode cX2_startsWithin 39 = .ok (.iand, 1) := by decide +kernel
theorem dX2_startsWithin_40 : decode cX2_startsWithin 40 = .ok (.ifCond .eq 8, 3) := by decide +kernel
theorem dX2_startsWithin_43 : decode cX2_startsWithin 43 = .ok (.iload_n 2, 1) := by decide +kernel
theorem dX2_startsWithin_44 : decode cX2_startsWithin 44 = .ok (.iload 4, 2) := by decide +kernel
theorem dX2_startsWithin_46 : decode cX2_startsWithin 46 = .ok (.ior, 1) := by decide +kernel
theorem dX2_startsWithin_47 : decode cX2_startsWithin 47 = .ok (.istore_n 2, 1) := by decide +kernel
theorem dX2_startsWithin_48 : decode cX2_startsWithin 48 = .ok (.iinc 3 1, 3) := by decide +kernel
theorem dX2_startsWithin_51 : decode cX2_startsWithin 51 = .ok (.goto (-47), 3) := by decide +kernel
theorem dX2_startsWithin_54 : decode cX2_startsWithin 54 = .ok (.iload_n 2, 1) := by decide +kernel
theorem dX2_startsWithin_55 : decode cX2_startsWithin 55 = .ok (.ireturn, 1) := by decide +kernel
theorem dX2_mostSteps_0 : decode cX2_mostSteps 0 = .ok (.iconst 0, 1) := by decide +kernel
theorem dX2_mostSteps_1 : decode cX2_mostSteps 1 = .ok (.istore_n 2, 1) := by decide +kernel
theorem dX2_mostSteps_2 : decode cX2_mostSteps 2 = .ok (.iconst 1, 1) := by decide +kernel
theorem dX2_mostSteps_3 : decode cX2_mostSteps 3 = .ok (.istore_n 3, 1) := by decide +kernel
theorem dX2_mostSteps_4 : decode cX2_mostSteps 4 = .ok (.iload_n 3, 1) := by decide +kernel
theorem dX2_mostSteps_5 : decode cX2_mostSteps 5 = .ok (.iconst 1, 1) := by decide +kernel
theorem dX2_mostSteps_6 : decode cX2_mostSteps 6 = .ok (.aload_n 0, 1) := by decide +kernel
theorem dX2_mostSteps_7 : decode cX2_mostSteps 7 = .ok (.getfield 21, 3) := by decide +kernel
theorem dX2_mostSteps_10 : decode cX2_mostSteps 10 = .ok (.ishl, 1) := by decide +kernel
theorem dX2_mostSteps_11 : decode cX2_mostSteps 11 = .ok (.if_icmp .ge 54, 3) := by decide +kernel
theorem dX2_mostSteps_14 : decode cX2_mostSteps 14 = .ok (.iload_n 3, 1) := by decide +kernel
theorem dX2_mostSteps_15 : decode cX2_mostSteps 15 = .ok (.iload_n 1, 1) := by decide +kernel
theorem dX2_mostSteps_16 : decode cX2_mostSteps 16 = .ok (.ishr, 1) := by decide +kernel
theorem dX2_mostSteps_17 : decode cX2_mostSteps 17 = .ok (.iconst 1, 1) := by decide +kernel
theorem dX2_mostSteps_18 : decode cX2_mostSteps 18 = .ok (.iand, 1) := by decide +kernel
theorem dX2_mostSteps_19 : decode cX2_mostSteps 19 = .ok (.ifCond .ne 7, 3) := by decide +kernel
theorem dX2_mostSteps_22 : decode cX2_mostSteps 22 = .ok (.iconst 1, 1) := by decide +kernel
theorem dX2_mostSteps_23 : decode cX2_mostSteps 23 = .ok (.goto 4, 3) := by decide +kernel
theorem dX2_mostSteps_26 : decode cX2_mostSteps 26 = .ok (.iconst 0, 1) := by decide +kernel
theorem dX2_mostSteps_27 : decode cX2_mostSteps 27 = .ok (.istore 4, 2) := by decide +kernel
theorem dX2_mostSteps_29 : decode cX2_mostSteps 29 = .ok (.iload 4, 2) := by decide +kernel
theorem dX2_mostSteps_31 : decode cX2_mostSteps 31 = .ok (.ifCond .eq 28, 3) := by decide +kernel
theorem dX2_mostSteps_34 : decode cX2_mostSteps 34 = .ok (.aload_n 0, 1) := by decide +kernel
theorem dX2_mostSteps_35 : decode cX2_mostSteps 35 = .ok (.getfield 9, 3) := by decide +kernel
theorem dX2_mostSteps_38 : decode cX2_mostSteps 38 = .ok (.iload_n 1, 1) := by decide +kernel
theorem dX2_mostSteps_39 : decode cX2_mostSteps 39 = .ok (.iaload, 1) := by decide +kernel
theorem dX2_mostSteps_40 : decode cX2_mostSteps 40 = .ok (.aload_n 0, 1) := by decide +kernel
theorem dX2_mostSteps_41 : decode cX2_mostSteps 41 = .ok (.getfield 18, 3) := by decide +kernel
theorem dX2_mostSteps_44 : decode cX2_mostSteps 44 = .ok (.iload_n 3, 1) := by decide +kernel
theorem dX2_mostSteps_45 : decode cX2_mostSteps 45 = .ok (.iaload, 1) := by decide +kernel
theorem dX2_mostSteps_46 : decode cX2_mostSteps 46 = .ok (.iand, 1) := by decide +kernel
theorem dX2_mostSteps_47 : decode cX2_mostSteps 47 = .ok (.ifCond .eq 12, 3) := by decide +kernel
theorem dX2_mostSteps_50 : decode cX2_mostSteps 50 = .ok (.iload_n 2, 1) := by decide +kernel
theorem dX2_mostSteps_51 : decode cX2_mostSteps 51 = .ok (.iload_n 3, 1) := by decide +kernel
theorem dX2_mostSteps_52 : decode cX2_mostSteps 52 = .ok (.invokestatic 45, 3) := by decide +kernel
theorem dX2_mostSteps_55 : decode cX2_mostSteps 55 = .ok (.invokestatic 50, 3) := by decide +kernel
theorem dX2_mostSteps_58 : decode cX2_mostSteps 58 = .ok (.istore_n 2, 1) := by decide +kernel
theorem dX2_mostSteps_59 : decode cX2_mostSteps 59 = .ok (.iinc 3 1, 3) := by decide +kernel
theorem dX2_mostSteps_62 : decode cX2_mostSteps 62 = .ok (.goto (-58), 3) := by decide +kernel
theorem dX2_mostSteps_65 : decode cX2_mostSteps 65 = .ok (.iload_n 2, 1) := by decide +kernel
theorem dX2_mostSteps_66 : decode cX2_mostSteps 66 = .ok (.ireturn, 1) := by decide +kernel
theorem dX2_startsApart_0 : decode cX2_startsApart 0 = .ok (.iconst 0, 1) := by decide +kernel
theorem dX2_startsApart_1 : decode cX2_startsApart 1 = .ok (.istore_n 3, 1) := by decide +kernel
theorem dX2_startsApart_2 : decode cX2_startsApart 2 = .ok (.iconst 1, 1) := by decide +kernel
theorem dX2_startsApart_3 : decode cX2_startsApart 3 = .ok (.istore 4, 2) := by decide +kernel
theorem dX2_startsApart_5 : decode cX2_startsApart 5 = .ok (.iload 4, 2) := by decide +kernel
theorem dX2_startsApart_7 : decode cX2_startsApart 7 = .ok (.iconst 1, 1) := by decide +kernel
theorem dX2_startsApart_8 : decode cX2_startsApart 8 = .ok (.aload_n 0, 1) := by decide +kernel
theorem dX2_startsApart_9 : decode cX2_startsApart 9 = .ok (.getfield 21, 3) := by decide +kernel
theorem dX2_startsApart_12 : decode cX2_startsApart 12 = .ok (.ishl, 1) := by decide +kernel
theorem dX2_startsApart_13 : decode cX2_startsApart 13 = .ok (.if_icmp .ge 35, 3) := by decide +kernel
theorem dX2_startsApart_16 : decode cX2_startsApart 16 = .ok (.iload 4, 2) := by decide +kernel
theorem dX2_startsApart_18 : decode cX2_startsApart 18 = .ok (.iload_n 1, 1) := by decide +kernel
theorem dX2_startsApart_19 : decode cX2_startsApart 19 = .ok (.iand, 1) := by decide +kernel
theorem dX2_startsApart_20 : decode cX2_startsApart 20 = .ok (.ifCond .ne 22, 3) := by decide +kernel
theorem dX2_startsApart_23 : decode cX2_startsApart 23 = .ok (.iload 4, 2) := by decide +kernel
theorem dX2_startsApart_25 : decode cX2_startsApart 25 = .ok (.invokestatic 45, 3) := by decide +kernel
theorem dX2_startsApart_28 : decode cX2_startsApart 28 = .ok (.iload_n 2, 1) := by decide +kernel
theorem dX2_startsApart_29 : decode cX2_startsApart 29 = .ok (.if_icmp .ne 13, 3) := by decide +kernel
theorem dX2_startsApart_32 : decode cX2_startsApart 32 = .ok (.iload_n 3, 1) := by decide +kernel
theorem dX2_startsApart_33 : decode cX2_startsApart 33 = .ok (.aload_n 0, 1) := by decide +kernel
theorem dX2_startsApart_34 : decode cX2_startsApart 34 = .ok (.getfield 18, 3) := by decide +kernel
theorem dX2_startsApart_37 : decode cX2_startsApart 37 = .ok (.iload 4, 2) := by decide +kernel
theorem dX2_startsApart_39 : decode cX2_startsApart 39 = .ok (.iaload, 1) := by decide +kernel
theorem dX2_startsApart_40 : decode cX2_startsApart 40 = .ok (.ior, 1) := by decide +kernel
theorem dX2_startsApart_41 : decode cX2_startsApart 41 = .ok (.istore_n 3, 1) := by decide +kernel
theorem dX2_startsApart_42 : decode cX2_startsApart 42 = .ok (.iinc 4 1, 3) := by decide +kernel
theorem dX2_startsApart_45 : decode cX2_startsApart 45 = .ok (.goto (-40), 3) := by decide +kernel
theorem dX2_startsApart_48 : decode cX2_startsApart 48 = .ok (.iload_n 3, 1) := by decide +kernel
theorem dX2_startsApart_49 : decode cX2_startsApart 49 = .ok (.ireturn, 1) := by decide +kernel
theorem dX2_leastOf_0 : decode cX2_leastOf 0 = .ok (.iconst 0, 1) := by decide +kernel
theorem dX2_leastOf_1 : decode cX2_leastOf 1 = .ok (.istore_n 1, 1) := by decide +kernel
theorem dX2_leastOf_2 : decode cX2_leastOf 2 = .ok (.iload_n 1, 1) := by decide +kernel
theorem dX2_leastOf_3 : decode cX2_leastOf 3 = .ok (.bipush 10, 2) := by decide +kernel
theorem dX2_leastOf_5 : decode cX2_leastOf 5 = .ok (.if_icmp .ge 20, 3) := by decide +kernel
theorem dX2_leastOf_8 : decode cX2_leastOf 8 = .ok (.iload_n 0, 1) := by decide +kernel
theorem dX2_leastOf_9 : decode cX2_leastOf 9 = .ok (.iload_n 1, 1) := by decide +kernel
theorem dX2_leastOf_10 : decode cX2_leastOf 10 = .ok (.ishr, 1) := by decide +kernel
theorem dX2_leastOf_11 : decode cX2_leastOf 11 = .ok (.iconst 1, 1) := by decide +kernel
theorem dX2_leastOf_12 : decode cX2_leastOf 12 = .ok (.iand, 1) := by decide +kernel
theorem dX2_leastOf_13 : decode cX2_leastOf 13 = .ok (.iconst 1, 1) := by decide +kernel
theorem dX2_leastOf_14 : decode cX2_leastOf 14 = .ok (.if_icmp .ne 5, 3) := by decide +kernel
theorem dX2_leastOf_17 : decode cX2_leastOf 17 = .ok (.iload_n 1, 1) := by decide +kernel
theorem dX2_leastOf_18 : decode cX2_leastOf 18 = .ok (.ireturn, 1) := by decide +kernel
theorem dX2_leastOf_19 : decode cX2_leastOf 19 = .ok (.iinc 1 1, 3) := by decide +kernel
theorem dX2_leastOf_22 : decode cX2_leastOf 22 = .ok (.goto (-20), 3) := by decide +kernel
theorem dX2_leastOf_25 : decode cX2_leastOf 25 = .ok (.iconst 0, 1) := by decide +kernel
theorem dX2_leastOf_26 : decode cX2_leastOf 26 = .ok (.ireturn, 1) := by decide +kernel
theorem dX3_init_0 : decode cX3_init 0 = .ok (.aload_n 0, 1) := by decide +kernel
theorem dX3_init_1 : decode cX3_init 1 = .ok (.invokespecial 1, 3) := by decide +kernel
theorem dX3_init_4 : decode cX3_init 4 = .ok (.aload_n 0, 1) := by decide +kernel
theorem dX3_init_5 : decode cX3_init 5 = .ok (.bipush 10, 2) := by decide +kernel
theorem dX3_init_7 : decode cX3_init 7 = .ok (.anewarray 9, 3) := by decide +kernel
theorem dX3_init_10 : decode cX3_init 10 = .ok (.putfield 11, 3) := by decide +kernel
theorem dX3_init_13 : decode cX3_init 13 = .ok (.aload_n 0, 1) := by decide +kernel
theorem dX3_init_14 : decode cX3_init 14 = .ok (.bipush 10, 2) := by decide +kernel
theorem dX3_init_16 : decode cX3_init 16 = .ok (.newarray .int, 2) := by decide +kernel
theorem dX3_init_18 : decode cX3_init 18 = .ok (.putfield 15, 3) := by decide +kernel
theorem dX3_init_21 : decode cX3_init 21 = .ok (.aload_n 0, 1) := by decide +kernel
theorem dX3_init_22 : decode cX3_init 22 = .ok (.sipush 600, 3) := by decide +kernel
theorem dX3_init_25 : decode cX3_init 25 = .ok (.newarray .int, 2) := by decide +kernel
theorem dX3_init_27 : decode cX3_init 27 = .ok (.putfield 19, 3) := by decide +kernel
theorem dX3_init_30 : decode cX3_init 30 = .ok (.aload_n 0, 1) := by decide +kernel
theorem dX3_init_31 : decode cX3_init 31 = .ok (.bipush 10, 2) := by decide +kernel
theorem dX3_init_33 : decode cX3_init 33 = .ok (.newarray .int, 2) := by decide +kernel
theorem dX3_init_35 : decode cX3_init 35 = .ok (.putfield 22, 3) := by decide +kernel
theorem dX3_init_38 : decode cX3_init 38 = .ok (.aload_n 0, 1) := by decide +kernel
theorem dX3_init_39 : decode cX3_init 39 = .ok (.bipush 10, 2) := by decide +kernel
theorem dX3_init_41 : decode cX3_init 41 = .ok (.newarray .int, 2) := by decide +kernel
theorem dX3_init_43 : decode cX3_init 43 = .ok (.putfield 25, 3) := by decide +kernel
theorem dX3_init_46 : decode cX3_init 46 = .ok (.aload_n 0, 1) := by decide +kernel
theorem dX3_init_47 : decode cX3_init 47 = .ok (.new 28, 3) := by decide +kernel
theorem dX3_init_50 : decode cX3_init 50 = .ok (.dup, 1) := by decide +kernel
theorem dX3_init_51 : decode cX3_init 51 = .ok (.invokespecial 30, 3) := by decide +kernel
theorem dX3_init_54 : decode cX3_init 54 = .ok (.putfield 31, 3) := by decide +kernel
theorem dX3_init_57 : decode cX3_init 57 = .ok (.aload_n 0, 1) := by decide +kernel
theorem dX3_init_58 : decode cX3_init 58 = .ok (.new 35, 3) := by decide +kernel
theorem dX3_init_61 : decode cX3_init 61 = .ok (.dup, 1) := by decide +kernel
theorem dX3_init_62 : decode cX3_init 62 = .ok (.invokespecial 37, 3) := by decide +kernel
theorem dX3_init_65 : decode cX3_init 65 = .ok (.putfield 38, 3) := by decide +kernel
theorem dX3_init_68 : decode cX3_init 68 = .ok (.aload_n 0, 1) := by decide +kernel
theorem dX3_init_69 : decode cX3_init 69 = .ok (.iconst 0, 1) := by decide +kernel
theorem dX3_init_70 : decode cX3_init 70 = .ok (.putfield 42, 3) := by decide +kernel
theorem dX3_init_73 : decode cX3_init 73 = .ok (.aload_n 0, 1) := by decide +kernel
theorem dX3_init_74 : decode cX3_init 74 = .ok (.iconst 0, 1) := by decide +kernel
theorem dX3_init_75 : decode cX3_init 75 = .ok (.putfield 46, 3) := by decide +kernel
theorem dX3_init_78 : decode cX3_init 78 = .ok (.aload_n 0, 1) := by decide +kernel
theorem dX3_init_79 : decode cX3_init 79 = .ok (.iconst 0, 1) := by decide +kernel
theorem dX3_init_80 : decode cX3_init 80 = .ok (.putfield 49, 3) := by decide +kernel
theorem dX3_init_83 : decode cX3_init 83 = .ok (.aload_n 0, 1) := by decide +kernel
theorem dX3_init_84 : decode cX3_init 84 = .ok (.iconst 2, 1) := by decide +kernel
theorem dX3_init_85 : decode cX3_init 85 = .ok (.putfield 52, 3) := by decide +kernel
theorem dX3_init_88 : decode cX3_init 88 = .ok (.aload_n 0, 1) := by decide +kernel
theorem dX3_init_89 : decode cX3_init 89 = .ok (.bipush 10, 2) := by decide +kernel
theorem dX3_init_91 : decode cX3_init 91 = .ok (.putfield 55, 3) := by decide +kernel
theorem dX3_init_94 : decode cX3_init 94 = .ok (.aload_n 0, 1) := by decide +kernel
theorem dX3_init_95 : decode cX3_init 95 = .ok (.iconst 0, 1) := by decide +kernel
theorem dX3_init_96 : decode cX3_init 96 = .ok (.putfield 58, 3) := by decide +kernel
theorem dX3_init_99 : decode cX3_init 99 = .ok (.aload_n 0, 1) := by decide +kernel
theorem dX3_init_100 : decode cX3_init 100 = .ok (.iconst 0, 1) := by decide +kernel
theorem dX3_init_101 : decode cX3_init 101 = .ok (.putfield 61, 3) := by decide +kernel
theorem dX3_init_104 : decode cX3_init 104 = .ok (.iconst 0, 1) := by decide +kernel
theorem dX3_init_105 : decode cX3_init 105 = .ok (.istore_n 1, 1) := by decide +kernel
theorem dX3_init_106 : decode cX3_init 106 = .ok (.iload_n 1, 1) := by decide +kernel
theorem dX3_init_107 : decode cX3_init 107 = .ok (.bipush 10, 2) := by decide +kernel
theorem dX3_init_109 : decode cX3_init 109 = .ok (.if_icmp .ge 29, 3) := by decide +kernel
theorem dX3_init_112 : decode cX3_init 112 = .ok (.aload_n 0, 1) := by decide +kernel
theorem dX3_init_113 : decode cX3_init 113 = .ok (.getfield 11, 3) := by decide +kernel
theorem dX3_init_116 : decode cX3_init 116 = .ok (.iload_n 1, 1) := by decide +kernel
theorem dX3_init_117 : decode cX3_init 117 = .ok (.new 9, 3) := by decide +kernel
theorem dX3_init_120 : decode cX3_init 120 = .ok (.dup, 1) := by decide +kernel
theorem dX3_init_121 : decode cX3_init 121 = .ok (.invokespecial 65, 3) := by decide +kernel
theorem dX3_init_124 : decode cX3_init 124 = .ok (.aastore, 1) := by decide +kernel
theorem dX3_init_125 : decode cX3_init 125 = .ok (.aload_n 0, 1) := by decide +kernel
theorem dX3_init_126 : decode cX3_init 126 = .ok (.getfield 15, 3) := by decide +kernel
theorem dX3_init_129 : decode cX3_init 129 = .ok (.iload_n 1, 1) := by decide +kernel
theorem dX3_init_130 : decode cX3_init 130 = .ok (.iconst (-1), 1) := by decide +kernel
theorem dX3_init_131 : decode cX3_init 131 = .ok (.iastore, 1) := by decide +kernel
theorem dX3_init_132 : decode cX3_init 132 = .ok (.iinc 1 1, 3) := by decide +kernel
theorem dX3_init_135 : decode cX3_init 135 = .ok (.goto (-29), 3) := by decide +kernel
theorem dX3_init_138 : decode cX3_init 138 = .ok (.return_, 1) := by decide +kernel
theorem dX3_family_0 : decode cX3_family 0 = .ok (.aload_n 0, 1) := by decide +kernel
theorem dX3_family_1 : decode cX3_family 1 = .ok (.iconst 0, 1) := by decide +kernel
theorem dX3_family_2 : decode cX3_family 2 = .ok (.putfield 61, 3) := by decide +kernel
theorem dX3_family_5 : decode cX3_family 5 = .ok (.iload_n 1, 1) := by decide +kernel
theorem dX3_family_6 : decode cX3_family 6 = .ok (.ifCond .lt 26, 3) := by decide +kernel
theorem dX3_family_9 : decode cX3_family 9 = .ok (.iload_n 1, 1) := by decide +kernel
theorem dX3_family_10 : decode cX3_family 10 = .ok (.iconst 4, 1) := by decide +kernel
theorem dX3_family_11 : decode cX3_family 11 = .ok (.if_icmp .ge 21, 3) := by decide +kernel
theorem dX3_family_14 : decode cX3_family 14 = .ok (.iload_n 2, 1) := by decide +kernel
theorem dX3_family_15 : decode cX3_family 15 = .ok (.invokestatic 66, 3) := by decide +kernel
theorem dX3_family_18 : decode cX3_family 18 = .ok (.ifCond .eq 14, 3) := by decide +kernel
theorem dX3_family_21 : decode cX3_family 21 = .ok (.iload_n 3, 1) := by decide +kernel
theorem dX3_family_22 : decode cX3_family 22 = .ok (.invokestatic 66, 3) := by decide +kernel
theorem dX3_family_25 : decode cX3_family 25 = .ok (.ifCond .eq 7, 3) := by decide +kernel
theorem dX3_family_28 : decode cX3_family 28 = .ok (.iconst 1, 1) := by decide +kernel
theorem dX3_family_29 : decode cX3_family 29 = .ok (.goto 4, 3) := by decide +kernel
theorem dX3_family_32 : decode cX3_family 32 = .ok (.iconst 0, 1) := by decide +kernel
theorem dX3_family_33 : decode cX3_family 33 = .ok (.istore 5, 2) := by decide +kernel
theorem dX3_family_35 : decode cX3_family 35 = .ok (.iload 5, 2) := by decide +kernel
theorem dX3_family_37 : decode cX3_family 37 = .ok (.ifCond .eq 12, 3) := by decide +kernel
theorem dX3_family_40 : decode cX3_family 40 = .ok (.aload_n 0, 1) := by decide +kernel
theorem dX3_family_41 : decode cX3_family 41 = .ok (.getfield 42, 3) := by decide +kernel
theorem dX3_family_44 : decode cX3_family 44 = .ok (.bipush 10, 2) := by decide +kernel
theorem dX3_family_46 : decode cX3_family 46 = .ok (.if_icmp .lt 5, 3) := by decide +kernel
theorem dX3_family_49 : decode cX3_family 49 = .ok (.iconst (-1), 1) := by decide +kernel
theorem dX3_family_50 : decode cX3_family 50 = .ok (.ireturn, 1) := by decide +kernel
theorem dX3_family_51 : decode cX3_family 51 = .ok (.aload_n 0, 1) := by decide +kernel
theorem dX3_family_52 : decode cX3_family 52 = .ok (.getfield 11, 3) := by decide +kernel
theorem dX3_family_55 : decode cX3_family 55 = .ok (.aload_n 0, 1) := by decide +kernel
theorem dX3_family_56 : decode cX3_family 56 = .ok (.getfield 42, 3) := by decide +kernel
theorem dX3_family_59 : decode cX3_family 59 = .ok (.aaload, 1) := by decide +kernel
theorem dX3_family_60 : decode cX3_family 60 = .ok (.iload_n 1, 1) := by decide +kernel
theorem dX3_family_61 : decode cX3_family 61 = .ok (.iload_n 2, 1) := by decide +kernel
theorem dX3_family_62 : decode cX3_family 62 = .ok (.iload_n 3, 1) := by decide +kernel
theorem dX3_family_63 : decode cX3_family 63 = .ok (.iload 4, 2) := by decide +kernel
theorem dX3_family_65 : decode cX3_family 65 = .ok (.invokevirtual 70, 3) := by decide +kernel
theorem dX3_family_68 : decode cX3_family 68 = .ok (.aload_n 0, 1) := by decide +kernel
theorem dX3_family_69 : decode cX3_family 69 = .ok (.dup, 1) := by decide +kernel
theorem dX3_family_70 : decode cX3_family 70 = .ok (.getfield 42, 3) := by decide +kernel
theorem dX3_family_73 : decode cX3_family 73 = .ok (.iconst 1, 1) := by decide +kernel
theorem dX3_family_74 : decode cX3_family 74 = .ok (.iadd, 1) := by decide +kernel
theorem dX3_family_75 : decode cX3_family 75 = .ok (.putfield 42, 3) := by decide +kernel
theorem dX3_family_78 : decode cX3_family 78 = .ok (.aload_n 0, 1) := by decide +kernel
theorem dX3_family_79 : decode cX3_family 79 = .ok (.getfield 42, 3) := by decide +kernel
theorem dX3_family_82 : decode cX3_family 82 = .ok (.iconst 1, 1) := by decide +kernel
theorem dX3_family_83 : decode cX3_family 83 = .ok (.isub, 1) := by decide +kernel
theorem dX3_family_84 : decode cX3_family 84 = .ok (.ireturn, 1) := by decide +kernel
theorem dX3_weeks_0 : decode cX3_weeks 0 = .ok (.aload_n 0, 1) := by decide +kernel
theorem dX3_weeks_1 : decode cX3_weeks 1 = .ok (.iconst 0, 1) := by decide +kernel
theorem dX3_weeks_2 : decode cX3_weeks 2 = .ok (.putfield 61, 3) := by decide +kernel
theorem dX3_weeks_5 : decode cX3_weeks 5 = .ok (.aload_n 0, 1) := by decide +kernel
theorem dX3_weeks_6 : decode cX3_weeks 6 = .ok (.iload_n 1, 1) := by decide +kernel
theorem dX3_weeks_7 : decode cX3_weeks 7 = .ok (.invokevirtual 74, 3) := by decide +kernel
theorem dX3_weeks_10 : decode cX3_weeks 10 = .ok (.ifCond .eq 20, 3) := by decide +kernel
theorem dX3_weeks_13 : decode cX3_weeks 13 = .ok (.iload_n 3, 1) := by decide +kernel
theorem dX3_weeks_14 : decode cX3_weeks 14 = .ok (.ifCond .lt 16, 3) := by decide +kernel
theorem dX3_weeks_17 : decode cX3_weeks 17 = .ok (.iload 4, 2) := by decide +kernel
theorem dX3_weeks_19 : decode cX3_weeks 19 = .ok (.bipush 51, 2) := by decide +kernel
theorem dX3_weeks_21 : decode cX3_weeks 21 = .ok (.if_icmp .gt 9, 3) := by decide +kernel
theorem dX3_weeks_24 : decode cX3_weeks 24 = .ok (.iload_n 3, 1) := by decide +kernel
theorem dX3_weeks_25 : decode cX3_weeks 25 = .ok (.iload 4, 2) := by decide +kernel
theorem dX3_weeks_27 : decode cX3_weeks 27 = .ok (.if_icmp .le 5, 3) := by decide +kernel
theorem dX3_weeks_30 : decode cX3_weeks 30 = .ok (.iconst 0, 1) := by decide +kernel
theorem dX3_weeks_31 : decode cX3_weeks 31 = .ok (.ireturn, 1) := by decide +kernel
theorem dX3_weeks_32 : decode cX3_weeks 32 = .ok (.iload_n 2, 1) := by decide +kernel
theorem dX3_weeks_33 : decode cX3_weeks 33 = .ok (.ifCond .ne 26, 3) := by decide +kernel
theorem dX3_weeks_36 : decode cX3_weeks 36 = .ok (.aload_n 0, 1) := by decide +kernel
theorem dX3_weeks_37 : decode cX3_weeks 37 = .ok (.getfield 11, 3) := by decide +kernel
theorem dX3_weeks_40 : decode cX3_weeks 40 = .ok (.iload_n 1, 1) := by decide +kernel
theorem dX3_weeks_41 : decode cX3_weeks 41 = .ok (.aaload, 1) := by decide +kernel
theorem dX3_weeks_42 : decode cX3_weeks 42 = .ok (.iload_n 3, 1) := by decide +kernel
theorem dX3_weeks_43 : decode cX3_weeks 43 = .ok (.putfield 77, 3) := by decide +kernel
theorem dX3_weeks_46 : decode cX3_weeks 46 = .ok (.aload_n 0, 1) := by decide +kernel
theorem dX3_weeks_47 : decode cX3_weeks 47 = .ok (.getfield 11, 3) := by decide +kernel
theorem dX3_weeks_50 : decode cX3_weeks 50 = .ok (.iload_n 1, 1) := by decide +kernel
theorem dX3_weeks_51 : decode cX3_weeks 51 = .ok (.aaload, 1) := by decide +kernel
theorem dX3_weeks_52 : decode cX3_weeks 52 = .ok (.iload 4, 2) := by decide +kernel
theorem dX3_weeks_54 : decode cX3_weeks 54 = .ok (.putfield 80, 3) := by decide +kernel
theorem dX3_weeks_57 : decode cX3_weeks 57 = .ok (.iconst 1, 1) := by decide +kernel
theorem dX3_weeks_58 : decode cX3_weeks 58 = .ok (.ireturn, 1) := by decide +kernel
theorem dX3_weeks_59 : decode cX3_weeks 59 = .ok (.iload_n 2, 1) := by decide +kernel
theorem dX3_weeks_60 : decode cX3_weeks 60 = .ok (.iconst 1, 1) := by decide +kernel
theorem dX3_weeks_61 : decode cX3_weeks 61 = .ok (.if_icmp .ne 26, 3) := by decide +kernel
theorem dX3_weeks_64 : decode cX3_weeks 64 = .ok (.aload_n 0, 1) := by decide +kernel
theorem dX3_weeks_65 : decode cX3_weeks 65 = .ok (.getfield 11, 3) := by decide +kernel
theorem dX3_weeks_68 : decode cX3_weeks 68 = .ok (.iload_n 1, 1) := by decide +kernel
theorem dX3_weeks_69 : decode cX3_weeks 69 = .ok (.aaload, 1) := by decide +kernel
theorem dX3_weeks_70 : decode cX3_weeks 70 = .ok (.iload_n 3, 1) := by decide +kernel
theorem dX3_weeks_71 : decode cX3_weeks 71 = .ok (.putfield 83, 3) := by decide +kernel
theorem dX3_weeks_74 : decode cX3_weeks 74 = .ok (.aload_n 0, 1) := by decide +kernel
theorem dX3_weeks_75 : decode cX3_weeks 75 = .ok (.getfield 11, 3) := by decide +kernel
theorem dX3_weeks_78 : decode cX3_weeks 78 = .ok (.iload_n 1, 1) := by decide +kernel
theorem dX3_weeks_79 : decode cX3_weeks 79 = .ok (.aaload, 1) := by decide +kernel
theorem dX3_weeks_80 : decode cX3_weeks 80 = .ok (.iload 4, 2) := by decide +kernel
theorem dX3_weeks_82 : decode cX3_weeks 82 = .ok (.putfield 86, 3) := by decide +kernel
theorem dX3_weeks_85 : decode cX3_weeks 85 = .ok (.iconst 1, 1) := by decide +kernel
theorem dX3_weeks_86 : decode cX3_weeks 86 = .ok (.ireturn, 1) := by decide +kernel
theorem dX3_weeks_87 : decode cX3_weeks 87 = .ok (.iconst 0, 1) := by decide +kernel
theorem dX3_weeks_88 : decode cX3_weeks 88 = .ok (.ireturn, 1) := by decide +kernel
theorem dX3_wish_0 : decode cX3_wish 0 = .ok (.aload_n 0, 1) := by decide +kernel
theorem dX3_wish_1 : decode cX3_wish 1 = .ok (.iconst 0, 1) := by decide +kernel
theorem dX3_wish_2 : decode cX3_wish 2 = .ok (.putfield 61, 3) := by decide +kernel
theorem dX3_wish_5 : decode cX3_wish 5 = .ok (.aload_n 0, 1) := by decide +kernel
theorem dX3_wish_6 : decode cX3_wish 6 = .ok (.iload_n 1, 1) := by decide +kernel
theorem dX3_wish_7 : decode cX3_wish 7 = .ok (.iload_n 2, 1) := by decide +kernel
theorem dX3_wish_8 : decode cX3_wish 8 = .ok (.invokevirtual 89, 3) := by decide +kernel
theorem dX3_wish_11 : decode cX3_wish 11 = .ok (.ifCond .ne 5, 3) := by decide +kernel
theorem dX3_wish_14 : decode cX3_wish 14 = .ok (.iconst (-1), 1) := by decide +kernel
theorem dX3_wish_15 : decode cX3_wish 15 = .ok (.ireturn, 1) := by decide +kernel
theorem dX3_wish_16 : decode cX3_wish 16 = .ok (.aload_n 0, 1) := by decide +kernel
theorem dX3_wish_17 : decode cX3_wish 17 = .ok (.getfield 11, 3) := by decide +kernel
theorem dX3_wish_20 : decode cX3_wish 20 = .ok (.iload_n 1, 1) := by decide +kernel
theorem dX3_wish_21 : decode cX3_wish 21 = .ok (.aaload, 1) := by decide +kernel
theorem dX3_wish_22 : decode cX3_wish 22 = .ok (.iload_n 2, 1) := by decide +kernel
theorem dX3_wish_23 : decode cX3_wish 23 = .ok (.invokevirtual 93, 3) := by decide +kernel
theorem dX3_wish_26 : decode cX3_wish 26 = .ok (.aload_n 0, 1) := by decide +kernel
theorem dX3_wish_27 : decode cX3_wish 27 = .ok (.getfield 11, 3) := by decide +kernel
theorem dX3_wish_30 : decode cX3_wish 30 = .ok (.iload_n 1, 1) := by decide +kernel
theorem dX3_wish_31 : decode cX3_wish 31 = .ok (.aaload, 1) := by decide +kernel
theorem dX3_wish_32 : decode cX3_wish 32 = .ok (.getfield 97, 3) := by decide +kernel
theorem dX3_wish_35 : decode cX3_wish 35 = .ok (.ireturn, 1) := by decide +kernel
theorem dX3_wishes_0 : decode cX3_wishes 0 = .ok (.aload_n 0, 1) := by decide +kernel
theorem dX3_wishes_1 : decode cX3_wishes 1 = .ok (.iconst 0, 1) := by decide +kernel
theorem dX3_wishes_2 : decode cX3_wishes 2 = .ok (.putfield 61, 3) := by decide +kernel
theorem dX3_wishes_5 : decode cX3_wishes 5 = .ok (.aload_n 0, 1) := by decide +kernel
theorem dX3_wishes_6 : decode cX3_wishes 6 = .ok (.iload_n 1, 1) := by decide +kernel
theorem dX3_wishes_7 : decode cX3_wishes 7 = .ok (.invokevirtual 74, 3) := by decide +kernel
theorem dX3_wishes_10 : decode cX3_wishes 10 = .ok (.ifCond .eq 18, 3) := by decide +kernel
theorem dX3_wishes_13 : decode cX3_wishes 13 = .ok (.iload_n 2, 1) := by decide +kernel
theorem dX3_wishes_14 : decode cX3_wishes 14 = .ok (.ifCond .lt 14, 3) := by decide +kernel
theorem dX3_wishes_17 : decode cX3_wishes 17 = .ok (.iload_n 2, 1) := by decide +kernel
theorem dX3_wishes_18 : decode cX3_wishes 18 = .ok (.iconst 2, 1) := by decide +kernel
theorem dX3_wishes_19 : decode cX3_wishes 19 = .ok (.if_icmp .gt 9, 3) := by decide +kernel
theorem dX3_wishes_22 : decode cX3_wishes 22 = .ok (.iload_n 3, 1) := by decide +kernel
theorem dX3_wishes_23 : decode cX3_wishes 23 = .ok (.bipush 20, 2) := by decide +kernel
theorem dX3_wishes_25 : decode cX3_wishes 25 = .ok (.if_icmp .le 5, 3) := by decide +kernel
theorem dX3_wishes_28 : decode cX3_wishes 28 = .ok (.iconst (-1), 1) := by decide +kernel
theorem dX3_wishes_29 : decode cX3_wishes 29 = .ok (.ireturn, 1) := by decide +kernel
theorem dX3_wishes_30 : decode cX3_wishes 30 = .ok (.iload_n 2, 1) := by decide +kernel
theorem dX3_wishes_31 : decode cX3_wishes 31 = .ok (.iconst 2, 1) := by decide +kernel
theorem dX3_wishes_32 : decode cX3_wishes 32 = .ok (.if_icmp .eq 10, 3) := by decide +kernel
theorem dX3_wishes_35 : decode cX3_wishes 35 = .ok (.iload_n 3, 1) := by decide +kernel
theorem dX3_wishes_36 : decode cX3_wishes 36 = .ok (.ifCond .ge 6, 3) := by decide +kernel
theorem dX3_wishes_39 : decode cX3_wishes 39 = .ok (.bipush (-2), 2) := by decide +kernel
theorem dX3_wishes_41 : decode cX3_wishes 41 = .ok (.ireturn, 1) := by decide +kernel
theorem dX3_wishes_42 : decode cX3_wishes 42 = .ok (.aload_n 0, 1) := by decide +kernel
theorem dX3_wishes_43 : decode cX3_wishes 43 = .ok (.getfield 11, 3) := by decide +kernel
theorem dX3_wishes_46 : decode cX3_wishes 46 = .ok (.iload_n 1, 1) := by decide +kernel
theorem dX3_wishes_47 : decode cX3_wishes 47 = .ok (.aaload, 1) := by decide +kernel
theorem dX3_wishes_48 : decode cX3_wishes 48 = .ok (.invokevirtual 100, 3) := by decide +kernel
theorem dX3_wishes_51 : decode cX3_wishes 51 = .ok (.iload_n 2, 1) := by decide +kernel
theorem dX3_wishes_52 : decode cX3_wishes 52 = .ok (.iconst 2, 1) := by decide +kernel
theorem dX3_wishes_53 : decode cX3_wishes 53 = .ok (.if_icmp .eq 22, 3) := by decide +kernel
theorem dX3_wishes_56 : decode cX3_wishes 56 = .ok (.aload_n 0, 1) := by decide +kernel
theorem dX3_wishes_57 : decode cX3_wishes 57 = .ok (.iload_n 1, 1) := by decide +kernel
theorem dX3_wishes_58 : decode cX3_wishes 58 = .ok (.iload_n 2, 1) := by decide +kernel
theorem dX3_wishes_59 : decode cX3_wishes 59 = .ok (.ifCond .ne 7, 3) := by decide +kernel
theorem dX3_wishes_62 : decode cX3_wishes 62 = .ok (.iconst 1, 1) := by decide +kernel
theorem dX3_wishes_63 : decode cX3_wishes 63 = .ok (.goto 4, 3) := by decide +kernel
theorem dX3_wishes_66 : decode cX3_wishes 66 = .ok (.iconst 0, 1) := by decide +kernel
theorem dX3_wishes_67 : decode cX3_wishes 67 = .ok (.iload_n 3, 1) := by decide +kernel
theorem dX3_wishes_68 : decode cX3_wishes 68 = .ok (.iload 4, 2) := by decide +kernel
theorem dX3_wishes_70 : decode cX3_wishes 70 = .ok (.iload 5, 2) := by decide +kernel
theorem dX3_wishes_72 : decode cX3_wishes 72 = .ok (.invokevirtual 103, 3) := by decide +kernel
theorem dX3_wishes_75 : decode cX3_wishes 75 = .ok (.aload_n 0, 1) := by decide +kernel
theorem dX3_wishes_76 : decode cX3_wishes 76 = .ok (.getfield 11, 3) := by decide +kernel
theorem dX3_wishes_79 : decode cX3_wishes 79 = .ok (.iload_n 1, 1) := by decide +kernel
theorem dX3_wishes_80 : decode cX3_wishes 80 = .ok (.aaload, 1) := by decide +kernel
theorem dX3_wishes_81 : decode cX3_wishes 81 = .ok (.getfield 97, 3) := by decide +kernel
theorem dX3_wishes_84 : decode cX3_wishes 84 = .ok (.ireturn, 1) := by decide +kernel
theorem dX3_bar_0 : decode cX3_bar 0 = .ok (.aload_n 0, 1) := by decide +kernel
theorem dX3_bar_1 : decode cX3_bar 1 = .ok (.iconst 0, 1) := by decide +kernel
theorem dX3_bar_2 : decode cX3_bar 2 = .ok (.putfield 61, 3) := by decide +kernel
theorem dX3_bar_5 : decode cX3_bar 5 = .ok (.aload_n 0, 1) := by decide +kernel
theorem dX3_bar_6 : decode cX3_bar 6 = .ok (.iload_n 1, 1) := by decide +kernel
theorem dX3_bar_7 : decode cX3_bar 7 = .ok (.iload_n 2, 1) := by decide +kernel
theorem dX3_bar_8 : decode cX3_bar 8 = .ok (.invokevirtual 107, 3) := by decide +kernel
theorem dX3_bar_11 : decode cX3_bar 11 = .ok (.ifCond .ne 5, 3) := by decide +kernel
theorem dX3_bar_14 : decode cX3_bar 14 = .ok (.iconst 0, 1) := by decide +kernel
theorem dX3_bar_15 : decode cX3_bar 15 = .ok (.ireturn, 1) := by decide +kernel
theorem dX3_bar_16 : decode cX3_bar 16 = .ok (.aload_n 0, 1) := by decide +kernel
theorem dX3_bar_17 : decode cX3_bar 17 = .ok (.getfield 11, 3) := by decide +kernel
theorem dX3_bar_20 : decode cX3_bar 20 = .ok (.iload_n 1, 1) := by decide +kernel
theorem dX3_bar_21 : decode cX3_bar 21 = .ok (.aaload, 1) := by decide +kernel
theorem dX3_bar_22 : decode cX3_bar 22 = .ok (.iload_n 2, 1) := by decide +kernel
theorem dX3_bar_23 : decode cX3_bar 23 = .ok (.iload_n 3, 1) := by decide +kernel
theorem dX3_bar_24 : decode cX3_bar 24 = .ok (.invokevirtual 110, 3) := by decide +kernel
theorem dX3_bar_27 : decode cX3_bar 27 = .ok (.aload_n 0, 1) := by decide +kernel
theorem dX3_bar_28 : decode cX3_bar 28 = .ok (.getfield 11, 3) := by decide +kernel
theorem dX3_bar_31 : decode cX3_bar 31 = .ok (.iload_n 2, 1) := by decide +kernel
theorem dX3_bar_32 : decode cX3_bar 32 = .ok (.aaload, 1) := by decide +kernel
theorem dX3_bar_33 : decode cX3_bar 33 = .ok (.iload_n 1, 1) := by decide +kernel
theorem dX3_bar_34 : decode cX3_bar 34 = .ok (.iload_n 3, 1) := by decide +kernel
theorem dX3_bar_35 : decode cX3_bar 35 = .ok (.invokevirtual 110, 3) := by decide +kernel
theorem dX3_bar_38 : decode cX3_bar 38 = .ok (.iconst 1, 1) := by decide +kernel
theorem dX3_bar_39 : decode cX3_bar 39 = .ok (.ireturn, 1) := by decide +kernel
theorem dX3_in_0 : decode cX3_in 0 = .ok (.aload_n 0, 1) := by decide +kernel
theorem dX3_in_1 : decode cX3_in 1 = .ok (.iconst 0, 1) := by decide +kernel
theorem dX3_in_2 : decode cX3_in 2 = .ok (.putfield 61, 3) := by decide +kernel
theorem dX3_in_5 : decode cX3_in 5 = .ok (.aload_n 0, 1) := by decide +kernel
theorem dX3_in_6 : decode cX3_in 6 = .ok (.iload_n 1, 1) := by decide +kernel
theorem dX3_in_7 : decode cX3_in 7 = .ok (.invokevirtual 74, 3) := by decide +kernel
theorem dX3_in_10 : decode cX3_in 10 = .ok (.ifCond .ne 5, 3) := by decide +kernel
theorem dX3_in_13 : decode cX3_in 13 = .ok (.iconst 0, 1) := by decide +kernel
theorem dX3_in_14 : decode cX3_in 14 = .ok (.ireturn, 1) := by decide +kernel
theorem dX3_in_15 : decode cX3_in 15 = .ok (.aload_n 0, 1) := by decide +kernel
theorem dX3_in_16 : decode cX3_in 16 = .ok (.getfield 11, 3) := by decide +kernel
theorem dX3_in_19 : decode cX3_in 19 = .ok (.iload_n 1, 1) := by decide +kernel
theorem dX3_in_20 : decode cX3_in 20 = .ok (.aaload, 1) := by decide +kernel
theorem dX3_in_21 : decode cX3_in 21 = .ok (.iload_n 2, 1) := by decide +kernel
theorem dX3_in_22 : decode cX3_in 22 = .ok (.putfield 114, 3) := by decide +kernel
theorem dX3_in_25 : decode cX3_in 25 = .ok (.iconst 1, 1) := by decide +kernel
theorem dX3_in_26 : decode cX3_in 26 = .ok (.ireturn, 1) := by decide +kernel
theorem dX3_set_0 : decode cX3_set 0 = .ok (.aload_n 0, 1) := by decide +kernel
theorem dX3_set_1 : decode cX3_set 1 = .ok (.iconst 0, 1) := by decide +kernel
theorem dX3_set_2 : decode cX3_set 2 = .ok (.putfield 61, 3) := by decide +kernel
theorem dX3_set_5 : decode cX3_set 5 = .ok (.iconst (-1), 1) := by decide +kernel
theorem dX3_set_6 : decode cX3_set 6 = .ok (.istore_n 3, 1) := by decide +kernel
theorem dX3_set_7 : decode cX3_set 7 = .ok (.iload_n 1, 1) := by decide +kernel
theorem dX3_set_8 : decode cX3_set 8 = .ok (.ifCond .ne 27, 3) := by decide +kernel
theorem dX3_set_11 : decode cX3_set 11 = .ok (.iload_n 2, 1) := by decide +kernel
theorem dX3_set_12 : decode cX3_set 12 = .ok (.iconst 1, 1) := by decide +kernel
theorem dX3_set_13 : decode cX3_set 13 = .ok (.if_icmp .lt 22, 3) := by decide +kernel
theorem dX3_set_16 : decode cX3_set 16 = .ok (.iload_n 2, 1) := by decide +kernel
theorem dX3_set_17 : decode cX3_set 17 = .ok (.bipush 8, 2) := by decide +kernel
theorem dX3_set_19 : decode cX3_set 19 = .ok (.if_icmp .gt 16, 3) := by decide +kernel
theorem dX3_set_22 : decode cX3_set 22 = .ok (.aload_n 0, 1) := by decide +kernel
theorem dX3_set_23 : decode cX3_set 23 = .ok (.getfield 52, 3) := by decide +kernel
theorem dX3_set_26 : decode cX3_set 26 = .ok (.istore_n 3, 1) := by decide +kernel
theorem dX3_set_27 : decode cX3_set 27 = .ok (.aload_n 0, 1) := by decide +kernel
theorem dX3_set_28 : decode cX3_set 28 = .ok (.iload_n 2, 1) := by decide +kernel
theorem dX3_set_29 : decode cX3_set 29 = .ok (.putfield 52, 3) := by decide +kernel
theorem dX3_set_32 : decode cX3_set 32 = .ok (.goto 58, 3) := by decide +kernel
theorem dX3_set_35 : decode cX3_set 35 = .ok (.iload_n 1, 1) := by decide +kernel
theorem dX3_set_36 : decode cX3_set 36 = .ok (.iconst 1, 1) := by decide +kernel
theorem dX3_set_37 : decode cX3_set 37 = .ok (.if_icmp .ne 27, 3) := by decide +kernel
theorem dX3_set_40 : decode cX3_set 40 = .ok (.iload_n 2, 1) := by decide +kernel
theorem dX3_set_41 : decode cX3_set 41 = .ok (.iconst 2, 1) := by decide +kernel
theorem dX3_set_42 : decode cX3_set 42 = .ok (.if_icmp .lt 22, 3) := by decide +kernel
theorem dX3_set_45 : decode cX3_set 45 = .ok (.iload_n 2, 1) := by decide +kernel
theorem dX3_set_46 : decode cX3_set 46 = .ok (.bipush 10, 2) := by decide +kernel
theorem dX3_set_48 : decode cX3_set 48 = .ok (.if_icmp .gt 16, 3) := by decide +kernel
theorem dX3_set_51 : decode cX3_set 51 = .ok (.aload_n 0, 1) := by decide +kernel
theorem dX3_set_52 : decode cX3_set 52 = .ok (.getfield 55, 3) := by decide +kernel
theorem dX3_set_55 : decode cX3_set 55 = .ok (.istore_n 3, 1) := by decide +kernel
theorem dX3_set_56 : decode cX3_set 56 = .ok (.aload_n 0, 1) := by decide +kernel
theorem dX3_set_57 : decode cX3_set 57 = .ok (.iload_n 2, 1) := by decide +kernel
theorem dX3_set_58 : decode cX3_set 58 = .ok (.putfield 55, 3) := by decide +kernel
theorem dX3_set_61 : decode cX3_set 61 = .ok (.goto 29, 3) := by decide +kernel
theorem dX3_set_64 : decode cX3_set 64 = .ok (.iload_n 1, 1) := by decide +kernel
theorem dX3_set_65 : decode cX3_set 65 = .ok (.iconst 2, 1) := by decide +kernel
theorem dX3_set_66 : decode cX3_set 66 = .ok (.if_icmp .ne 24, 3) := by decide +kernel
theorem dX3_set_69 : decode cX3_set 69 = .ok (.iload_n 2, 1) := by decide +kernel
theorem dX3_set_70 : decode cX3_set 70 = .ok (.ifCond .lt 20, 3) := by decide +kernel
theorem dX3_set_73 : decode cX3_set 73 = .ok (.iload_n 2, 1) := by decide +kernel
theorem dX3_set_74 : decode cX3_set 74 = .ok (.sipush 500, 3) := by decide +kernel
theorem dX3_set_77 : decode cX3_set 77 = .ok (.if_icmp .gt 13, 3) := by decide +kernel
theorem dX3_set_80 : decode cX3_set 80 = .ok (.aload_n 0, 1) := by decide +kernel
theorem dX3_set_81 : decode cX3_set 81 = .ok (.getfield 58, 3) := by decide +kernel
theorem dX3_set_84 : decode cX3_set 84 = .ok (.istore_n 3, 1) := by decide +kernel
theorem dX3_set_85 : decode cX3_set 85 = .ok (.aload_n 0, 1) := by decide +kernel
theorem dX3_set_86 : decode cX3_set 86 = .ok (.iload_n 2, 1) := by decide +kernel
theorem dX3_set_87 : decode cX3_set 87 = .ok (.putfield 58, 3) := by decide +kernel
theorem dX3_set_90 : decode cX3_set 90 = .ok (.iload_n 3, 1) := by decide +kernel
theorem dX3_set_91 : decode cX3_set 91 = .ok (.ireturn, 1) := by decide +kernel
theorem dX3_count_0 : decode cX3_count 0 = .ok (.iload_n 1, 1) := by decide +kernel
theorem dX3_count_1 : decode cX3_count 1 = .ok (.tableswitch 78 0 6 #[43, 48, 53, 58, 63, 68, 73], 43) := by decide +kernel
theorem dX3_count_44 : decode cX3_count 44 = .ok (.aload_n 0, 1) := by decide +kernel
theorem dX3_count_45 : decode cX3_count 45 = .ok (.getfield 42, 3) := by decide +kernel
theorem dX3_count_48 : decode cX3_count 48 = .ok (.ireturn, 1) := by decide +kernel
theorem dX3_count_49 : decode cX3_count 49 = .ok (.aload_n 0, 1) := by decide +kernel
theorem dX3_count_50 : decode cX3_count 50 = .ok (.invokevirtual 117, 3) := by decide +kernel
theorem dX3_count_53 : decode cX3_count 53 = .ok (.ireturn, 1) := by decide +kernel
theorem dX3_count_54 : decode cX3_count 54 = .ok (.aload_n 0, 1) := by decide +kernel
theorem dX3_count_55 : decode cX3_count 55 = .ok (.getfield 46, 3) := by decide +kernel
theorem dX3_count_58 : decode cX3_count 58 = .ok (.ireturn, 1) := by decide +kernel
theorem dX3_count_59 : decode cX3_count 59 = .ok (.aload_n 0, 1) := by decide +kernel
theorem dX3_count_60 : decode cX3_count 60 = .ok (.getfield 49, 3) := by decide +kernel
theorem dX3_count_63 : decode cX3_count 63 = .ok (.ireturn, 1) := by decide +kernel
theorem dX3_count_64 : decode cX3_count 64 = .ok (.aload_n 0, 1) := by decide +kernel
theorem dX3_count_65 : decode cX3_count 65 = .ok (.invokevirtual 121, 3) := by decide +kernel
theorem dX3_count_68 : decode cX3_count 68 = .ok (.ireturn, 1) := by decide +kernel
theorem dX3_count_69 : decode cX3_count 69 = .ok (.aload_n 0, 1) := by decide +kernel
theorem dX3_count_70 : decode cX3_count 70 = .ok (.invokevirtual 124, 3) := by decide +kernel
theorem dX3_count_73 : decode cX3_count 73 = .ok (.ireturn, 1) := by decide +kernel
theorem dX3_count_74 : decode cX3_count 74 = .ok (.aload_n 0, 1) := by decide +kernel
theorem dX3_count_75 : decode cX3_count 75 = .ok (.invokevirtual 127, 3) := by decide +kernel
theorem dX3_count_78 : decode cX3_count 78 = .ok (.ireturn, 1) := by decide +kernel
theorem dX3_count_79 : decode cX3_count 79 = .ok (.iconst (-1), 1) := by decide +kernel
theorem dX3_count_80 : decode cX3_count 80 = .ok (.ireturn, 1) := by decide +kernel
theorem dX3_of_0 : decode cX3_of 0 = .ok (.aload_n 0, 1) := by decide +kernel
theorem dX3_of_1 : decode cX3_of 1 = .ok (.iload_n 1, 1) := by decide +kernel
theorem dX3_of_2 : decode cX3_of 2 = .ok (.invokevirtual 74, 3) := by decide +kernel
theorem dX3_of_5 : decode cX3_of 5 = .ok (.ifCond .ne 13, 3) := by decide +kernel
theorem dX3_of_8 : decode cX3_of 8 = .ok (.new 130, 3) := by decide +kernel
theorem dX3_of_11 : decode cX3_of 11 = .ok (.dup, 1) := by decide +kernel
theorem dX3_of_12 : decode cX3_of 12 = .ok (.ldc 132, 2) := by decide +kernel
theorem dX3_of_14 : decode cX3_of 14 = .ok (.invokespecial 134, 3) := by decide +kernel
theorem dX3_of_17 : decode cX3_of 17 = .ok (.athrow, 1) := by decide +kernel
theorem dX3_of_18 : decode cX3_of 18 = .ok (.aload_n 0, 1) := by decide +kernel
theorem dX3_of_19 : decode cX3_of 19 = .ok (.getfield 11, 3) := by decide +kernel
theorem dX3_of_22 : decode cX3_of 22 = .ok (.iload_n 1, 1) := by decide +kernel
theorem dX3_of_23 : decode cX3_of 23 = .ok (.aaload, 1) := by decide +kernel
theorem dX3_of_24 : decode cX3_of 24 = .ok (.astore_n 3, 1) := by decide +kernel
theorem dX3_of_25 : decode cX3_of 25 = .ok (.iload_n 2, 1) := by decide +kernel
theorem dX3_of_26 : decode cX3_of 26 = .ok (.tableswitch 98 0 7 #[46, 51, 56, 61, 66, 73, 79, 92], 46) := by decide +kernel
theorem dX3_of_72 : decode cX3_of 72 = .ok (.aload_n 3, 1) := by decide +kernel
theorem dX3_of_73 : decode cX3_of 73 = .ok (.invokevirtual 137, 3) := by decide +kernel
theorem dX3_of_76 : decode cX3_of 76 = .ok (.ireturn, 1) := by decide +kernel
theorem dX3_of_77 : decode cX3_of 77 = .ok (.aload_n 3, 1) := by decide +kernel
theorem dX3_of_78 : decode cX3_of 78 = .ok (.invokevirtual 140, 3) := by decide +kernel
theorem dX3_of_81 : decode cX3_of 81 = .ok (.ireturn, 1) := by decide +kernel
theorem dX3_of_82 : decode cX3_of 82 = .ok (.aload_n 3, 1) := by decide +kernel
theorem dX3_of_83 : decode cX3_of 83 = .ok (.getfield 97, 3) := by decide +kernel
theorem dX3_of_86 : decode cX3_of 86 = .ok (.ireturn, 1) := by decide +kernel
theorem dX3_of_87 : decode cX3_of 87 = .ok (.aload_n 3, 1) := by decide +kernel
theorem dX3_of_88 : decode cX3_of 88 = .ok (.getfield 143, 3) := by decide +kernel
theorem dX3_of_91 : decode cX3_of 91 = .ok (.ireturn, 1) := by decide +kernel
theorem dX3_of_92 : decode cX3_of 92 = .ok (.aload_n 0, 1) := by decide +kernel
theorem dX3_of_93 : decode cX3_of 93 = .ok (.getfield 15, 3) := by decide +kernel
theorem dX3_of_96 : decode cX3_of 96 = .ok (.iload_n 1, 1) := by decide +kernel
theorem dX3_of_97 : decode cX3_of 97 = .ok (.iaload, 1) := by decide +kernel
theorem dX3_of_98 : decode cX3_of 98 = .ok (.ireturn, 1) := by decide +kernel
theorem dX3_of_99 : decode cX3_of 99 = .ok (.aload_n 0, 1) := by decide +kernel
theorem dX3_of_100 : decode cX3_of 100 = .ok (.iload_n 1, 1) := by decide +kernel
theorem dX3_of_101 : decode cX3_of 101 = .ok (.invokevirtual 146, 3) := by decide +kernel
theorem dX3_of_104 : decode cX3_of 104 = .ok (.ireturn, 1) := by decide +kernel
theorem dX3_of_105 : decode cX3_of 105 = .ok (.aload_n 3, 1) := by decide +kernel
theorem dX3_of_106 : decode cX3_of 106 = .ok (.getfield 114, 3) := by decide +kernel
theorem dX3_of_109 : decode cX3_of 109 = .ok (.ifCond .eq 7, 3) := by decide +kernel
theorem dX3_of_112 : decode cX3_of 112 = .ok (.iconst 1, 1) := by decide +kernel
theorem dX3_of_113 : decode cX3_of 113 = .ok (.goto 4, 3) := by decide +kernel
theorem dX3_of_116 : decode cX3_of 116 = .ok (.iconst 0, 1) := by decide +kernel
theorem dX3_of_117 : decode cX3_of 117 = .ok (.ireturn, 1) := by decide +kernel
theorem dX3_of_118 : decode cX3_of 118 = .ok (.aload_n 0, 1) := by decide +kernel
theorem dX3_of_119 : decode cX3_of 119 = .ok (.iload_n 1, 1) := by decide +kernel
theorem dX3_of_120 : decode cX3_of 120 = .ok (.invokevirtual 150, 3) := by decide +kernel
theorem dX3_of_123 : decode cX3_of 123 = .ok (.ireturn, 1) := by decide +kernel
theorem dX3_of_124 : decode cX3_of 124 = .ok (.new 130, 3) := by decide +kernel
theorem dX3_of_127 : decode cX3_of 127 = .ok (.dup, 1) := by decide +kernel
theorem dX3_of_128 : decode cX3_of 128 = .ok (.ldc 153, 2) := by decide +kernel
theorem dX3_of_130 : decode cX3_of 130 = .ok (.invokespecial 134, 3) := by decide +kernel
theorem dX3_of_133 : decode cX3_of 133 = .ok (.athrow, 1) := by decide +kernel
theorem dX3_rank_0 : decode cX3_rank 0 = .ok (.aload_n 0, 1) := by decide +kernel
theorem dX3_rank_1 : decode cX3_rank 1 = .ok (.iload_n 1, 1) := by decide +kernel
theorem dX3_rank_2 : decode cX3_rank 2 = .ok (.iload_n 2, 1) := by decide +kernel
theorem dX3_rank_3 : decode cX3_rank 3 = .ok (.invokevirtual 107, 3) := by decide +kernel
theorem dX3_rank_6 : decode cX3_rank 6 = .ok (.ifCond .eq 17, 3) := by decide +kernel
theorem dX3_rank_9 : decode cX3_rank 9 = .ok (.aload_n 0, 1) := by decide +kernel
theorem dX3_rank_10 : decode cX3_rank 10 = .ok (.getfield 11, 3) := by decide +kernel
theorem dX3_rank_13 : decode cX3_rank 13 = .ok (.iload_n 1, 1) := by decide +kernel
theorem dX3_rank_14 : decode cX3_rank 14 = .ok (.aaload, 1) := by decide +kernel
theorem dX3_rank_15 : decode cX3_rank 15 = .ok (.getfield 155, 3) := by decide +kernel
theorem dX3_rank_18 : decode cX3_rank 18 = .ok (.iload_n 2, 1) := by decide +kernel
theorem dX3_rank_19 : decode cX3_rank 19 = .ok (.iaload, 1) := by decide +kernel
theorem dX3_rank_20 : decode cX3_rank 20 = .ok (.goto 4, 3) := by decide +kernel
theorem dX3_rank_23 : decode cX3_rank 23 = .ok (.iconst (-1), 1) := by decide +kernel
theorem dX3_rank_24 : decode cX3_rank 24 = .ok (.ireturn, 1) := by decide +kernel
theorem dX3_can_0 : decode cX3_can 0 = .ok (.aload_n 0, 1) := by decide +kernel
theorem dX3_can_1 : decode cX3_can 1 = .ok (.iload_n 1, 1) := by decide +kernel
theorem dX3_can_2 : decode cX3_can 2 = .ok (.iload_n 2, 1) := by decide +kernel
theorem dX3_can_3 : decode cX3_can 3 = .ok (.invokevirtual 107, 3) := by decide +kernel
theorem dX3_can_6 : decode cX3_can 6 = .ok (.ifCond .eq 12, 3) := by decide +kernel
theorem dX3_can_9 : decode cX3_can 9 = .ok (.aload_n 0, 1) := by decide +kernel
theorem dX3_can_10 : decode cX3_can 10 = .ok (.iload_n 1, 1) := by decide +kernel
theorem dX3_can_11 : decode cX3_can 11 = .ok (.iload_n 2, 1) := by decide +kernel
theorem dX3_can_12 : decode cX3_can 12 = .ok (.invokevirtual 158, 3) := by decide +kernel
theorem dX3_can_15 : decode cX3_can 15 = .ok (.goto 4, 3) := by decide +kernel
theorem dX3_can_18 : decode cX3_can 18 = .ok (.iconst (-1), 1) := by decide +kernel
theorem dX3_can_19 : decode cX3_can 19 = .ok (.ireturn, 1) := by decide +kernel
theorem dX3_week_0 : decode cX3_week 0 = .ok (.aload_n 0, 1) := by decide +kernel
theorem dX3_week_1 : decode cX3_week 1 = .ok (.iload_n 1, 1) := by decide +kernel
theorem dX3_week_2 : decode cX3_week 2 = .ok (.iload_n 2, 1) := by decide +kernel
theorem dX3_week_3 : decode cX3_week 3 = .ok (.invokevirtual 107, 3) := by decide +kernel
theorem dX3_week_6 : decode cX3_week 6 = .ok (.ifCond .eq 12, 3) := by decide +kernel
theorem dX3_week_9 : decode cX3_week 9 = .ok (.aload_n 0, 1) := by decide +kernel
theorem dX3_week_10 : decode cX3_week 10 = .ok (.iload_n 1, 1) := by decide +kernel
theorem dX3_week_11 : decode cX3_week 11 = .ok (.iload_n 2, 1) := by decide +kernel
theorem dX3_week_12 : decode cX3_week 12 = .ok (.invokevirtual 158, 3) := by decide +kernel
theorem dX3_week_15 : decode cX3_week 15 = .ok (.ifCond .eq 5, 3) := by decide +kernel
theorem dX3_week_18 : decode cX3_week 18 = .ok (.iconst (-1), 1) := by decide +kernel
theorem dX3_week_19 : decode cX3_week 19 = .ok (.ireturn, 1) := by decide +kernel
theorem dX3_week_20 : decode cX3_week 20 = .ok (.aload_n 0, 1) := by decide +kernel
theorem dX3_week_21 : decode cX3_week 21 = .ok (.getfield 11, 3) := by decide +kernel
theorem dX3_week_24 : decode cX3_week 24 = .ok (.iload_n 1, 1) := by decide +kernel
theorem dX3_week_25 : decode cX3_week 25 = .ok (.aaload, 1) := by decide +kernel
theorem dX3_week_26 : decode cX3_week 26 = .ok (.getfield 83, 3) := by decide +kernel
theorem dX3_week_29 : decode cX3_week 29 = .ok (.aload_n 0, 1) := by decide +kernel
theorem dX3_week_30 : decode cX3_week 30 = .ok (.getfield 11, 3) := by decide +kernel
theorem dX3_week_33 : decode cX3_week 33 = .ok (.iload_n 2, 1) := by decide +kernel
theorem dX3_week_34 : decode cX3_week 34 = .ok (.aaload, 1) := by decide +kernel
theorem dX3_week_35 : decode cX3_week 35 = .ok (.getfield 77, 3) := by decide +kernel
theorem dX3_week_38 : decode cX3_week 38 = .ok (.invokestatic 162, 3) := by decide +kernel
theorem dX3_week_41 : decode cX3_week 41 = .ok (.ireturn, 1) := by decide +kernel
theorem dX3_put_0 : decode cX3_put 0 = .ok (.aload_n 0, 1) := by decide +kernel
theorem dX3_put_1 : decode cX3_put 1 = .ok (.iconst 0, 1) := by decide +kernel
theorem dX3_put_2 : decode cX3_put 2 = .ok (.putfield 61, 3) := by decide +kernel
theorem dX3_put_5 : decode cX3_put 5 = .ok (.aload_n 0, 1) := by decide +kernel
theorem dX3_put_6 : decode cX3_put 6 = .ok (.iload_n 1, 1) := by decide +kernel
theorem dX3_put_7 : decode cX3_put 7 = .ok (.invokevirtual 74, 3) := by decide +kernel
theorem dX3_put_10 : decode cX3_put 10 = .ok (.ifCond .eq 17, 3) := by decide +kernel
theorem dX3_put_13 : decode cX3_put 13 = .ok (.iload_n 2, 1) := by decide +kernel
theorem dX3_put_14 : decode cX3_put 14 = .ok (.iconst (-1), 1) := by decide +kernel
theorem dX3_put_15 : decode cX3_put 15 = .ok (.if_icmp .eq 14, 3) := by decide +kernel
theorem dX3_put_18 : decode cX3_put 18 = .ok (.aload_n 0, 1) := by decide +kernel
theorem dX3_put_19 : decode cX3_put 19 = .ok (.iload_n 1, 1) := by decide +kernel
theorem dX3_put_20 : decode cX3_put 20 = .ok (.iload_n 2, 1) := by decide +kernel
theorem dX3_put_21 : decode cX3_put 21 = .ok (.invokevirtual 107, 3) := by decide +kernel
theorem dX3_put_24 : decode cX3_put 24 = .ok (.ifCond .ne 5, 3) := by decide +kernel
theorem dX3_put_27 : decode cX3_put 27 = .ok (.iconst 0, 1) := by decide +kernel
theorem dX3_put_28 : decode cX3_put 28 = .ok (.ireturn, 1) := by decide +kernel
theorem dX3_put_29 : decode cX3_put 29 = .ok (.aload_n 0, 1) := by decide +kernel
theorem dX3_put_30 : decode cX3_put 30 = .ok (.getfield 15, 3) := by decide +kernel
theorem dX3_put_33 : decode cX3_put 33 = .ok (.iload_n 1, 1) := by decide +kernel
theorem dX3_put_34 : decode cX3_put 34 = .ok (.iload_n 2, 1) := by decide +kernel
theorem dX3_put_35 : decode cX3_put 35 = .ok (.iastore, 1) := by decide +kernel
theorem dX3_put_36 : decode cX3_put 36 = .ok (.iconst 1, 1) := by decide +kernel
theorem dX3_put_37 : decode cX3_put 37 = .ok (.ireturn, 1) := by decide +kernel
theorem dX3_wrong_0 : decode cX3_wrong 0 = .ok (.aload_n 0, 1) := by decide +kernel
theorem dX3_wrong_1 : decode cX3_wrong 1 = .ok (.invokevirtual 167, 3) := by decide +kernel
theorem dX3_wrong_4 : decode cX3_wrong 4 = .ok (.istore_n 1, 1) := by decide +kernel
theorem dX3_wrong_5 : decode cX3_wrong 5 = .ok (.iload_n 1, 1) := by decide +kernel
theorem dX3_wrong_6 : decode cX3_wrong 6 = .ok (.ifCond .eq 7, 3) := by decide +kernel
theorem dX3_wrong_9 : decode cX3_wrong 9 = .ok (.iload_n 1, 1) := by decide +kernel
theorem dX3_wrong_10 : decode cX3_wrong 10 = .ok (.goto 7, 3) := by decide +kernel
theorem dX3_wrong_13 : decode cX3_wrong 13 = .ok (.aload_n 0, 1) := by decide +kernel
theorem dX3_wrong_14 : decode cX3_wrong 14 = .ok (.invokevirtual 170, 3) := by decide +kernel
theorem dX3_wrong_17 : decode cX3_wrong 17 = .ok (.ireturn, 1) := by decide +kernel
theorem dX3_best_0 : decode cX3_best 0 = .ok (.aload_n 0, 1) := by decide +kernel
