theorem dX4_wish_30 : decode cX4_wish 30 = .ok (.aload_n 0, 1) := by decide +kernel
theorem dX4_wish_31 : decode cX4_wish 31 = .ok (.iload_n 1, 1) := by decide +kernel
theorem dX4_wish_32 : decode cX4_wish 32 = .ok (.iload_n 2, 1) := by decide +kernel
theorem dX4_wish_33 : decode cX4_wish 33 = .ok (.invokevirtual 115, 3) := by decide +kernel
theorem dX4_wish_36 : decode cX4_wish 36 = .ok (.aload_n 0, 1) := by decide +kernel
theorem dX4_wish_37 : decode cX4_wish 37 = .ok (.getfield 41, 3) := by decide +kernel
theorem dX4_wish_40 : decode cX4_wish 40 = .ok (.iload_n 1, 1) := by decide +kernel
theorem dX4_wish_41 : decode cX4_wish 41 = .ok (.iaload, 1) := by decide +kernel
theorem dX4_wish_42 : decode cX4_wish 42 = .ok (.ireturn, 1) := by decide +kernel
theorem dX4_wishes_0 : decode cX4_wishes 0 = .ok (.aload_n 0, 1) := by decide +kernel
theorem dX4_wishes_1 : decode cX4_wishes 1 = .ok (.iconst 0, 1) := by decide +kernel
theorem dX4_wishes_2 : decode cX4_wishes 2 = .ok (.putfield 84, 3) := by decide +kernel
theorem dX4_wishes_5 : decode cX4_wishes 5 = .ok (.aload_n 0, 1) := by decide +kernel
theorem dX4_wishes_6 : decode cX4_wishes 6 = .ok (.iconst 0, 1) := by decide +kernel
theorem dX4_wishes_7 : decode cX4_wishes 7 = .ok (.putfield 98, 3) := by decide +kernel
theorem dX4_wishes_10 : decode cX4_wishes 10 = .ok (.aload_n 0, 1) := by decide +kernel
theorem dX4_wishes_11 : decode cX4_wishes 11 = .ok (.iload_n 1, 1) := by decide +kernel
theorem dX4_wishes_12 : decode cX4_wishes 12 = .ok (.invokevirtual 94, 3) := by decide +kernel
theorem dX4_wishes_15 : decode cX4_wishes 15 = .ok (.ifCond .eq 21, 3) := by decide +kernel
theorem dX4_wishes_18 : decode cX4_wishes 18 = .ok (.iload_n 2, 1) := by decide +kernel
theorem dX4_wishes_19 : decode cX4_wishes 19 = .ok (.i2l, 1) := by decide +kernel
theorem dX4_wishes_20 : decode cX4_wishes 20 = .ok (.lconst 0, 1) := by decide +kernel
theorem dX4_wishes_21 : decode cX4_wishes 21 = .ok (.ldc2_w 119, 3) := by decide +kernel
theorem dX4_wishes_24 : decode cX4_wishes 24 = .ok (.invokestatic 90, 3) := by decide +kernel
theorem dX4_wishes_27 : decode cX4_wishes 27 = .ok (.ifCond .eq 9, 3) := by decide +kernel
theorem dX4_wishes_30 : decode cX4_wishes 30 = .ok (.iload_n 3, 1) := by decide +kernel
theorem dX4_wishes_31 : decode cX4_wishes 31 = .ok (.bipush 20, 2) := by decide +kernel
theorem dX4_wishes_33 : decode cX4_wishes 33 = .ok (.if_icmp .le 5, 3) := by decide +kernel
theorem dX4_wishes_36 : decode cX4_wishes 36 = .ok (.iconst (-1), 1) := by decide +kernel
theorem dX4_wishes_37 : decode cX4_wishes 37 = .ok (.ireturn, 1) := by decide +kernel
theorem dX4_wishes_38 : decode cX4_wishes 38 = .ok (.iload_n 3, 1) := by decide +kernel
theorem dX4_wishes_39 : decode cX4_wishes 39 = .ok (.ifCond .ge 11, 3) := by decide +kernel
theorem dX4_wishes_42 : decode cX4_wishes 42 = .ok (.iload_n 2, 1) := by decide +kernel
theorem dX4_wishes_43 : decode cX4_wishes 43 = .ok (.iconst 2, 1) := by decide +kernel
theorem dX4_wishes_44 : decode cX4_wishes 44 = .ok (.if_icmp .eq 6, 3) := by decide +kernel
theorem dX4_wishes_47 : decode cX4_wishes 47 = .ok (.bipush (-2), 2) := by decide +kernel
theorem dX4_wishes_49 : decode cX4_wishes 49 = .ok (.ireturn, 1) := by decide +kernel
theorem dX4_wishes_50 : decode cX4_wishes 50 = .ok (.aload_n 0, 1) := by decide +kernel
theorem dX4_wishes_51 : decode cX4_wishes 51 = .ok (.getfield 41, 3) := by decide +kernel
theorem dX4_wishes_54 : decode cX4_wishes 54 = .ok (.iload_n 1, 1) := by decide +kernel
theorem dX4_wishes_55 : decode cX4_wishes 55 = .ok (.iconst 0, 1) := by decide +kernel
theorem dX4_wishes_56 : decode cX4_wishes 56 = .ok (.iastore, 1) := by decide +kernel
theorem dX4_wishes_57 : decode cX4_wishes 57 = .ok (.iconst 0, 1) := by decide +kernel
theorem dX4_wishes_58 : decode cX4_wishes 58 = .ok (.istore 6, 2) := by decide +kernel
theorem dX4_wishes_60 : decode cX4_wishes 60 = .ok (.iload 6, 2) := by decide +kernel
theorem dX4_wishes_62 : decode cX4_wishes 62 = .ok (.iload_n 3, 1) := by decide +kernel
theorem dX4_wishes_63 : decode cX4_wishes 63 = .ok (.if_icmp .ge 72, 3) := by decide +kernel
theorem dX4_wishes_66 : decode cX4_wishes 66 = .ok (.iload_n 2, 1) := by decide +kernel
theorem dX4_wishes_67 : decode cX4_wishes 67 = .ok (.iconst 2, 1) := by decide +kernel
theorem dX4_wishes_68 : decode cX4_wishes 68 = .ok (.if_icmp .eq 67, 3) := by decide +kernel
theorem dX4_wishes_71 : decode cX4_wishes 71 = .ok (.iload 4, 2) := by decide +kernel
theorem dX4_wishes_73 : decode cX4_wishes 73 = .ok (.iload 6, 2) := by decide +kernel
theorem dX4_wishes_75 : decode cX4_wishes 75 = .ok (.iload 5, 2) := by decide +kernel
theorem dX4_wishes_77 : decode cX4_wishes 77 = .ok (.imul, 1) := by decide +kernel
theorem dX4_wishes_78 : decode cX4_wishes 78 = .ok (.iadd, 1) := by decide +kernel
theorem dX4_wishes_79 : decode cX4_wishes 79 = .ok (.istore 7, 2) := by decide +kernel
theorem dX4_wishes_81 : decode cX4_wishes 81 = .ok (.iload_n 2, 1) := by decide +kernel
theorem dX4_wishes_82 : decode cX4_wishes 82 = .ok (.ifCond .ne 9, 3) := by decide +kernel
theorem dX4_wishes_85 : decode cX4_wishes 85 = .ok (.iload 7, 2) := by decide +kernel
theorem dX4_wishes_87 : decode cX4_wishes 87 = .ok (.i2b, 1) := by decide +kernel
theorem dX4_wishes_88 : decode cX4_wishes 88 = .ok (.goto 5, 3) := by decide +kernel
theorem dX4_wishes_91 : decode cX4_wishes 91 = .ok (.iload 7, 2) := by decide +kernel
theorem dX4_wishes_93 : decode cX4_wishes 93 = .ok (.istore 7, 2) := by decide +kernel
theorem dX4_wishes_95 : decode cX4_wishes 95 = .ok (.aload_n 0, 1) := by decide +kernel
theorem dX4_wishes_96 : decode cX4_wishes 96 = .ok (.iload_n 1, 1) := by decide +kernel
theorem dX4_wishes_97 : decode cX4_wishes 97 = .ok (.iload 7, 2) := by decide +kernel
theorem dX4_wishes_99 : decode cX4_wishes 99 = .ok (.invokevirtual 107, 3) := by decide +kernel
theorem dX4_wishes_102 : decode cX4_wishes 102 = .ok (.ifCond .eq 13, 3) := by decide +kernel
theorem dX4_wishes_105 : decode cX4_wishes 105 = .ok (.aload_n 0, 1) := by decide +kernel
theorem dX4_wishes_106 : decode cX4_wishes 106 = .ok (.iload_n 1, 1) := by decide +kernel
theorem dX4_wishes_107 : decode cX4_wishes 107 = .ok (.iload 7, 2) := by decide +kernel
theorem dX4_wishes_109 : decode cX4_wishes 109 = .ok (.invokevirtual 111, 3) := by decide +kernel
theorem dX4_wishes_112 : decode cX4_wishes 112 = .ok (.ifCond .le 10, 3) := by decide +kernel
theorem dX4_wishes_115 : decode cX4_wishes 115 = .ok (.aload_n 0, 1) := by decide +kernel
theorem dX4_wishes_116 : decode cX4_wishes 116 = .ok (.getfield 41, 3) := by decide +kernel
theorem dX4_wishes_119 : decode cX4_wishes 119 = .ok (.iload_n 1, 1) := by decide +kernel
theorem dX4_wishes_120 : decode cX4_wishes 120 = .ok (.iaload, 1) := by decide +kernel
theorem dX4_wishes_121 : decode cX4_wishes 121 = .ok (.ireturn, 1) := by decide +kernel
theorem dX4_wishes_122 : decode cX4_wishes 122 = .ok (.aload_n 0, 1) := by decide +kernel
theorem dX4_wishes_123 : decode cX4_wishes 123 = .ok (.iload_n 1, 1) := by decide +kernel
theorem dX4_wishes_124 : decode cX4_wishes 124 = .ok (.iload 7, 2) := by decide +kernel
theorem dX4_wishes_126 : decode cX4_wishes 126 = .ok (.invokevirtual 115, 3) := by decide +kernel
theorem dX4_wishes_129 : decode cX4_wishes 129 = .ok (.iinc 6 1, 3) := by decide +kernel
theorem dX4_wishes_132 : decode cX4_wishes 132 = .ok (.goto (-72), 3) := by decide +kernel
theorem dX4_wishes_135 : decode cX4_wishes 135 = .ok (.aload_n 0, 1) := by decide +kernel
theorem dX4_wishes_136 : decode cX4_wishes 136 = .ok (.getfield 41, 3) := by decide +kernel
theorem dX4_wishes_139 : decode cX4_wishes 139 = .ok (.iload_n 1, 1) := by decide +kernel
theorem dX4_wishes_140 : decode cX4_wishes 140 = .ok (.iaload, 1) := by decide +kernel
theorem dX4_wishes_141 : decode cX4_wishes 141 = .ok (.ireturn, 1) := by decide +kernel
theorem dX4_bar_0 : decode cX4_bar 0 = .ok (.aload_n 0, 1) := by decide +kernel
theorem dX4_bar_1 : decode cX4_bar 1 = .ok (.iconst 0, 1) := by decide +kernel
theorem dX4_bar_2 : decode cX4_bar 2 = .ok (.putfield 84, 3) := by decide +kernel
theorem dX4_bar_5 : decode cX4_bar 5 = .ok (.aload_n 0, 1) := by decide +kernel
theorem dX4_bar_6 : decode cX4_bar 6 = .ok (.iconst 0, 1) := by decide +kernel
theorem dX4_bar_7 : decode cX4_bar 7 = .ok (.putfield 98, 3) := by decide +kernel
theorem dX4_bar_10 : decode cX4_bar 10 = .ok (.aload_n 0, 1) := by decide +kernel
theorem dX4_bar_11 : decode cX4_bar 11 = .ok (.iload_n 1, 1) := by decide +kernel
theorem dX4_bar_12 : decode cX4_bar 12 = .ok (.iload_n 2, 1) := by decide +kernel
theorem dX4_bar_13 : decode cX4_bar 13 = .ok (.invokevirtual 107, 3) := by decide +kernel
theorem dX4_bar_16 : decode cX4_bar 16 = .ok (.ifCond .ne 5, 3) := by decide +kernel
theorem dX4_bar_19 : decode cX4_bar 19 = .ok (.iconst 0, 1) := by decide +kernel
theorem dX4_bar_20 : decode cX4_bar 20 = .ok (.ireturn, 1) := by decide +kernel
theorem dX4_bar_21 : decode cX4_bar 21 = .ok (.aload_n 0, 1) := by decide +kernel
theorem dX4_bar_22 : decode cX4_bar 22 = .ok (.getfield 47, 3) := by decide +kernel
theorem dX4_bar_25 : decode cX4_bar 25 = .ok (.bipush 10, 2) := by decide +kernel
theorem dX4_bar_27 : decode cX4_bar 27 = .ok (.iload_n 1, 1) := by decide +kernel
theorem dX4_bar_28 : decode cX4_bar 28 = .ok (.imul, 1) := by decide +kernel
theorem dX4_bar_29 : decode cX4_bar 29 = .ok (.iload_n 2, 1) := by decide +kernel
theorem dX4_bar_30 : decode cX4_bar 30 = .ok (.iadd, 1) := by decide +kernel
theorem dX4_bar_31 : decode cX4_bar 31 = .ok (.iload_n 3, 1) := by decide +kernel
theorem dX4_bar_32 : decode cX4_bar 32 = .ok (.bastore, 1) := by decide +kernel
theorem dX4_bar_33 : decode cX4_bar 33 = .ok (.aload_n 0, 1) := by decide +kernel
theorem dX4_bar_34 : decode cX4_bar 34 = .ok (.getfield 47, 3) := by decide +kernel
theorem dX4_bar_37 : decode cX4_bar 37 = .ok (.bipush 10, 2) := by decide +kernel
theorem dX4_bar_39 : decode cX4_bar 39 = .ok (.iload_n 2, 1) := by decide +kernel
theorem dX4_bar_40 : decode cX4_bar 40 = .ok (.imul, 1) := by decide +kernel
theorem dX4_bar_41 : decode cX4_bar 41 = .ok (.iload_n 1, 1) := by decide +kernel
theorem dX4_bar_42 : decode cX4_bar 42 = .ok (.iadd, 1) := by decide +kernel
theorem dX4_bar_43 : decode cX4_bar 43 = .ok (.iload_n 3, 1) := by decide +kernel
theorem dX4_bar_44 : decode cX4_bar 44 = .ok (.bastore, 1) := by decide +kernel
theorem dX4_bar_45 : decode cX4_bar 45 = .ok (.iconst 1, 1) := by decide +kernel
theorem dX4_bar_46 : decode cX4_bar 46 = .ok (.ireturn, 1) := by decide +kernel
theorem dX4_in_0 : decode cX4_in 0 = .ok (.aload_n 0, 1) := by decide +kernel
theorem dX4_in_1 : decode cX4_in 1 = .ok (.iconst 0, 1) := by decide +kernel
theorem dX4_in_2 : decode cX4_in 2 = .ok (.putfield 84, 3) := by decide +kernel
theorem dX4_in_5 : decode cX4_in 5 = .ok (.aload_n 0, 1) := by decide +kernel
theorem dX4_in_6 : decode cX4_in 6 = .ok (.iconst 0, 1) := by decide +kernel
theorem dX4_in_7 : decode cX4_in 7 = .ok (.putfield 98, 3) := by decide +kernel
theorem dX4_in_10 : decode cX4_in 10 = .ok (.aload_n 0, 1) := by decide +kernel
theorem dX4_in_11 : decode cX4_in 11 = .ok (.iload_n 1, 1) := by decide +kernel
theorem dX4_in_12 : decode cX4_in 12 = .ok (.invokevirtual 94, 3) := by decide +kernel
theorem dX4_in_15 : decode cX4_in 15 = .ok (.ifCond .ne 5, 3) := by decide +kernel
theorem dX4_in_18 : decode cX4_in 18 = .ok (.iconst 0, 1) := by decide +kernel
theorem dX4_in_19 : decode cX4_in 19 = .ok (.ireturn, 1) := by decide +kernel
theorem dX4_in_20 : decode cX4_in 20 = .ok (.aload_n 0, 1) := by decide +kernel
theorem dX4_in_21 : decode cX4_in 21 = .ok (.getfield 38, 3) := by decide +kernel
theorem dX4_in_24 : decode cX4_in 24 = .ok (.iload_n 1, 1) := by decide +kernel
theorem dX4_in_25 : decode cX4_in 25 = .ok (.iload_n 2, 1) := by decide +kernel
theorem dX4_in_26 : decode cX4_in 26 = .ok (.bastore, 1) := by decide +kernel
theorem dX4_in_27 : decode cX4_in 27 = .ok (.iconst 1, 1) := by decide +kernel
theorem dX4_in_28 : decode cX4_in 28 = .ok (.ireturn, 1) := by decide +kernel
theorem dX4_set_0 : decode cX4_set 0 = .ok (.aload_n 0, 1) := by decide +kernel
theorem dX4_set_1 : decode cX4_set 1 = .ok (.iconst 0, 1) := by decide +kernel
theorem dX4_set_2 : decode cX4_set 2 = .ok (.putfield 84, 3) := by decide +kernel
theorem dX4_set_5 : decode cX4_set 5 = .ok (.aload_n 0, 1) := by decide +kernel
theorem dX4_set_6 : decode cX4_set 6 = .ok (.iconst 0, 1) := by decide +kernel
theorem dX4_set_7 : decode cX4_set 7 = .ok (.putfield 98, 3) := by decide +kernel
theorem dX4_set_10 : decode cX4_set 10 = .ok (.iload_n 1, 1) := by decide +kernel
theorem dX4_set_11 : decode cX4_set 11 = .ok (.ifCond .ne 10, 3) := by decide +kernel
theorem dX4_set_14 : decode cX4_set 14 = .ok (.aload_n 0, 1) := by decide +kernel
theorem dX4_set_15 : decode cX4_set 15 = .ok (.getfield 53, 3) := by decide +kernel
theorem dX4_set_18 : decode cX4_set 18 = .ok (.goto 19, 3) := by decide +kernel
theorem dX4_set_21 : decode cX4_set 21 = .ok (.iload_n 1, 1) := by decide +kernel
theorem dX4_set_22 : decode cX4_set 22 = .ok (.iconst 1, 1) := by decide +kernel
theorem dX4_set_23 : decode cX4_set 23 = .ok (.if_icmp .ne 10, 3) := by decide +kernel
theorem dX4_set_26 : decode cX4_set 26 = .ok (.aload_n 0, 1) := by decide +kernel
theorem dX4_set_27 : decode cX4_set 27 = .ok (.getfield 57, 3) := by decide +kernel
theorem dX4_set_30 : decode cX4_set 30 = .ok (.goto 7, 3) := by decide +kernel
theorem dX4_set_33 : decode cX4_set 33 = .ok (.aload_n 0, 1) := by decide +kernel
theorem dX4_set_34 : decode cX4_set 34 = .ok (.getfield 121, 3) := by decide +kernel
theorem dX4_set_37 : decode cX4_set 37 = .ok (.istore_n 3, 1) := by decide +kernel
theorem dX4_set_38 : decode cX4_set 38 = .ok (.iload_n 1, 1) := by decide +kernel
theorem dX4_set_39 : decode cX4_set 39 = .ok (.ifCond .ne 23, 3) := by decide +kernel
theorem dX4_set_42 : decode cX4_set 42 = .ok (.iload_n 2, 1) := by decide +kernel
theorem dX4_set_43 : decode cX4_set 43 = .ok (.i2l, 1) := by decide +kernel
theorem dX4_set_44 : decode cX4_set 44 = .ok (.lconst 1, 1) := by decide +kernel
theorem dX4_set_45 : decode cX4_set 45 = .ok (.ldc2_w 124, 3) := by decide +kernel
theorem dX4_set_48 : decode cX4_set 48 = .ok (.invokestatic 90, 3) := by decide +kernel
theorem dX4_set_51 : decode cX4_set 51 = .ok (.ifCond .eq 11, 3) := by decide +kernel
theorem dX4_set_54 : decode cX4_set 54 = .ok (.aload_n 0, 1) := by decide +kernel
theorem dX4_set_55 : decode cX4_set 55 = .ok (.iload_n 2, 1) := by decide +kernel
theorem dX4_set_56 : decode cX4_set 56 = .ok (.putfield 53, 3) := by decide +kernel
theorem dX4_set_59 : decode cX4_set 59 = .ok (.goto 57, 3) := by decide +kernel
theorem dX4_set_62 : decode cX4_set 62 = .ok (.iload_n 1, 1) := by decide +kernel
theorem dX4_set_63 : decode cX4_set 63 = .ok (.iconst 1, 1) := by decide +kernel
theorem dX4_set_64 : decode cX4_set 64 = .ok (.if_icmp .ne 25, 3) := by decide +kernel
theorem dX4_set_67 : decode cX4_set 67 = .ok (.iload_n 2, 1) := by decide +kernel
theorem dX4_set_68 : decode cX4_set 68 = .ok (.i2l, 1) := by decide +kernel
theorem dX4_set_69 : decode cX4_set 69 = .ok (.ldc2_w 119, 3) := by decide +kernel
theorem dX4_set_72 : decode cX4_set 72 = .ok (.ldc2_w 126, 3) := by decide +kernel
theorem dX4_set_75 : decode cX4_set 75 = .ok (.invokestatic 90, 3) := by decide +kernel
theorem dX4_set_78 : decode cX4_set 78 = .ok (.ifCond .eq 11, 3) := by decide +kernel
theorem dX4_set_81 : decode cX4_set 81 = .ok (.aload_n 0, 1) := by decide +kernel
theorem dX4_set_82 : decode cX4_set 82 = .ok (.iload_n 2, 1) := by decide +kernel
theorem dX4_set_83 : decode cX4_set 83 = .ok (.putfield 57, 3) := by decide +kernel
theorem dX4_set_86 : decode cX4_set 86 = .ok (.goto 30, 3) := by decide +kernel
theorem dX4_set_89 : decode cX4_set 89 = .ok (.iload_n 1, 1) := by decide +kernel
theorem dX4_set_90 : decode cX4_set 90 = .ok (.iconst 2, 1) := by decide +kernel
theorem dX4_set_91 : decode cX4_set 91 = .ok (.if_icmp .ne 23, 3) := by decide +kernel
theorem dX4_set_94 : decode cX4_set 94 = .ok (.iload_n 2, 1) := by decide +kernel
theorem dX4_set_95 : decode cX4_set 95 = .ok (.i2l, 1) := by decide +kernel
theorem dX4_set_96 : decode cX4_set 96 = .ok (.lconst 0, 1) := by decide +kernel
theorem dX4_set_97 : decode cX4_set 97 = .ok (.ldc2_w 128, 3) := by decide +kernel
theorem dX4_set_100 : decode cX4_set 100 = .ok (.invokestatic 90, 3) := by decide +kernel
theorem dX4_set_103 : decode cX4_set 103 = .ok (.ifCond .eq 11, 3) := by decide +kernel
theorem dX4_set_106 : decode cX4_set 106 = .ok (.aload_n 0, 1) := by decide +kernel
theorem dX4_set_107 : decode cX4_set 107 = .ok (.iload_n 2, 1) := by decide +kernel
theorem dX4_set_108 : decode cX4_set 108 = .ok (.putfield 121, 3) := by decide +kernel
theorem dX4_set_111 : decode cX4_set 111 = .ok (.goto 5, 3) := by decide +kernel
theorem dX4_set_114 : decode cX4_set 114 = .ok (.iconst (-1), 1) := by decide +kernel
theorem dX4_set_115 : decode cX4_set 115 = .ok (.ireturn, 1) := by decide +kernel
theorem dX4_set_116 : decode cX4_set 116 = .ok (.iload_n 3, 1) := by decide +kernel
theorem dX4_set_117 : decode cX4_set 117 = .ok (.ireturn, 1) := by decide +kernel
theorem dX4_sleeps_0 : decode cX4_sleeps 0 = .ok (.aload_n 0, 1) := by decide +kernel
theorem dX4_sleeps_1 : decode cX4_sleeps 1 = .ok (.getfield 13, 3) := by decide +kernel
theorem dX4_sleeps_4 : decode cX4_sleeps 4 = .ok (.iload_n 1, 1) := by decide +kernel
theorem dX4_sleeps_5 : decode cX4_sleeps 5 = .ok (.iaload, 1) := by decide +kernel
theorem dX4_sleeps_6 : decode cX4_sleeps 6 = .ok (.aload_n 0, 1) := by decide +kernel
theorem dX4_sleeps_7 : decode cX4_sleeps 7 = .ok (.getfield 9, 3) := by decide +kernel
theorem dX4_sleeps_10 : decode cX4_sleeps 10 = .ok (.iload_n 1, 1) := by decide +kernel
theorem dX4_sleeps_11 : decode cX4_sleeps 11 = .ok (.iaload, 1) := by decide +kernel
theorem dX4_sleeps_12 : decode cX4_sleeps 12 = .ok (.iconst 2, 1) := by decide +kernel
theorem dX4_sleeps_13 : decode cX4_sleeps 13 = .ok (.irem, 1) := by decide +kernel
theorem dX4_sleeps_14 : decode cX4_sleeps 14 = .ok (.isub, 1) := by decide +kernel
theorem dX4_sleeps_15 : decode cX4_sleeps 15 = .ok (.ireturn, 1) := by decide +kernel
theorem dX4_worth_0 : decode cX4_worth 0 = .ok (.bipush 10, 2) := by decide +kernel
theorem dX4_worth_2 : decode cX4_worth 2 = .ok (.aload_n 0, 1) := by decide +kernel
theorem dX4_worth_3 : decode cX4_worth 3 = .ok (.iload_n 1, 1) := by decide +kernel
theorem dX4_worth_4 : decode cX4_worth 4 = .ok (.invokevirtual 130, 3) := by decide +kernel
theorem dX4_worth_7 : decode cX4_worth 7 = .ok (.imul, 1) := by decide +kernel
theorem dX4_worth_8 : decode cX4_worth 8 = .ok (.aload_n 0, 1) := by decide +kernel
theorem dX4_worth_9 : decode cX4_worth 9 = .ok (.getfield 9, 3) := by decide +kernel
theorem dX4_worth_12 : decode cX4_worth 12 = .ok (.iload_n 1, 1) := by decide +kernel
theorem dX4_worth_13 : decode cX4_worth 13 = .ok (.iaload, 1) := by decide +kernel
theorem dX4_worth_14 : decode cX4_worth 14 = .ok (.iconst 2, 1) := by decide +kernel
theorem dX4_worth_15 : decode cX4_worth 15 = .ok (.if_icmp .ne 7, 3) := by decide +kernel
theorem dX4_worth_18 : decode cX4_worth 18 = .ok (.iconst 5, 1) := by decide +kernel
theorem dX4_worth_19 : decode cX4_worth 19 = .ok (.goto 19, 3) := by decide +kernel
theorem dX4_worth_22 : decode cX4_worth 22 = .ok (.aload_n 0, 1) := by decide +kernel
theorem dX4_worth_23 : decode cX4_worth 23 = .ok (.getfield 9, 3) := by decide +kernel
theorem dX4_worth_26 : decode cX4_worth 26 = .ok (.iload_n 1, 1) := by decide +kernel
theorem dX4_worth_27 : decode cX4_worth 27 = .ok (.iaload, 1) := by decide +kernel
theorem dX4_worth_28 : decode cX4_worth 28 = .ok (.iconst 3, 1) := by decide +kernel
theorem dX4_worth_29 : decode cX4_worth 29 = .ok (.if_icmp .ne 8, 3) := by decide +kernel
theorem dX4_worth_32 : decode cX4_worth 32 = .ok (.bipush 15, 2) := by decide +kernel
theorem dX4_worth_34 : decode cX4_worth 34 = .ok (.goto 4, 3) := by decide +kernel
theorem dX4_worth_37 : decode cX4_worth 37 = .ok (.iconst 0, 1) := by decide +kernel
theorem dX4_worth_38 : decode cX4_worth 38 = .ok (.iadd, 1) := by decide +kernel
theorem dX4_worth_39 : decode cX4_worth 39 = .ok (.ireturn, 1) := by decide +kernel
theorem dX4_barrier_0 : decode cX4_barrier 0 = .ok (.aload_n 0, 1) := by decide +kernel
theorem dX4_barrier_1 : decode cX4_barrier 1 = .ok (.getfield 38, 3) := by decide +kernel
theorem dX4_barrier_4 : decode cX4_barrier 4 = .ok (.iload_n 1, 1) := by decide +kernel
theorem dX4_barrier_5 : decode cX4_barrier 5 = .ok (.baload, 1) := by decide +kernel
theorem dX4_barrier_6 : decode cX4_barrier 6 = .ok (.ifCond .eq 12, 3) := by decide +kernel
theorem dX4_barrier_9 : decode cX4_barrier 9 = .ok (.aload_n 0, 1) := by decide +kernel
theorem dX4_barrier_10 : decode cX4_barrier 10 = .ok (.getfield 38, 3) := by decide +kernel
theorem dX4_barrier_13 : decode cX4_barrier 13 = .ok (.iload_n 2, 1) := by decide +kernel
theorem dX4_barrier_14 : decode cX4_barrier 14 = .ok (.baload, 1) := by decide +kernel
theorem dX4_barrier_15 : decode cX4_barrier 15 = .ok (.ifCond .ne 5, 3) := by decide +kernel
theorem dX4_barrier_18 : decode cX4_barrier 18 = .ok (.iconst 1, 1) := by decide +kernel
theorem dX4_barrier_19 : decode cX4_barrier 19 = .ok (.ireturn, 1) := by decide +kernel
theorem dX4_barrier_20 : decode cX4_barrier 20 = .ok (.aload_n 0, 1) := by decide +kernel
theorem dX4_barrier_21 : decode cX4_barrier 21 = .ok (.getfield 47, 3) := by decide +kernel
theorem dX4_barrier_24 : decode cX4_barrier 24 = .ok (.bipush 10, 2) := by decide +kernel
theorem dX4_barrier_26 : decode cX4_barrier 26 = .ok (.iload_n 1, 1) := by decide +kernel
theorem dX4_barrier_27 : decode cX4_barrier 27 = .ok (.imul, 1) := by decide +kernel
theorem dX4_barrier_28 : decode cX4_barrier 28 = .ok (.iload_n 2, 1) := by decide +kernel
theorem dX4_barrier_29 : decode cX4_barrier 29 = .ok (.iadd, 1) := by decide +kernel
theorem dX4_barrier_30 : decode cX4_barrier 30 = .ok (.baload, 1) := by decide +kernel
theorem dX4_barrier_31 : decode cX4_barrier 31 = .ok (.ifCond .eq 5, 3) := by decide +kernel
theorem dX4_barrier_34 : decode cX4_barrier 34 = .ok (.iconst 2, 1) := by decide +kernel
theorem dX4_barrier_35 : decode cX4_barrier 35 = .ok (.ireturn, 1) := by decide +kernel
theorem dX4_barrier_36 : decode cX4_barrier 36 = .ok (.aload_n 0, 1) := by decide +kernel
theorem dX4_barrier_37 : decode cX4_barrier 37 = .ok (.getfield 16, 3) := by decide +kernel
theorem dX4_barrier_40 : decode cX4_barrier 40 = .ok (.iload_n 1, 1) := by decide +kernel
theorem dX4_barrier_41 : decode cX4_barrier 41 = .ok (.iaload, 1) := by decide +kernel
theorem dX4_barrier_42 : decode cX4_barrier 42 = .ok (.aload_n 0, 1) := by decide +kernel
theorem dX4_barrier_43 : decode cX4_barrier 43 = .ok (.iload_n 2, 1) := by decide +kernel
theorem dX4_barrier_44 : decode cX4_barrier 44 = .ok (.invokevirtual 130, 3) := by decide +kernel
theorem dX4_barrier_47 : decode cX4_barrier 47 = .ok (.if_icmp .le 5, 3) := by decide +kernel
theorem dX4_barrier_50 : decode cX4_barrier 50 = .ok (.iconst 3, 1) := by decide +kernel
theorem dX4_barrier_51 : decode cX4_barrier 51 = .ok (.ireturn, 1) := by decide +kernel
theorem dX4_barrier_52 : decode cX4_barrier 52 = .ok (.aload_n 0, 1) := by decide +kernel
theorem dX4_barrier_53 : decode cX4_barrier 53 = .ok (.getfield 19, 3) := by decide +kernel
theorem dX4_barrier_56 : decode cX4_barrier 56 = .ok (.iload_n 1, 1) := by decide +kernel
theorem dX4_barrier_57 : decode cX4_barrier 57 = .ok (.baload, 1) := by decide +kernel
theorem dX4_barrier_58 : decode cX4_barrier 58 = .ok (.ifCond .eq 15, 3) := by decide +kernel
theorem dX4_barrier_61 : decode cX4_barrier 61 = .ok (.aload_n 0, 1) := by decide +kernel
theorem dX4_barrier_62 : decode cX4_barrier 62 = .ok (.getfield 9, 3) := by decide +kernel
theorem dX4_barrier_65 : decode cX4_barrier 65 = .ok (.iload_n 2, 1) := by decide +kernel
theorem dX4_barrier_66 : decode cX4_barrier 66 = .ok (.iaload, 1) := by decide +kernel
theorem dX4_barrier_67 : decode cX4_barrier 67 = .ok (.iconst 2, 1) := by decide +kernel
theorem dX4_barrier_68 : decode cX4_barrier 68 = .ok (.if_icmp .ge 5, 3) := by decide +kernel
theorem dX4_barrier_71 : decode cX4_barrier 71 = .ok (.iconst 4, 1) := by decide +kernel
theorem dX4_barrier_72 : decode cX4_barrier 72 = .ok (.ireturn, 1) := by decide +kernel
theorem dX4_barrier_73 : decode cX4_barrier 73 = .ok (.aload_n 0, 1) := by decide +kernel
theorem dX4_barrier_74 : decode cX4_barrier 74 = .ok (.getfield 32, 3) := by decide +kernel
theorem dX4_barrier_77 : decode cX4_barrier 77 = .ok (.iload_n 1, 1) := by decide +kernel
theorem dX4_barrier_78 : decode cX4_barrier 78 = .ok (.iaload, 1) := by decide +kernel
theorem dX4_barrier_79 : decode cX4_barrier 79 = .ok (.aload_n 0, 1) := by decide +kernel
theorem dX4_barrier_80 : decode cX4_barrier 80 = .ok (.getfield 26, 3) := by decide +kernel
theorem dX4_barrier_83 : decode cX4_barrier 83 = .ok (.iload_n 2, 1) := by decide +kernel
theorem dX4_barrier_84 : decode cX4_barrier 84 = .ok (.iaload, 1) := by decide +kernel
theorem dX4_barrier_85 : decode cX4_barrier 85 = .ok (.invokestatic 134, 3) := by decide +kernel
theorem dX4_barrier_88 : decode cX4_barrier 88 = .ok (.aload_n 0, 1) := by decide +kernel
theorem dX4_barrier_89 : decode cX4_barrier 89 = .ok (.getfield 29, 3) := by decide +kernel
theorem dX4_barrier_92 : decode cX4_barrier 92 = .ok (.iload_n 1, 1) := by decide +kernel
theorem dX4_barrier_93 : decode cX4_barrier 93 = .ok (.iaload, 1) := by decide +kernel
theorem dX4_barrier_94 : decode cX4_barrier 94 = .ok (.aload_n 0, 1) := by decide +kernel
theorem dX4_barrier_95 : decode cX4_barrier 95 = .ok (.getfield 23, 3) := by decide +kernel
theorem dX4_barrier_98 : decode cX4_barrier 98 = .ok (.iload_n 2, 1) := by decide +kernel
theorem dX4_barrier_99 : decode cX4_barrier 99 = .ok (.iaload, 1) := by decide +kernel
theorem dX4_barrier_100 : decode cX4_barrier 100 = .ok (.invokestatic 139, 3) := by decide +kernel
theorem dX4_barrier_103 : decode cX4_barrier 103 = .ok (.isub, 1) := by decide +kernel
theorem dX4_barrier_104 : decode cX4_barrier 104 = .ok (.iconst 1, 1) := by decide +kernel
theorem dX4_barrier_105 : decode cX4_barrier 105 = .ok (.iadd, 1) := by decide +kernel
theorem dX4_barrier_106 : decode cX4_barrier 106 = .ok (.istore_n 3, 1) := by decide +kernel
theorem dX4_barrier_107 : decode cX4_barrier 107 = .ok (.iload_n 3, 1) := by decide +kernel
theorem dX4_barrier_108 : decode cX4_barrier 108 = .ok (.aload_n 0, 1) := by decide +kernel
theorem dX4_barrier_109 : decode cX4_barrier 109 = .ok (.getfield 53, 3) := by decide +kernel
theorem dX4_barrier_112 : decode cX4_barrier 112 = .ok (.if_icmp .ge 7, 3) := by decide +kernel
theorem dX4_barrier_115 : decode cX4_barrier 115 = .ok (.iconst 5, 1) := by decide +kernel
theorem dX4_barrier_116 : decode cX4_barrier 116 = .ok (.goto 4, 3) := by decide +kernel
theorem dX4_barrier_119 : decode cX4_barrier 119 = .ok (.iconst 0, 1) := by decide +kernel
theorem dX4_barrier_120 : decode cX4_barrier 120 = .ok (.ireturn, 1) := by decide +kernel
theorem dX4_takes_0 : decode cX4_takes 0 = .ok (.aload_n 0, 1) := by decide +kernel
theorem dX4_takes_1 : decode cX4_takes 1 = .ok (.iload_n 1, 1) := by decide +kernel
theorem dX4_takes_2 : decode cX4_takes 2 = .ok (.iload_n 2, 1) := by decide +kernel
theorem dX4_takes_3 : decode cX4_takes 3 = .ok (.invokevirtual 111, 3) := by decide +kernel
theorem dX4_takes_6 : decode cX4_takes 6 = .ok (.ifCond .le 16, 3) := by decide +kernel
theorem dX4_takes_9 : decode cX4_takes 9 = .ok (.aload_n 0, 1) := by decide +kernel
theorem dX4_takes_10 : decode cX4_takes 10 = .ok (.iload_n 1, 1) := by decide +kernel
theorem dX4_takes_11 : decode cX4_takes 11 = .ok (.iload_n 2, 1) := by decide +kernel
theorem dX4_takes_12 : decode cX4_takes 12 = .ok (.invokevirtual 142, 3) := by decide +kernel
theorem dX4_takes_15 : decode cX4_takes 15 = .ok (.ifCond .ne 7, 3) := by decide +kernel
theorem dX4_takes_18 : decode cX4_takes 18 = .ok (.iconst 1, 1) := by decide +kernel
theorem dX4_takes_19 : decode cX4_takes 19 = .ok (.goto 4, 3) := by decide +kernel
theorem dX4_takes_22 : decode cX4_takes 22 = .ok (.iconst 0, 1) := by decide +kernel
theorem dX4_takes_23 : decode cX4_takes 23 = .ok (.ireturn, 1) := by decide +kernel
theorem dX4_rank_0 : decode cX4_rank 0 = .ok (.aload_n 0, 1) := by decide +kernel
theorem dX4_rank_1 : decode cX4_rank 1 = .ok (.iconst 0, 1) := by decide +kernel
theorem dX4_rank_2 : decode cX4_rank 2 = .ok (.putfield 84, 3) := by decide +kernel
theorem dX4_rank_5 : decode cX4_rank 5 = .ok (.aload_n 0, 1) := by decide +kernel
theorem dX4_rank_6 : decode cX4_rank 6 = .ok (.iload_n 1, 1) := by decide +kernel
theorem dX4_rank_7 : decode cX4_rank 7 = .ok (.iload_n 2, 1) := by decide +kernel
theorem dX4_rank_8 : decode cX4_rank 8 = .ok (.invokevirtual 107, 3) := by decide +kernel
theorem dX4_rank_11 : decode cX4_rank 11 = .ok (.ifCond .eq 12, 3) := by decide +kernel
theorem dX4_rank_14 : decode cX4_rank 14 = .ok (.aload_n 0, 1) := by decide +kernel
theorem dX4_rank_15 : decode cX4_rank 15 = .ok (.iload_n 1, 1) := by decide +kernel
theorem dX4_rank_16 : decode cX4_rank 16 = .ok (.iload_n 2, 1) := by decide +kernel
theorem dX4_rank_17 : decode cX4_rank 17 = .ok (.invokevirtual 111, 3) := by decide +kernel
theorem dX4_rank_20 : decode cX4_rank 20 = .ok (.goto 4, 3) := by decide +kernel
theorem dX4_rank_23 : decode cX4_rank 23 = .ok (.iconst (-1), 1) := by decide +kernel
theorem dX4_rank_24 : decode cX4_rank 24 = .ok (.ireturn, 1) := by decide +kernel
theorem dX4_can_0 : decode cX4_can 0 = .ok (.aload_n 0, 1) := by decide +kernel
theorem dX4_can_1 : decode cX4_can 1 = .ok (.iconst 0, 1) := by decide +kernel
theorem dX4_can_2 : decode cX4_can 2 = .ok (.putfield 84, 3) := by decide +kernel
theorem dX4_can_5 : decode cX4_can 5 = .ok (.aload_n 0, 1) := by decide +kernel
theorem dX4_can_6 : decode cX4_can 6 = .ok (.iload_n 1, 1) := by decide +kernel
theorem dX4_can_7 : decode cX4_can 7 = .ok (.iload_n 2, 1) := by decide +kernel
theorem dX4_can_8 : decode cX4_can 8 = .ok (.invokevirtual 107, 3) := by decide +kernel
theorem dX4_can_11 : decode cX4_can 11 = .ok (.ifCond .eq 12, 3) := by decide +kernel
theorem dX4_can_14 : decode cX4_can 14 = .ok (.aload_n 0, 1) := by decide +kernel
theorem dX4_can_15 : decode cX4_can 15 = .ok (.iload_n 1, 1) := by decide +kernel
theorem dX4_can_16 : decode cX4_can 16 = .ok (.iload_n 2, 1) := by decide +kernel
theorem dX4_can_17 : decode cX4_can 17 = .ok (.invokevirtual 142, 3) := by decide +kernel
theorem dX4_can_20 : decode cX4_can 20 = .ok (.goto 4, 3) := by decide +kernel
theorem dX4_can_23 : decode cX4_can 23 = .ok (.iconst (-1), 1) := by decide +kernel
theorem dX4_can_24 : decode cX4_can 24 = .ok (.ireturn, 1) := by decide +kernel
theorem dX4_week_0 : decode cX4_week 0 = .ok (.aload_n 0, 1) := by decide +kernel
theorem dX4_week_1 : decode cX4_week 1 = .ok (.iconst 0, 1) := by decide +kernel
theorem dX4_week_2 : decode cX4_week 2 = .ok (.putfield 84, 3) := by decide +kernel
theorem dX4_week_5 : decode cX4_week 5 = .ok (.aload_n 0, 1) := by decide +kernel
theorem dX4_week_6 : decode cX4_week 6 = .ok (.iload_n 1, 1) := by decide +kernel
theorem dX4_week_7 : decode cX4_week 7 = .ok (.iload_n 2, 1) := by decide +kernel
theorem dX4_week_8 : decode cX4_week 8 = .ok (.invokevirtual 107, 3) := by decide +kernel
theorem dX4_week_11 : decode cX4_week 11 = .ok (.ifCond .eq 30, 3) := by decide +kernel
theorem dX4_week_14 : decode cX4_week 14 = .ok (.aload_n 0, 1) := by decide +kernel
theorem dX4_week_15 : decode cX4_week 15 = .ok (.iload_n 1, 1) := by decide +kernel
theorem dX4_week_16 : decode cX4_week 16 = .ok (.iload_n 2, 1) := by decide +kernel
theorem dX4_week_17 : decode cX4_week 17 = .ok (.invokevirtual 142, 3) := by decide +kernel
theorem dX4_week_20 : decode cX4_week 20 = .ok (.ifCond .ne 21, 3) := by decide +kernel
theorem dX4_week_23 : decode cX4_week 23 = .ok (.aload_n 0, 1) := by decide +kernel
theorem dX4_week_24 : decode cX4_week 24 = .ok (.getfield 29, 3) := by decide +kernel
theorem dX4_week_27 : decode cX4_week 27 = .ok (.iload_n 1, 1) := by decide +kernel
theorem dX4_week_28 : decode cX4_week 28 = .ok (.iaload, 1) := by decide +kernel
theorem dX4_week_29 : decode cX4_week 29 = .ok (.aload_n 0, 1) := by decide +kernel
theorem dX4_week_30 : decode cX4_week 30 = .ok (.getfield 23, 3) := by decide +kernel
theorem dX4_week_33 : decode cX4_week 33 = .ok (.iload_n 2, 1) := by decide +kernel
theorem dX4_week_34 : decode cX4_week 34 = .ok (.iaload, 1) := by decide +kernel
theorem dX4_week_35 : decode cX4_week 35 = .ok (.invokestatic 139, 3) := by decide +kernel
theorem dX4_week_38 : decode cX4_week 38 = .ok (.goto 4, 3) := by decide +kernel
theorem dX4_week_41 : decode cX4_week 41 = .ok (.iconst (-1), 1) := by decide +kernel
theorem dX4_week_42 : decode cX4_week 42 = .ok (.ireturn, 1) := by decide +kernel
theorem dX4_guest_0 : decode cX4_guest 0 = .ok (.iconst 0, 1) := by decide +kernel
theorem dX4_guest_1 : decode cX4_guest 1 = .ok (.istore_n 2, 1) := by decide +kernel
theorem dX4_guest_2 : decode cX4_guest 2 = .ok (.iload_n 2, 1) := by decide +kernel
theorem dX4_guest_3 : decode cX4_guest 3 = .ok (.aload_n 0, 1) := by decide +kernel
theorem dX4_guest_4 : decode cX4_guest 4 = .ok (.getfield 87, 3) := by decide +kernel
theorem dX4_guest_7 : decode cX4_guest 7 = .ok (.if_icmp .ge 21, 3) := by decide +kernel
theorem dX4_guest_10 : decode cX4_guest 10 = .ok (.aload_n 0, 1) := by decide +kernel
theorem dX4_guest_11 : decode cX4_guest 11 = .ok (.getfield 50, 3) := by decide +kernel
theorem dX4_guest_14 : decode cX4_guest 14 = .ok (.iload_n 2, 1) := by decide +kernel
theorem dX4_guest_15 : decode cX4_guest 15 = .ok (.iaload, 1) := by decide +kernel
theorem dX4_guest_16 : decode cX4_guest 16 = .ok (.iload_n 1, 1) := by decide +kernel
theorem dX4_guest_17 : decode cX4_guest 17 = .ok (.if_icmp .ne 5, 3) := by decide +kernel
theorem dX4_guest_20 : decode cX4_guest 20 = .ok (.iload_n 2, 1) := by decide +kernel
theorem dX4_guest_21 : decode cX4_guest 21 = .ok (.ireturn, 1) := by decide +kernel
theorem dX4_guest_22 : decode cX4_guest 22 = .ok (.iinc 2 1, 3) := by decide +kernel
theorem dX4_guest_25 : decode cX4_guest 25 = .ok (.goto (-23), 3) := by decide +kernel
theorem dX4_guest_28 : decode cX4_guest 28 = .ok (.iconst (-1), 1) := by decide +kernel
theorem dX4_guest_29 : decode cX4_guest 29 = .ok (.ireturn, 1) := by decide +kernel
theorem dX4_goesAtAll_0 : decode cX4_goesAtAll 0 = .ok (.aload_n 0, 1) := by decide +kernel
theorem dX4_goesAtAll_1 : decode cX4_goesAtAll 1 = .ok (.getfield 50, 3) := by decide +kernel
theorem dX4_goesAtAll_4 : decode cX4_goesAtAll 4 = .ok (.iload_n 1, 1) := by decide +kernel
theorem dX4_goesAtAll_5 : decode cX4_goesAtAll 5 = .ok (.iaload, 1) := by decide +kernel
theorem dX4_goesAtAll_6 : decode cX4_goesAtAll 6 = .ok (.ifCond .lt 7, 3) := by decide +kernel
theorem dX4_goesAtAll_9 : decode cX4_goesAtAll 9 = .ok (.iconst 1, 1) := by decide +kernel
theorem dX4_goesAtAll_10 : decode cX4_goesAtAll 10 = .ok (.goto 4, 3) := by decide +kernel
theorem dX4_goesAtAll_13 : decode cX4_goesAtAll 13 = .ok (.iconst 0, 1) := by decide +kernel
theorem dX4_goesAtAll_14 : decode cX4_goesAtAll 14 = .ok (.ireturn, 1) := by decide +kernel
theorem dX4_open_0 : decode cX4_open 0 = .ok (.iconst 0, 1) := by decide +kernel
theorem dX4_open_1 : decode cX4_open 1 = .ok (.istore_n 1, 1) := by decide +kernel
theorem dX4_open_2 : decode cX4_open 2 = .ok (.iload_n 1, 1) := by decide +kernel
theorem dX4_open_3 : decode cX4_open 3 = .ok (.aload_n 0, 1) := by decide +kernel
theorem dX4_open_4 : decode cX4_open 4 = .ok (.getfield 87, 3) := by decide +kernel
theorem dX4_open_7 : decode cX4_open 7 = .ok (.if_icmp .ge 36, 3) := by decide +kernel
theorem dX4_open_10 : decode cX4_open 10 = .ok (.aload_n 0, 1) := by decide +kernel
theorem dX4_open_11 : decode cX4_open 11 = .ok (.iload_n 1, 1) := by decide +kernel
theorem dX4_open_12 : decode cX4_open 12 = .ok (.invokevirtual 145, 3) := by decide +kernel
theorem dX4_open_15 : decode cX4_open 15 = .ok (.ifCond .eq 22, 3) := by decide +kernel
theorem dX4_open_18 : decode cX4_open 18 = .ok (.aload_n 0, 1) := by decide +kernel
theorem dX4_open_19 : decode cX4_open 19 = .ok (.iload_n 1, 1) := by decide +kernel
theorem dX4_open_20 : decode cX4_open 20 = .ok (.aload_n 0, 1) := by decide +kernel
theorem dX4_open_21 : decode cX4_open 21 = .ok (.getfield 50, 3) := by decide +kernel
theorem dX4_open_24 : decode cX4_open 24 = .ok (.iload_n 1, 1) := by decide +kernel
theorem dX4_open_25 : decode cX4_open 25 = .ok (.iaload, 1) := by decide +kernel
theorem dX4_open_26 : decode cX4_open 26 = .ok (.invokevirtual 148, 3) := by decide +kernel
theorem dX4_open_29 : decode cX4_open 29 = .ok (.ifCond .ne 8, 3) := by decide +kernel
theorem dX4_open_32 : decode cX4_open 32 = .ok (.bipush 10, 2) := by decide +kernel
theorem dX4_open_34 : decode cX4_open 34 = .ok (.iload_n 1, 1) := by decide +kernel
theorem dX4_open_35 : decode cX4_open 35 = .ok (.iadd, 1) := by decide +kernel
theorem dX4_open_36 : decode cX4_open 36 = .ok (.ireturn, 1) := by decide +kernel
theorem dX4_open_37 : decode cX4_open 37 = .ok (.iinc 1 1, 3) := by decide +kernel
theorem dX4_open_40 : decode cX4_open 40 = .ok (.goto (-38), 3) := by decide +kernel
theorem dX4_open_43 : decode cX4_open 43 = .ok (.iconst 0, 1) := by decide +kernel
theorem dX4_open_44 : decode cX4_open 44 = .ok (.istore_n 1, 1) := by decide +kernel
theorem dX4_open_45 : decode cX4_open 45 = .ok (.iload_n 1, 1) := by decide +kernel
theorem dX4_open_46 : decode cX4_open 46 = .ok (.aload_n 0, 1) := by decide +kernel
theorem dX4_open_47 : decode cX4_open 47 = .ok (.getfield 87, 3) := by decide +kernel
theorem dX4_open_50 : decode cX4_open 50 = .ok (.if_icmp .ge 55, 3) := by decide +kernel
theorem dX4_open_53 : decode cX4_open 53 = .ok (.iload_n 1, 1) := by decide +kernel
theorem dX4_open_54 : decode cX4_open 54 = .ok (.iconst 1, 1) := by decide +kernel
theorem dX4_open_55 : decode cX4_open 55 = .ok (.iadd, 1) := by decide +kernel
theorem dX4_open_56 : decode cX4_open 56 = .ok (.istore_n 2, 1) := by decide +kernel
theorem dX4_open_57 : decode cX4_open 57 = .ok (.iload_n 2, 1) := by decide +kernel
theorem dX4_open_58 : decode cX4_open 58 = .ok (.aload_n 0, 1) := by decide +kernel
theorem dX4_open_59 : decode cX4_open 59 = .ok (.getfield 87, 3) := by decide +kernel
theorem dX4_open_62 : decode cX4_open 62 = .ok (.if_icmp .ge 37, 3) := by decide +kernel
theorem dX4_open_65 : decode cX4_open 65 = .ok (.aload_n 0, 1) := by decide +kernel
theorem dX4_open_66 : decode cX4_open 66 = .ok (.iload_n 1, 1) := by decide +kernel
theorem dX4_open_67 : decode cX4_open 67 = .ok (.invokevirtual 145, 3) := by decide +kernel
theorem dX4_open_70 : decode cX4_open 70 = .ok (.ifCond .eq 23, 3) := by decide +kernel
theorem dX4_open_73 : decode cX4_open 73 = .ok (.aload_n 0, 1) := by decide +kernel
theorem dX4_open_74 : decode cX4_open 74 = .ok (.getfield 50, 3) := by decide +kernel
theorem dX4_open_77 : decode cX4_open 77 = .ok (.iload_n 1, 1) := by decide +kernel
theorem dX4_open_78 : decode cX4_open 78 = .ok (.iaload, 1) := by decide +kernel
theorem dX4_open_79 : decode cX4_open 79 = .ok (.aload_n 0, 1) := by decide +kernel
theorem dX4_open_80 : decode cX4_open 80 = .ok (.getfield 50, 3) := by decide +kernel
theorem dX4_open_83 : decode cX4_open 83 = .ok (.iload_n 2, 1) := by decide +kernel
theorem dX4_open_84 : decode cX4_open 84 = .ok (.iaload, 1) := by decide +kernel
theorem dX4_open_85 : decode cX4_open 85 = .ok (.if_icmp .ne 8, 3) := by decide +kernel
theorem dX4_open_88 : decode cX4_open 88 = .ok (.bipush 20, 2) := by decide +kernel
theorem dX4_open_90 : decode cX4_open 90 = .ok (.iload_n 1, 1) := by decide +kernel
theorem dX4_open_91 : decode cX4_open 91 = .ok (.iadd, 1) := by decide +kernel
theorem dX4_open_92 : decode cX4_open 92 = .ok (.ireturn, 1) := by decide +kernel
theorem dX4_open_93 : decode cX4_open 93 = .ok (.iinc 2 1, 3) := by decide +kernel
theorem dX4_open_96 : decode cX4_open 96 = .ok (.goto (-39), 3) := by decide +kernel
theorem dX4_open_99 : decode cX4_open 99 = .ok (.iinc 1 1, 3) := by decide +kernel
theorem dX4_open_102 : decode cX4_open 102 = .ok (.goto (-57), 3) := by decide +kernel
theorem dX4_open_105 : decode cX4_open 105 = .ok (.iconst 0, 1) := by decide +kernel
theorem dX4_open_106 : decode cX4_open 106 = .ok (.istore_n 1, 1) := by decide +kernel
theorem dX4_open_107 : decode cX4_open 107 = .ok (.iload_n 1, 1) := by decide +kernel
theorem dX4_open_108 : decode cX4_open 108 = .ok (.aload_n 0, 1) := by decide +kernel
theorem dX4_open_109 : decode cX4_open 109 = .ok (.getfield 87, 3) := by decide +kernel
theorem dX4_open_112 : decode cX4_open 112 = .ok (.if_icmp .ge 30, 3) := by decide +kernel
theorem dX4_open_115 : decode cX4_open 115 = .ok (.aload_n 0, 1) := by decide +kernel
theorem dX4_open_116 : decode cX4_open 116 = .ok (.iload_n 1, 1) := by decide +kernel
theorem dX4_open_117 : decode cX4_open 117 = .ok (.invokevirtual 145, 3) := by decide +kernel
theorem dX4_open_120 : decode cX4_open 120 = .ok (.ifCond .ne 16, 3) := by decide +kernel
theorem dX4_open_123 : decode cX4_open 123 = .ok (.aload_n 0, 1) := by decide +kernel
theorem dX4_open_124 : decode cX4_open 124 = .ok (.iload_n 1, 1) := by decide +kernel
theorem dX4_open_125 : decode cX4_open 125 = .ok (.invokevirtual 151, 3) := by decide +kernel
theorem dX4_open_128 : decode cX4_open 128 = .ok (.ifCond .lt 8, 3) := by decide +kernel
theorem dX4_open_131 : decode cX4_open 131 = .ok (.bipush 30, 2) := by decide +kernel
theorem dX4_open_133 : decode cX4_open 133 = .ok (.iload_n 1, 1) := by decide +kernel
theorem dX4_open_134 : decode cX4_open 134 = .ok (.iadd, 1) := by decide +kernel
theorem dX4_open_135 : decode cX4_open 135 = .ok (.ireturn, 1) := by decide +kernel
theorem dX4_open_136 : decode cX4_open 136 = .ok (.iinc 1 1, 3) := by decide +kernel
theorem dX4_open_139 : decode cX4_open 139 = .ok (.goto (-32), 3) := by decide +kernel
theorem dX4_open_142 : decode cX4_open 142 = .ok (.iconst 0, 1) := by decide +kernel
theorem dX4_open_143 : decode cX4_open 143 = .ok (.ireturn, 1) := by decide +kernel
theorem dX4_ringOf_0 : decode cX4_ringOf 0 = .ok (.iconst 1, 1) := by decide +kernel
theorem dX4_ringOf_1 : decode cX4_ringOf 1 = .ok (.istore_n 2, 1) := by decide +kernel
theorem dX4_ringOf_2 : decode cX4_ringOf 2 = .ok (.aload_n 0, 1) := by decide +kernel
theorem dX4_ringOf_3 : decode cX4_ringOf 3 = .ok (.getfield 50, 3) := by decide +kernel
theorem dX4_ringOf_6 : decode cX4_ringOf 6 = .ok (.iload_n 1, 1) := by decide +kernel
theorem dX4_ringOf_7 : decode cX4_ringOf 7 = .ok (.iaload, 1) := by decide +kernel
theorem dX4_ringOf_8 : decode cX4_ringOf 8 = .ok (.istore_n 3, 1) := by decide +kernel
theorem dX4_ringOf_9 : decode cX4_ringOf 9 = .ok (.iload_n 3, 1) := by decide +kernel
theorem dX4_ringOf_10 : decode cX4_ringOf 10 = .ok (.iload_n 1, 1) := by decide +kernel
theorem dX4_ringOf_11 : decode cX4_ringOf 11 = .ok (.if_icmp .eq 16, 3) := by decide +kernel
theorem dX4_ringOf_14 : decode cX4_ringOf 14 = .ok (.iinc 2 1, 3) := by decide +kernel
theorem dX4_ringOf_17 : decode cX4_ringOf 17 = .ok (.aload_n 0, 1) := by decide +kernel
theorem dX4_ringOf_18 : decode cX4_ringOf 18 = .ok (.getfield 50, 3) := by decide +kernel
theorem dX4_ringOf_21 : decode cX4_ringOf 21 = .ok (.iload_n 3, 1) := by decide +kernel
theorem dX4_ringOf_22 : decode cX4_ringOf 22 = .ok (.iaload, 1) := by decide +kernel
theorem dX4_ringOf_23 : decode cX4_ringOf 23 = .ok (.istore_n 3, 1) := by decide +kernel
theorem dX4_ringOf_24 : decode cX4_ringOf 24 = .ok (.goto (-15), 3) := by decide +kernel
theorem dX4_ringOf_27 : decode cX4_ringOf 27 = .ok (.iload_n 2, 1) := by decide +kernel
theorem dX4_ringOf_28 : decode cX4_ringOf 28 = .ok (.ireturn, 1) := by decide +kernel
theorem dX4_wrong_0 : decode cX4_wrong 0 = .ok (.aload_n 0, 1) := by decide +kernel
theorem dX4_wrong_1 : decode cX4_wrong 1 = .ok (.iconst 0, 1) := by decide +kernel
theorem dX4_wrong_2 : decode cX4_wrong 2 = .ok (.putfield 84, 3) := by decide +kernel
theorem dX4_wrong_5 : decode cX4_wrong 5 = .ok (.aload_n 0, 1) := by decide +kernel
theorem dX4_wrong_6 : decode cX4_wrong 6 = .ok (.invokevirtual 154, 3) := by decide +kernel
theorem dX4_wrong_9 : decode cX4_wrong 9 = .ok (.istore_n 1, 1) := by decide +kernel
theorem dX4_wrong_10 : decode cX4_wrong 10 = .ok (.iconst 0, 1) := by decide +kernel
theorem dX4_wrong_11 : decode cX4_wrong 11 = .ok (.istore_n 2, 1) := by decide +kernel
theorem dX4_wrong_12 : decode cX4_wrong 12 = .ok (.iload_n 2, 1) := by decide +kernel
theorem dX4_wrong_13 : decode cX4_wrong 13 = .ok (.aload_n 0, 1) := by decide +kernel
theorem dX4_wrong_14 : decode cX4_wrong 14 = .ok (.getfield 87, 3) := by decide +kernel
theorem dX4_wrong_17 : decode cX4_wrong 17 = .ok (.if_icmp .ge 38, 3) := by decide +kernel
theorem dX4_wrong_20 : decode cX4_wrong 20 = .ok (.iload_n 1, 1) := by decide +kernel
theorem dX4_wrong_21 : decode cX4_wrong 21 = .ok (.ifCond .ne 34, 3) := by decide +kernel
theorem dX4_wrong_24 : decode cX4_wrong 24 = .ok (.aload_n 0, 1) := by decide +kernel
theorem dX4_wrong_25 : decode cX4_wrong 25 = .ok (.iload_n 2, 1) := by decide +kernel
theorem dX4_wrong_26 : decode cX4_wrong 26 = .ok (.invokevirtual 145, 3) := by decide +kernel
theorem dX4_wrong_29 : decode cX4_wrong 29 = .ok (.ifCond .eq 20, 3) := by decide +kernel
theorem dX4_wrong_32 : decode cX4_wrong 32 = .ok (.aload_n 0, 1) := by decide +kernel
theorem dX4_wrong_33 : decode cX4_wrong 33 = .ok (.iload_n 2, 1) := by decide +kernel
theorem dX4_wrong_34 : decode cX4_wrong 34 = .ok (.invokevirtual 158, 3) := by decide +kernel
theorem dX4_wrong_37 : decode cX4_wrong 37 = .ok (.aload_n 0, 1) := by decide +kernel
theorem dX4_wrong_38 : decode cX4_wrong 38 = .ok (.getfield 57, 3) := by decide +kernel
theorem dX4_wrong_41 : decode cX4_wrong 41 = .ok (.if_icmp .le 8, 3) := by decide +kernel
theorem dX4_wrong_44 : decode cX4_wrong 44 = .ok (.bipush 40, 2) := by decide +kernel
theorem dX4_wrong_46 : decode cX4_wrong 46 = .ok (.iload_n 2, 1) := by decide +kernel
theorem dX4_wrong_47 : decode cX4_wrong 47 = .ok (.iadd, 1) := by decide +kernel
theorem dX4_wrong_48 : decode cX4_wrong 48 = .ok (.istore_n 1, 1) := by decide +kernel
theorem dX4_wrong_49 : decode cX4_wrong 49 = .ok (.iinc 2 1, 3) := by decide +kernel
theorem dX4_wrong_52 : decode cX4_wrong 52 = .ok (.goto (-40), 3) := by decide +kernel
theorem dX4_wrong_55 : decode cX4_wrong 55 = .ok (.iload_n 1, 1) := by decide +kernel
theorem dX4_wrong_56 : decode cX4_wrong 56 = .ok (.ireturn, 1) := by decide +kernel
theorem dX4_goers_0 : decode cX4_goers 0 = .ok (.iconst 0, 1) := by decide +kernel
theorem dX4_goers_1 : decode cX4_goers 1 = .ok (.istore_n 1, 1) := by decide +kernel
theorem dX4_goers_2 : decode cX4_goers 2 = .ok (.iconst 0, 1) := by decide +kernel
theorem dX4_goers_3 : decode cX4_goers 3 = .ok (.istore_n 2, 1) := by decide +kernel
theorem dX4_goers_4 : decode cX4_goers 4 = .ok (.iload_n 2, 1) := by decide +kernel
theorem dX4_goers_5 : decode cX4_goers 5 = .ok (.aload_n 0, 1) := by decide +kernel
theorem dX4_goers_6 : decode cX4_goers 6 = .ok (.getfield 87, 3) := by decide +kernel
theorem dX4_goers_9 : decode cX4_goers 9 = .ok (.if_icmp .ge 25, 3) := by decide +kernel
theorem dX4_goers_12 : decode cX4_goers 12 = .ok (.iload_n 1, 1) := by decide +kernel
theorem dX4_goers_13 : decode cX4_goers 13 = .ok (.aload_n 0, 1) := by decide +kernel
theorem dX4_goers_14 : decode cX4_goers 14 = .ok (.iload_n 2, 1) := by decide +kernel
theorem dX4_goers_15 : decode cX4_goers 15 = .ok (.invokevirtual 145, 3) := by decide +kernel
theorem dX4_goers_18 : decode cX4_goers 18 = .ok (.ifCond .eq 7, 3) := by decide +kernel
theorem dX4_goers_21 : decode cX4_goers 21 = .ok (.iconst 1, 1) := by decide +kernel
theorem dX4_goers_22 : decode cX4_goers 22 = .ok (.goto 4, 3) := by decide +kernel
theorem dX4_goers_25 : decode cX4_goers 25 = .ok (.iconst 0, 1) := by decide +kernel
theorem dX4_goers_26 : decode cX4_goers 26 = .ok (.iadd, 1) := by decide +kernel
theorem dX4_goers_27 : decode cX4_goers 27 = .ok (.istore_n 1, 1) := by decide +kernel
theorem dX4_goers_28 : decode cX4_goers 28 = .ok (.iinc 2 1, 3) := by decide +kernel
theorem dX4_goers_31 : decode cX4_goers 31 = .ok (.goto (-27), 3) := by decide +kernel
theorem dX4_goers_34 : decode cX4_goers 34 = .ok (.iload_n 1, 1) := by decide +kernel
theorem dX4_goers_35 : decode cX4_goers 35 = .ok (.ireturn, 1) := by decide +kernel
theorem dX4_rings_0 : decode cX4_rings 0 = .ok (.iconst 0, 1) := by decide +kernel
theorem dX4_rings_1 : decode cX4_rings 1 = .ok (.istore_n 1, 1) := by decide +kernel
theorem dX4_rings_2 : decode cX4_rings 2 = .ok (.iconst 0, 1) := by decide +kernel
theorem dX4_rings_3 : decode cX4_rings 3 = .ok (.istore_n 2, 1) := by decide +kernel
theorem dX4_rings_4 : decode cX4_rings 4 = .ok (.iload_n 2, 1) := by decide +kernel
theorem dX4_rings_5 : decode cX4_rings 5 = .ok (.aload_n 0, 1) := by decide +kernel
theorem dX4_rings_6 : decode cX4_rings 6 = .ok (.getfield 87, 3) := by decide +kernel
theorem dX4_rings_9 : decode cX4_rings 9 = .ok (.if_icmp .ge 84, 3) := by decide +kernel
theorem dX4_rings_12 : decode cX4_rings 12 = .ok (.aload_n 0, 1) := by decide +kernel
theorem dX4_rings_13 : decode cX4_rings 13 = .ok (.invokevirtual 154, 3) := by decide +kernel
theorem dX4_rings_16 : decode cX4_rings 16 = .ok (.ifCond .ne 77, 3) := by decide +kernel
theorem dX4_rings_19 : decode cX4_rings 19 = .ok (.aload_n 0, 1) := by decide +kernel
theorem dX4_rings_20 : decode cX4_rings 20 = .ok (.iload_n 2, 1) := by decide +kernel
theorem dX4_rings_21 : decode cX4_rings 21 = .ok (.invokevirtual 145, 3) := by decide +kernel
theorem dX4_rings_24 : decode cX4_rings 24 = .ok (.istore_n 3, 1) := by decide +kernel
theorem dX4_rings_25 : decode cX4_rings 25 = .ok (.iload_n 3, 1) := by decide +kernel
theorem dX4_rings_26 : decode cX4_rings 26 = .ok (.ifCond .eq 12, 3) := by decide +kernel
theorem dX4_rings_29 : decode cX4_rings 29 = .ok (.aload_n 0, 1) := by decide +kernel
theorem dX4_rings_30 : decode cX4_rings 30 = .ok (.getfield 50, 3) := by decide +kernel
theorem dX4_rings_33 : decode cX4_rings 33 = .ok (.iload_n 2, 1) := by decide +kernel
theorem dX4_rings_34 : decode cX4_rings 34 = .ok (.iaload, 1) := by decide +kernel
theorem dX4_rings_35 : decode cX4_rings 35 = .ok (.goto 4, 3) := by decide +kernel
theorem dX4_rings_38 : decode cX4_rings 38 = .ok (.iload_n 2, 1) := by decide +kernel
theorem dX4_rings_39 : decode cX4_rings 39 = .ok (.istore 4, 2) := by decide +kernel
theorem dX4_rings_41 : decode cX4_rings 41 = .ok (.iload 4, 2) := by decide +kernel
theorem dX4_rings_43 : decode cX4_rings 43 = .ok (.iload_n 2, 1) := by decide +kernel
theorem dX4_rings_44 : decode cX4_rings 44 = .ok (.if_icmp .eq 31, 3) := by decide +kernel
theorem dX4_rings_47 : decode cX4_rings 47 = .ok (.iload_n 3, 1) := by decide +kernel
theorem dX4_rings_48 : decode cX4_rings 48 = .ok (.ifCond .eq 13, 3) := by decide +kernel
theorem dX4_rings_51 : decode cX4_rings 51 = .ok (.iload 4, 2) := by decide +kernel
theorem dX4_rings_53 : decode cX4_rings 53 = .ok (.iload_n 2, 1) := by decide +kernel
theorem dX4_rings_54 : decode cX4_rings 54 = .ok (.if_icmp .le 7, 3) := by decide +kernel
theorem dX4_rings_57 : decode cX4_rings 57 = .ok (.iconst 1, 1) := by decide +kernel
theorem dX4_rings_58 : decode cX4_rings 58 = .ok (.goto 4, 3) := by decide +kernel
theorem dX4_rings_61 : decode cX4_rings 61 = .ok (.iconst 0, 1) := by decide +kernel
theorem dX4_rings_62 : decode cX4_rings 62 = .ok (.istore_n 3, 1) := by decide +kernel
theorem dX4_rings_63 : decode cX4_rings 63 = .ok (.aload_n 0, 1) := by decide +kernel
theorem dX4_rings_64 : decode cX4_rings 64 = .ok (.getfield 50, 3) := by decide +kernel
theorem dX4_rings_67 : decode cX4_rings 67 = .ok (.iload 4, 2) := by decide +kernel
theorem dX4_rings_69 : decode cX4_rings 69 = .ok (.iaload, 1) := by decide +kernel
theorem dX4_rings_70 : decode cX4_rings 70 = .ok (.istore 4, 2) := by decide +kernel
theorem dX4_rings_72 : decode cX4_rings 72 = .ok (.goto (-31), 3) := by decide +kernel
theorem dX4_rings_75 : decode cX4_rings 75 = .ok (.iload_n 1, 1) := by decide +kernel
theorem dX4_rings_76 : decode cX4_rings 76 = .ok (.iload_n 3, 1) := by decide +kernel
theorem dX4_rings_77 : decode cX4_rings 77 = .ok (.ifCond .eq 7, 3) := by decide +kernel
theorem dX4_rings_80 : decode cX4_rings 80 = .ok (.iconst 1, 1) := by decide +kernel
theorem dX4_rings_81 : decode cX4_rings 81 = .ok (.goto 4, 3) := by decide +kernel
theorem dX4_rings_84 : decode cX4_rings 84 = .ok (.iconst 0, 1) := by decide +kernel
theorem dX4_rings_85 : decode cX4_rings 85 = .ok (.iadd, 1) := by decide +kernel
theorem dX4_rings_86 : decode cX4_rings 86 = .ok (.istore_n 1, 1) := by decide +kernel
theorem dX4_rings_87 : decode cX4_rings 87 = .ok (.iinc 2 1, 3) := by decide +kernel
theorem dX4_rings_90 : decode cX4_rings 90 = .ok (.goto (-86), 3) := by decide +kernel
theorem dX4_rings_93 : decode cX4_rings 93 = .ok (.iload_n 1, 1) := by decide +kernel
theorem dX4_rings_94 : decode cX4_rings 94 = .ok (.ireturn, 1) := by decide +kernel
theorem dX4_count_0 : decode cX4_count 0 = .ok (.aload_n 0, 1) := by decide +kernel
theorem dX4_count_1 : decode cX4_count 1 = .ok (.iconst 0, 1) := by decide +kernel
theorem dX4_count_2 : decode cX4_count 2 = .ok (.putfield 84, 3) := by decide +kernel
theorem dX4_count_5 : decode cX4_count 5 = .ok (.iconst 0, 1) := by decide +kernel
theorem dX4_count_6 : decode cX4_count 6 = .ok (.istore_n 2, 1) := by decide +kernel
theorem dX4_count_7 : decode cX4_count 7 = .ok (.iconst 0, 1) := by decide +kernel
theorem dX4_count_8 : decode cX4_count 8 = .ok (.istore_n 3, 1) := by decide +kernel
theorem dX4_count_9 : decode cX4_count 9 = .ok (.iconst 0, 1) := by decide +kernel
theorem dX4_count_10 : decode cX4_count 10 = .ok (.istore 4, 2) := by decide +kernel
theorem dX4_count_12 : decode cX4_count 12 = .ok (.iload 4, 2) := by decide +kernel
theorem dX4_count_14 : decode cX4_count 14 = .ok (.aload_n 0, 1) := by decide +kernel
theorem dX4_count_15 : decode cX4_count 15 = .ok (.getfield 87, 3) := by decide +kernel
theorem dX4_count_18 : decode cX4_count 18 = .ok (.if_icmp .ge 56, 3) := by decide +kernel
theorem dX4_count_21 : decode cX4_count 21 = .ok (.iload_n 2, 1) := by decide +kernel
theorem dX4_count_22 : decode cX4_count 22 = .ok (.aload_n 0, 1) := by decide +kernel
theorem dX4_count_23 : decode cX4_count 23 = .ok (.getfield 38, 3) := by decide +kernel
theorem dX4_count_26 : decode cX4_count 26 = .ok (.iload 4, 2) := by decide +kernel
theorem dX4_count_28 : decode cX4_count 28 = .ok (.baload, 1) := by decide +kernel
theorem dX4_count_29 : decode cX4_count 29 = .ok (.ifCond .eq 7, 3) := by decide +kernel
theorem dX4_count_32 : decode cX4_count 32 = .ok (.iconst 1, 1) := by decide +kernel
theorem dX4_count_33 : decode cX4_count 33 = .ok (.goto 4, 3) := by decide +kernel
theorem dX4_count_36 : decode cX4_count 36 = .ok (.iconst 0, 1) := by decide +kernel
theorem dX4_count_37 : decode cX4_count 37 = .ok (.iadd, 1) := by decide +kernel
theorem dX4_count_38 : decode cX4_count 38 = .ok (.istore_n 2, 1) := by decide +kernel
theorem dX4_count_39 : decode cX4_count 39 = .ok (.iload_n 3, 1) := by decide +kernel
theorem dX4_count_40 : decode cX4_count 40 = .ok (.aload_n 0, 1) := by decide +kernel
theorem dX4_count_41 : decode cX4_count 41 = .ok (.iload 4, 2) := by decide +kernel
theorem dX4_count_43 : decode cX4_count 43 = .ok (.invokevirtual 145, 3) := by decide +kernel
theorem dX4_count_46 : decode cX4_count 46 = .ok (.ifCond .eq 19, 3) := by decide +kernel
theorem dX4_count_49 : decode cX4_count 49 = .ok (.aload_n 0, 1) := by decide +kernel
theorem dX4_count_50 : decode cX4_count 50 = .ok (.iload 4, 2) := by decide +kernel
theorem dX4_count_52 : decode cX4_count 52 = .ok (.aload_n 0, 1) := by decide +kernel
theorem dX4_count_53 : decode cX4_count 53 = .ok (.getfield 50, 3) := by decide +kernel
theorem dX4_count_56 : decode cX4_count 56 = .ok (.iload 4, 2) := by decide +kernel
theorem dX4_count_58 : decode cX4_count 58 = .ok (.iaload, 1) := by decide +kernel
theorem dX4_count_59 : decode cX4_count 59 = .ok (.invokevirtual 111, 3) := by decide +kernel
theorem dX4_count_62 : decode cX4_count 62 = .ok (.goto 4, 3) := by decide +kernel
theorem dX4_count_65 : decode cX4_count 65 = .ok (.iconst 0, 1) := by decide +kernel
theorem dX4_count_66 : decode cX4_count 66 = .ok (.iadd, 1) := by decide +kernel
theorem dX4_count_67 : decode cX4_count 67 = .ok (.istore_n 3, 1) := by decide +kernel
theorem dX4_count_68 : decode cX4_count 68 = .ok (.iinc 4 1, 3) := by decide +kernel
theorem dX4_count_71 : decode cX4_count 71 = .ok (.goto (-59), 3) := by decide +kernel
theorem dX4_count_74 : decode cX4_count 74 = .ok (.iload_n 1, 1) := by decide +kernel
theorem dX4_count_75 : decode cX4_count 75 = .ok (.tableswitch 70 0 6 #[41, 46, 48, 53, 58, 63, 68], 41) := by decide +kernel
theorem dX4_count_116 : decode cX4_count 116 = .ok (.aload_n 0, 1) := by decide +kernel
theorem dX4_count_117 : decode cX4_count 117 = .ok (.getfield 87, 3) := by decide +kernel
theorem dX4_count_120 : decode cX4_count 120 = .ok (.ireturn, 1) := by decide +kernel
theorem dX4_count_121 : decode cX4_count 121 = .ok (.iload_n 2, 1) := by decide +kernel
theorem dX4_count_122 : decode cX4_count 122 = .ok (.ireturn, 1) := by decide +kernel
theorem dX4_count_123 : decode cX4_count 123 = .ok (.aload_n 0, 1) := by decide +kernel
theorem dX4_count_124 : decode cX4_count 124 = .ok (.getfield 161, 3) := by decide +kernel
theorem dX4_count_127 : decode cX4_count 127 = .ok (.ireturn, 1) := by decide +kernel
theorem dX4_count_128 : decode cX4_count 128 = .ok (.aload_n 0, 1) := by decide +kernel
theorem dX4_count_129 : decode cX4_count 129 = .ok (.getfield 164, 3) := by decide +kernel
theorem dX4_count_132 : decode cX4_count 132 = .ok (.ireturn, 1) := by decide +kernel
theorem dX4_count_133 : decode cX4_count 133 = .ok (.aload_n 0, 1) := by decide +kernel
theorem dX4_count_134 : decode cX4_count 134 = .ok (.invokevirtual 167, 3) := by decide +kernel
theorem dX4_count_137 : decode cX4_count 137 = .ok (.ireturn, 1) := by decide +kernel
theorem dX4_count_138 : decode cX4_count 138 = .ok (.aload_n 0, 1) := by decide +kernel
theorem dX4_count_139 : decode cX4_count 139 = .ok (.invokevirtual 170, 3) := by decide +kernel
theorem dX4_count_142 : decode cX4_count 142 = .ok (.ireturn, 1) := by decide +kernel
theorem dX4_count_143 : decode cX4_count 143 = .ok (.iload_n 3, 1) := by decide +kernel
theorem dX4_count_144 : decode cX4_count 144 = .ok (.ireturn, 1) := by decide +kernel
theorem dX4_count_145 : decode cX4_count 145 = .ok (.iconst (-1), 1) := by decide +kernel
theorem dX4_count_146 : decode cX4_count 146 = .ok (.ireturn, 1) := by decide +kernel
theorem dX4_of_0 : decode cX4_of 0 = .ok (.aload_n 0, 1) := by decide +kernel
theorem dX4_of_1 : decode cX4_of 1 = .ok (.iconst 0, 1) := by decide +kernel
theorem dX4_of_2 : decode cX4_of 2 = .ok (.putfield 84, 3) := by decide +kernel
theorem dX4_of_5 : decode cX4_of 5 = .ok (.aload_n 0, 1) := by decide +kernel
theorem dX4_of_6 : decode cX4_of 6 = .ok (.iload_n 1, 1) := by decide +kernel
theorem dX4_of_7 : decode cX4_of 7 = .ok (.invokevirtual 94, 3) := by decide +kernel
theorem dX4_of_10 : decode cX4_of 10 = .ok (.ifCond .eq 15, 3) := by decide +kernel
theorem dX4_of_13 : decode cX4_of 13 = .ok (.iload_n 2, 1) := by decide +kernel
theorem dX4_of_14 : decode cX4_of 14 = .ok (.i2l, 1) := by decide +kernel
theorem dX4_of_15 : decode cX4_of 15 = .ok (.lconst 0, 1) := by decide +kernel
theorem dX4_of_16 : decode cX4_of 16 = .ok (.ldc2_w 173, 3) := by decide +kernel
theorem dX4_of_19 : decode cX4_of 19 = .ok (.invokestatic 90, 3) := by decide +kernel
theorem dX4_of_22 : decode cX4_of 22 = .ok (.ifCond .ne 8, 3) := by decide +kernel
theorem dX4_of_25 : decode cX4_of 25 = .ok (.aload_n 0, 1) := by decide +kernel
theorem dX4_of_26 : decode cX4_of 26 = .ok (.invokevirtual 175, 3) := by decide +kernel
theorem dX4_of_29 : decode cX4_of 29 = .ok (.ireturn, 1) := by decide +kernel
theorem dX4_of_30 : decode cX4_of 30 = .ok (.iconst 0, 1) := by decide +kernel
theorem dX4_of_31 : decode cX4_of 31 = .ok (.istore_n 3, 1) := by decide +kernel
theorem dX4_of_32 : decode cX4_of 32 = .ok (.iconst 0, 1) := by decide +kernel
theorem dX4_of_33 : decode cX4_of 33 = .ok (.istore 4, 2) := by decide +kernel
theorem dX4_of_35 : decode cX4_of 35 = .ok (.iload 4, 2) := by decide +kernel
theorem dX4_of_37 : decode cX4_of 37 = .ok (.aload_n 0, 1) := by decide +kernel
theorem dX4_of_38 : decode cX4_of 38 = .ok (.getfield 87, 3) := by decide +kernel
theorem dX4_of_41 : decode cX4_of 41 = .ok (.if_icmp .ge 33, 3) := by decide +kernel
theorem dX4_of_44 : decode cX4_of 44 = .ok (.iload_n 3, 1) := by decide +kernel
theorem dX4_of_45 : decode cX4_of 45 = .ok (.iload 4, 2) := by decide +kernel
theorem dX4_of_47 : decode cX4_of 47 = .ok (.iload_n 1, 1) := by decide +kernel
theorem dX4_of_48 : decode cX4_of 48 = .ok (.if_icmp .eq 17, 3) := by decide +kernel
theorem dX4_of_51 : decode cX4_of 51 = .ok (.aload_n 0, 1) := by decide +kernel
theorem dX4_of_52 : decode cX4_of 52 = .ok (.iload_n 1, 1) := by decide +kernel
theorem dX4_of_53 : decode cX4_of 53 = .ok (.iload 4, 2) := by decide +kernel
theorem dX4_of_55 : decode cX4_of 55 = .ok (.invokevirtual 148, 3) := by decide +kernel
theorem dX4_of_58 : decode cX4_of 58 = .ok (.ifCond .eq 7, 3) := by decide +kernel
theorem dX4_of_61 : decode cX4_of 61 = .ok (.iconst 1, 1) := by decide +kernel
theorem dX4_of_62 : decode cX4_of 62 = .ok (.goto 4, 3) := by decide +kernel
theorem dX4_of_65 : decode cX4_of 65 = .ok (.iconst 0, 1) := by decide +kernel
theorem dX4_of_66 : decode cX4_of 66 = .ok (.iadd, 1) := by decide +kernel
theorem dX4_of_67 : decode cX4_of 67 = .ok (.istore_n 3, 1) := by decide +kernel
theorem dX4_of_68 : decode cX4_of 68 = .ok (.iinc 4 1, 3) := by decide +kernel
theorem dX4_of_71 : decode cX4_of 71 = .ok (.goto (-36), 3) := by decide +kernel
theorem dX4_of_74 : decode cX4_of 74 = .ok (.iload_n 2, 1) := by decide +kernel
theorem dX4_of_75 : decode cX4_of 75 = .ok (.tableswitch 95 0 6 #[41, 47, 53, 60, 67, 74, 80], 41) := by decide +kernel
theorem dX4_of_116 : decode cX4_of 116 = .ok (.aload_n 0, 1) := by decide +kernel
theorem dX4_of_117 : decode cX4_of 117 = .ok (.iload_n 1, 1) := by decide +kernel
theorem dX4_of_118 : decode cX4_of 118 = .ok (.invokevirtual 130, 3) := by decide +kernel
theorem dX4_of_121 : decode cX4_of 121 = .ok (.ireturn, 1) := by decide +kernel
theorem dX4_of_122 : decode cX4_of 122 = .ok (.aload_n 0, 1) := by decide +kernel
theorem dX4_of_123 : decode cX4_of 123 = .ok (.iload_n 1, 1) := by decide +kernel
theorem dX4_of_124 : decode cX4_of 124 = .ok (.invokevirtual 178, 3) := by decide +kernel
theorem dX4_of_127 : decode cX4_of 127 = .ok (.ireturn, 1) := by decide +kernel
theorem dX4_of_128 : decode cX4_of 128 = .ok (.aload_n 0, 1) := by decide +kernel
theorem dX4_of_129 : decode cX4_of 129 = .ok (.getfield 41, 3) := by decide +kernel
theorem dX4_of_132 : decode cX4_of 132 = .ok (.iload_n 1, 1) := by decide +kernel
theorem dX4_of_133 : decode cX4_of 133 = .ok (.iaload, 1) := by decide +kernel
theorem dX4_of_134 : decode cX4_of 134 = .ok (.ireturn, 1) := by decide +kernel
theorem dX4_of_135 : decode cX4_of 135 = .ok (.aload_n 0, 1) := by decide +kernel
theorem dX4_of_136 : decode cX4_of 136 = .ok (.getfield 35, 3) := by decide +kernel
theorem dX4_of_139 : decode cX4_of 139 = .ok (.iload_n 1, 1) := by decide +kernel
theorem dX4_of_140 : decode cX4_of 140 = .ok (.iaload, 1) := by decide +kernel
theorem dX4_of_141 : decode cX4_of 141 = .ok (.ireturn, 1) := by decide +kernel
theorem dX4_of_142 : decode cX4_of 142 = .ok (.aload_n 0, 1) := by decide +kernel
theorem dX4_of_143 : decode cX4_of 143 = .ok (.getfield 50, 3) := by decide +kernel
theorem dX4_of_146 : decode cX4_of 146 = .ok (.iload_n 1, 1) := by decide +kernel
theorem dX4_of_147 : decode cX4_of 147 = .ok (.iaload, 1) := by decide +kernel
theorem dX4_of_148 : decode cX4_of 148 = .ok (.ireturn, 1) := by decide +kernel
theorem dX4_of_149 : decode cX4_of 149 = .ok (.aload_n 0, 1) := by decide +kernel
theorem dX4_of_150 : decode cX4_of 150 = .ok (.iload_n 1, 1) := by decide +kernel
theorem dX4_of_151 : decode cX4_of 151 = .ok (.invokevirtual 151, 3) := by decide +kernel
theorem dX4_of_154 : decode cX4_of 154 = .ok (.ireturn, 1) := by decide +kernel
theorem dX4_of_155 : decode cX4_of 155 = .ok (.aload_n 0, 1) := by decide +kernel
theorem dX4_of_156 : decode cX4_of 156 = .ok (.getfield 38, 3) := by decide +kernel
theorem dX4_of_159 : decode cX4_of 159 = .ok (.iload_n 1, 1) := by decide +kernel
theorem dX4_of_160 : decode cX4_of 160 = .ok (.baload, 1) := by decide +kernel
theorem dX4_of_161 : decode cX4_of 161 = .ok (.ifCond .eq 7, 3) := by decide +kernel
theorem dX4_of_164 : decode cX4_of 164 = .ok (.iconst 1, 1) := by decide +kernel
theorem dX4_of_165 : decode cX4_of 165 = .ok (.goto 4, 3) := by decide +kernel
theorem dX4_of_168 : decode cX4_of 168 = .ok (.iconst 0, 1) := by decide +kernel
theorem dX4_of_169 : decode cX4_of 169 = .ok (.ireturn, 1) := by decide +kernel
theorem dX4_of_170 : decode cX4_of 170 = .ok (.iload_n 3, 1) := by decide +kernel
theorem dX4_of_171 : decode cX4_of 171 = .ok (.ireturn, 1) := by decide +kernel
theorem dX4_put_0 : decode cX4_put 0 = .ok (.aload_n 0, 1) := by decide +kernel
theorem dX4_put_1 : decode cX4_put 1 = .ok (.iconst 0, 1) := by decide +kernel
theorem dX4_put_2 : decode cX4_put 2 = .ok (.putfield 84, 3) := by decide +kernel
theorem dX4_put_5 : decode cX4_put 5 = .ok (.aload_n 0, 1) := by decide +kernel
theorem dX4_put_6 : decode cX4_put 6 = .ok (.iconst 0, 1) := by decide +kernel
theorem dX4_put_7 : decode cX4_put 7 = .ok (.putfield 98, 3) := by decide +kernel
theorem dX4_put_10 : decode cX4_put 10 = .ok (.aload_n 0, 1) := by decide +kernel
theorem dX4_put_11 : decode cX4_put 11 = .ok (.iload_n 1, 1) := by decide +kernel
theorem dX4_put_12 : decode cX4_put 12 = .ok (.invokevirtual 94, 3) := by decide +kernel
theorem dX4_put_15 : decode cX4_put 15 = .ok (.ifCond .eq 17, 3) := by decide +kernel
theorem dX4_put_18 : decode cX4_put 18 = .ok (.iload_n 2, 1) := by decide +kernel
theorem dX4_put_19 : decode cX4_put 19 = .ok (.iconst (-1), 1) := by decide +kernel
theorem dX4_put_20 : decode cX4_put 20 = .ok (.if_icmp .eq 14, 3) := by decide +kernel
theorem dX4_put_23 : decode cX4_put 23 = .ok (.aload_n 0, 1) := by decide +kernel
theorem dX4_put_24 : decode cX4_put 24 = .ok (.iload_n 1, 1) := by decide +kernel
theorem dX4_put_25 : decode cX4_put 25 = .ok (.iload_n 2, 1) := by decide +kernel
theorem dX4_put_26 : decode cX4_put 26 = .ok (.invokevirtual 107, 3) := by decide +kernel
theorem dX4_put_29 : decode cX4_put 29 = .ok (.ifCond .ne 5, 3) := by decide +kernel
theorem dX4_put_32 : decode cX4_put 32 = .ok (.iconst 0, 1) := by decide +kernel
theorem dX4_put_33 : decode cX4_put 33 = .ok (.ireturn, 1) := by decide +kernel
theorem dX4_put_34 : decode cX4_put 34 = .ok (.aload_n 0, 1) := by decide +kernel
theorem dX4_put_35 : decode cX4_put 35 = .ok (.getfield 50, 3) := by decide +kernel
theorem dX4_put_38 : decode cX4_put 38 = .ok (.iload_n 1, 1) := by decide +kernel
theorem dX4_put_39 : decode cX4_put 39 = .ok (.iload_n 2, 1) := by decide +kernel
theorem dX4_put_40 : decode cX4_put 40 = .ok (.iastore, 1) := by decide +kernel
theorem dX4_put_41 : decode cX4_put 41 = .ok (.iconst 1, 1) := by decide +kernel
theorem dX4_put_42 : decode cX4_put 42 = .ok (.ireturn, 1) := by decide +kernel
theorem dX4_mayBe_0 : decode cX4_mayBe 0 = .ok (.aload_n 0, 1) := by decide +kernel
theorem dX4_mayBe_1 : decode cX4_mayBe 1 = .ok (.getfield 181, 3) := by decide +kernel
theorem dX4_mayBe_4 : decode cX4_mayBe 4 = .ok (.ifCond .ne 5, 3) := by decide +kernel
theorem dX4_mayBe_7 : decode cX4_mayBe 7 = .ok (.iconst 1, 1) := by decide +kernel
theorem dX4_mayBe_8 : decode cX4_mayBe 8 = .ok (.ireturn, 1) := by decide +kernel
theorem dX4_mayBe_9 : decode cX4_mayBe 9 = .ok (.iload_n 2, 1) := by decide +kernel
theorem dX4_mayBe_10 : decode cX4_mayBe 10 = .ok (.istore 5, 2) := by decide +kernel
theorem dX4_mayBe_12 : decode cX4_mayBe 12 = .ok (.iload_n 1, 1) := by decide +kernel
theorem dX4_mayBe_13 : decode cX4_mayBe 13 = .ok (.istore 6, 2) := by decide +kernel
theorem dX4_mayBe_15 : decode cX4_mayBe 15 = .ok (.iload 6, 2) := by decide +kernel
theorem dX4_mayBe_17 : decode cX4_mayBe 17 = .ok (.aload_n 0, 1) := by decide +kernel
theorem dX4_mayBe_18 : decode cX4_mayBe 18 = .ok (.getfield 87, 3) := by decide +kernel
theorem dX4_mayBe_21 : decode cX4_mayBe 21 = .ok (.if_icmp .ge 35, 3) := by decide +kernel
theorem dX4_mayBe_24 : decode cX4_mayBe 24 = .ok (.aload_n 0, 1) := by decide +kernel
theorem dX4_mayBe_25 : decode cX4_mayBe 25 = .ok (.getfield 185, 3) := by decide +kernel
theorem dX4_mayBe_28 : decode cX4_mayBe 28 = .ok (.ifCond .eq 28, 3) := by decide +kernel
theorem dX4_mayBe_31 : decode cX4_mayBe 31 = .ok (.iload 5, 2) := by decide +kernel
theorem dX4_mayBe_33 : decode cX4_mayBe 33 = .ok (.aload_n 0, 1) := by decide +kernel
theorem dX4_mayBe_34 : decode cX4_mayBe 34 = .ok (.iload 6, 2) := by decide +kernel
theorem dX4_mayBe_36 : decode cX4_mayBe 36 = .ok (.invokevirtual 145, 3) := by decide +kernel
theorem dX4_mayBe_39 : decode cX4_mayBe 39 = .ok (.ifCond .eq 7, 3) := by decide +kernel
theorem dX4_mayBe_42 : decode cX4_mayBe 42 = .ok (.iconst 1, 1) := by decide +kernel
theorem dX4_mayBe_43 : decode cX4_mayBe 43 = .ok (.goto 4, 3) := by decide +kernel
theorem dX4_mayBe_46 : decode cX4_mayBe 46 = .ok (.iconst 0, 1) := by decide +kernel
theorem dX4_mayBe_47 : decode cX4_mayBe 47 = .ok (.iadd, 1) := by decide +kernel
theorem dX4_mayBe_48 : decode cX4_mayBe 48 = .ok (.istore 5, 2) := by decide +kernel
theorem dX4_mayBe_50 : decode cX4_mayBe 50 = .ok (.iinc 6 1, 3) := by decide +kernel
theorem dX4_mayBe_53 : decode cX4_mayBe 53 = .ok (.goto (-38), 3) := by decide +kernel
theorem dX4_mayBe_56 : decode cX4_mayBe 56 = .ok (.aload_n 0, 1) := by decide +kernel
theorem dX4_mayBe_57 : decode cX4_mayBe 57 = .ok (.getfield 185, 3) := by decide +kernel
theorem dX4_mayBe_60 : decode cX4_mayBe 60 = .ok (.ifCond .eq 27, 3) := by decide +kernel
theorem dX4_mayBe_63 : decode cX4_mayBe 63 = .ok (.iload 5, 2) := by decide +kernel
theorem dX4_mayBe_65 : decode cX4_mayBe 65 = .ok (.aload_n 0, 1) := by decide +kernel
theorem dX4_mayBe_66 : decode cX4_mayBe 66 = .ok (.getfield 188, 3) := by decide +kernel
theorem dX4_mayBe_69 : decode cX4_mayBe 69 = .ok (.if_icmp .eq 18, 3) := by decide +kernel
theorem dX4_mayBe_72 : decode cX4_mayBe 72 = .ok (.iload 5, 2) := by decide +kernel
theorem dX4_mayBe_74 : decode cX4_mayBe 74 = .ok (.aload_n 0, 1) := by decide +kernel
theorem dX4_mayBe_75 : decode cX4_mayBe 75 = .ok (.getfield 188, 3) := by decide +kernel
theorem dX4_mayBe_78 : decode cX4_mayBe 78 = .ok (.if_icmp .le 7, 3) := by decide +kernel
theorem dX4_mayBe_81 : decode cX4_mayBe 81 = .ok (.iconst 1, 1) := by decide +kernel
theorem dX4_mayBe_82 : decode cX4_mayBe 82 = .ok (.goto 4, 3) := by decide +kernel
theorem dX4_mayBe_85 : decode cX4_mayBe 85 = .ok (.iconst 0, 1) := by decide +kernel
theorem dX4_mayBe_86 : decode cX4_mayBe 86 = .ok (.ireturn, 1) := by decide +kernel
theorem dX4_mayBe_87 : decode cX4_mayBe 87 = .ok (.iload_n 3, 1) := by decide +kernel
theorem dX4_mayBe_88 : decode cX4_mayBe 88 = .ok (.aload_n 0, 1) := by decide +kernel
theorem dX4_mayBe_89 : decode cX4_mayBe 89 = .ok (.getfield 87, 3) := by decide +kernel
theorem dX4_mayBe_92 : decode cX4_mayBe 92 = .ok (.iadd, 1) := by decide +kernel
theorem dX4_mayBe_93 : decode cX4_mayBe 93 = .ok (.iload_n 1, 1) := by decide +kernel
theorem dX4_mayBe_94 : decode cX4_mayBe 94 = .ok (.isub, 1) := by decide +kernel
theorem dX4_mayBe_95 : decode cX4_mayBe 95 = .ok (.istore 6, 2) := by decide +kernel
theorem dX4_mayBe_97 : decode cX4_mayBe 97 = .ok (.iload 6, 2) := by decide +kernel
theorem dX4_mayBe_99 : decode cX4_mayBe 99 = .ok (.aload_n 0, 1) := by decide +kernel
theorem dX4_mayBe_100 : decode cX4_mayBe 100 = .ok (.getfield 191, 3) := by decide +kernel
theorem dX4_mayBe_103 : decode cX4_mayBe 103 = .ok (.if_icmp .eq 20, 3) := by decide +kernel
theorem dX4_mayBe_106 : decode cX4_mayBe 106 = .ok (.iload 6, 2) := by decide +kernel
theorem dX4_mayBe_108 : decode cX4_mayBe 108 = .ok (.aload_n 0, 1) := by decide +kernel
theorem dX4_mayBe_109 : decode cX4_mayBe 109 = .ok (.getfield 191, 3) := by decide +kernel
theorem dX4_mayBe_112 : decode cX4_mayBe 112 = .ok (.if_icmp .le 7, 3) := by decide +kernel
theorem dX4_mayBe_115 : decode cX4_mayBe 115 = .ok (.iconst 1, 1) := by decide +kernel
theorem dX4_mayBe_116 : decode cX4_mayBe 116 = .ok (.goto 45, 3) := by decide +kernel
theorem dX4_mayBe_119 : decode cX4_mayBe 119 = .ok (.iconst 0, 1) := by decide +kernel
theorem dX4_mayBe_120 : decode cX4_mayBe 120 = .ok (.goto 41, 3) := by decide +kernel
theorem dX4_mayBe_123 : decode cX4_mayBe 123 = .ok (.iload 4, 2) := by decide +kernel
theorem dX4_mayBe_125 : decode cX4_mayBe 125 = .ok (.aload_n 0, 1) := by decide +kernel
theorem dX4_mayBe_126 : decode cX4_mayBe 126 = .ok (.getfield 87, 3) := by decide +kernel
theorem dX4_mayBe_129 : decode cX4_mayBe 129 = .ok (.iadd, 1) := by decide +kernel
theorem dX4_mayBe_130 : decode cX4_mayBe 130 = .ok (.iload_n 1, 1) := by decide +kernel
theorem dX4_mayBe_131 : decode cX4_mayBe 131 = .ok (.isub, 1) := by decide +kernel
theorem dX4_mayBe_132 : decode cX4_mayBe 132 = .ok (.aload_n 0, 1) := by decide +kernel
theorem dX4_mayBe_133 : decode cX4_mayBe 133 = .ok (.getfield 194, 3) := by decide +kernel
theorem dX4_mayBe_136 : decode cX4_mayBe 136 = .ok (.if_icmp .lt 20, 3) := by decide +kernel
theorem dX4_mayBe_139 : decode cX4_mayBe 139 = .ok (.iload_n 1, 1) := by decide +kernel
theorem dX4_mayBe_140 : decode cX4_mayBe 140 = .ok (.aload_n 0, 1) := by decide +kernel
theorem dX4_mayBe_141 : decode cX4_mayBe 141 = .ok (.getfield 87, 3) := by decide +kernel
theorem dX4_mayBe_144 : decode cX4_mayBe 144 = .ok (.if_icmp .ne 16, 3) := by decide +kernel
theorem dX4_mayBe_147 : decode cX4_mayBe 147 = .ok (.iload 4, 2) := by decide +kernel
theorem dX4_mayBe_149 : decode cX4_mayBe 149 = .ok (.aload_n 0, 1) := by decide +kernel
theorem dX4_mayBe_150 : decode cX4_mayBe 150 = .ok (.getfield 194, 3) := by decide +kernel
theorem dX4_mayBe_153 : decode cX4_mayBe 153 = .ok (.if_icmp .ge 7, 3) := by decide +kernel
theorem dX4_mayBe_156 : decode cX4_mayBe 156 = .ok (.iconst 1, 1) := by decide +kernel
theorem dX4_mayBe_157 : decode cX4_mayBe 157 = .ok (.goto 4, 3) := by decide +kernel
theorem dX4_mayBe_160 : decode cX4_mayBe 160 = .ok (.iconst 0, 1) := by decide +kernel
theorem dX4_mayBe_161 : decode cX4_mayBe 161 = .ok (.ireturn, 1) := by decide +kernel
theorem dX4_isShort_0 : decode cX4_isShort 0 = .ok (.iload_n 1, 1) := by decide +kernel
theorem dX4_isShort_1 : decode cX4_isShort 1 = .ok (.istore_n 3, 1) := by decide +kernel
theorem dX4_isShort_2 : decode cX4_isShort 2 = .ok (.iconst 1, 1) := by decide +kernel
theorem dX4_isShort_3 : decode cX4_isShort 3 = .ok (.istore 4, 2) := by decide +kernel
theorem dX4_isShort_5 : decode cX4_isShort 5 = .ok (.iload_n 3, 1) := by decide +kernel
theorem dX4_isShort_6 : decode cX4_isShort 6 = .ok (.iload_n 2, 1) := by decide +kernel
theorem dX4_isShort_7 : decode cX4_isShort 7 = .ok (.if_icmp .ge 35, 3) := by decide +kernel
theorem dX4_isShort_10 : decode cX4_isShort 10 = .ok (.aload_n 0, 1) := by decide +kernel
theorem dX4_isShort_11 : decode cX4_isShort 11 = .ok (.getfield 60, 3) := by decide +kernel
theorem dX4_isShort_14 : decode cX4_isShort 14 = .ok (.iload_n 3, 1) := by decide +kernel
theorem dX4_isShort_15 : decode cX4_isShort 15 = .ok (.iaload, 1) := by decide +kernel
theorem dX4_isShort_16 : decode cX4_isShort 16 = .ok (.iload_n 1, 1) := by decide +kernel
theorem dX4_isShort_17 : decode cX4_isShort 17 = .ok (.if_icmp .eq 25, 3) := by decide +kernel
theorem dX4_isShort_20 : decode cX4_isShort 20 = .ok (.iload 4, 2) := by decide +kernel
theorem dX4_isShort_22 : decode cX4_isShort 22 = .ok (.aload_n 0, 1) := by decide +kernel
theorem dX4_isShort_23 : decode cX4_isShort 23 = .ok (.getfield 57, 3) := by decide +kernel
theorem dX4_isShort_26 : decode cX4_isShort 26 = .ok (.if_icmp .gt 16, 3) := by decide +kernel
theorem dX4_isShort_29 : decode cX4_isShort 29 = .ok (.aload_n 0, 1) := by decide +kernel
theorem dX4_isShort_30 : decode cX4_isShort 30 = .ok (.getfield 60, 3) := by decide +kernel
theorem dX4_isShort_33 : decode cX4_isShort 33 = .ok (.iload_n 3, 1) := by decide +kernel
theorem dX4_isShort_34 : decode cX4_isShort 34 = .ok (.iaload, 1) := by decide +kernel
theorem dX4_isShort_35 : decode cX4_isShort 35 = .ok (.istore_n 3, 1) := by decide +kernel
theorem dX4_isShort_36 : decode cX4_isShort 36 = .ok (.iinc 4 1, 3) := by decide +kernel
theorem dX4_isShort_39 : decode cX4_isShort 39 = .ok (.goto (-34), 3) := by decide +kernel
theorem dX4_isShort_42 : decode cX4_isShort 42 = .ok (.iload_n 3, 1) := by decide +kernel
theorem dX4_isShort_43 : decode cX4_isShort 43 = .ok (.iload_n 2, 1) := by decide +kernel
theorem dX4_isShort_44 : decode cX4_isShort 44 = .ok (.if_icmp .ge 28, 3) := by decide +kernel
theorem dX4_isShort_47 : decode cX4_isShort 47 = .ok (.aload_n 0, 1) := by decide +kernel
theorem dX4_isShort_48 : decode cX4_isShort 48 = .ok (.getfield 60, 3) := by decide +kernel
theorem dX4_isShort_51 : decode cX4_isShort 51 = .ok (.iload_n 3, 1) := by decide +kernel
theorem dX4_isShort_52 : decode cX4_isShort 52 = .ok (.iaload, 1) := by decide +kernel
theorem dX4_isShort_53 : decode cX4_isShort 53 = .ok (.iload_n 1, 1) := by decide +kernel
theorem dX4_isShort_54 : decode cX4_isShort 54 = .ok (.if_icmp .ne 18, 3) := by decide +kernel
theorem dX4_isShort_57 : decode cX4_isShort 57 = .ok (.iload 4, 2) := by decide +kernel
theorem dX4_isShort_59 : decode cX4_isShort 59 = .ok (.aload_n 0, 1) := by decide +kernel
theorem dX4_isShort_60 : decode cX4_isShort 60 = .ok (.getfield 57, 3) := by decide +kernel
theorem dX4_isShort_63 : decode cX4_isShort 63 = .ok (.if_icmp .gt 7, 3) := by decide +kernel
theorem dX4_isShort_66 : decode cX4_isShort 66 = .ok (.iconst 1, 1) := by decide +kernel
theorem dX4_isShort_67 : decode cX4_isShort 67 = .ok (.goto 4, 3) := by decide +kernel
theorem dX4_isShort_70 : decode cX4_isShort 70 = .ok (.iconst 0, 1) := by decide +kernel
theorem dX4_isShort_71 : decode cX4_isShort 71 = .ok (.ireturn, 1) := by decide +kernel
theorem dX4_isShort_72 : decode cX4_isShort 72 = .ok (.iload_n 1, 1) := by decide +kernel
theorem dX4_isShort_73 : decode cX4_isShort 73 = .ok (.istore 5, 2) := by decide +kernel
theorem dX4_isShort_75 : decode cX4_isShort 75 = .ok (.iconst 1, 1) := by decide +kernel
theorem dX4_isShort_76 : decode cX4_isShort 76 = .ok (.istore 6, 2) := by decide +kernel
theorem dX4_isShort_78 : decode cX4_isShort 78 = .ok (.iload 6, 2) := by decide +kernel
theorem dX4_isShort_80 : decode cX4_isShort 80 = .ok (.ifCond .eq 102, 3) := by decide +kernel
theorem dX4_isShort_83 : decode cX4_isShort 83 = .ok (.iload 4, 2) := by decide +kernel
theorem dX4_isShort_85 : decode cX4_isShort 85 = .ok (.aload_n 0, 1) := by decide +kernel
theorem dX4_isShort_86 : decode cX4_isShort 86 = .ok (.getfield 57, 3) := by decide +kernel
theorem dX4_isShort_89 : decode cX4_isShort 89 = .ok (.if_icmp .gt 93, 3) := by decide +kernel
theorem dX4_isShort_92 : decode cX4_isShort 92 = .ok (.iconst (-1), 1) := by decide +kernel
theorem dX4_isShort_93 : decode cX4_isShort 93 = .ok (.istore 7, 2) := by decide +kernel
theorem dX4_isShort_95 : decode cX4_isShort 95 = .ok (.iconst 0, 1) := by decide +kernel
theorem dX4_isShort_96 : decode cX4_isShort 96 = .ok (.istore 8, 2) := by decide +kernel
theorem dX4_isShort_98 : decode cX4_isShort 98 = .ok (.iload 8, 2) := by decide +kernel
theorem dX4_isShort_100 : decode cX4_isShort 100 = .ok (.iload_n 2, 1) := by decide +kernel
theorem dX4_isShort_101 : decode cX4_isShort 101 = .ok (.if_icmp .ge 37, 3) := by decide +kernel
theorem dX4_isShort_104 : decode cX4_isShort 104 = .ok (.aload_n 0, 1) := by decide +kernel
theorem dX4_isShort_105 : decode cX4_isShort 105 = .ok (.getfield 60, 3) := by decide +kernel
theorem dX4_isShort_108 : decode cX4_isShort 108 = .ok (.iload 8, 2) := by decide +kernel
theorem dX4_isShort_110 : decode cX4_isShort 110 = .ok (.iaload, 1) := by decide +kernel
theorem dX4_isShort_111 : decode cX4_isShort 111 = .ok (.iload 5, 2) := by decide +kernel
theorem dX4_isShort_113 : decode cX4_isShort 113 = .ok (.if_icmp .ne 15, 3) := by decide +kernel
theorem dX4_isShort_116 : decode cX4_isShort 116 = .ok (.iload 8, 2) := by decide +kernel
theorem dX4_isShort_118 : decode cX4_isShort 118 = .ok (.iload 5, 2) := by decide +kernel
theorem dX4_isShort_120 : decode cX4_isShort 120 = .ok (.if_icmp .eq 8, 3) := by decide +kernel
theorem dX4_isShort_123 : decode cX4_isShort 123 = .ok (.iload 8, 2) := by decide +kernel
theorem dX4_isShort_125 : decode cX4_isShort 125 = .ok (.goto 5, 3) := by decide +kernel
theorem dX4_isShort_128 : decode cX4_isShort 128 = .ok (.iload 7, 2) := by decide +kernel
theorem dX4_isShort_130 : decode cX4_isShort 130 = .ok (.istore 7, 2) := by decide +kernel
theorem dX4_isShort_132 : decode cX4_isShort 132 = .ok (.iinc 8 1, 3) := by decide +kernel
theorem dX4_isShort_135 : decode cX4_isShort 135 = .ok (.goto (-37), 3) := by decide +kernel
theorem dX4_isShort_138 : decode cX4_isShort 138 = .ok (.iload 7, 2) := by decide +kernel
theorem dX4_isShort_140 : decode cX4_isShort 140 = .ok (.ifCond .lt 7, 3) := by decide +kernel
theorem dX4_isShort_143 : decode cX4_isShort 143 = .ok (.iconst 1, 1) := by decide +kernel
theorem dX4_isShort_144 : decode cX4_isShort 144 = .ok (.goto 4, 3) := by decide +kernel
theorem dX4_isShort_147 : decode cX4_isShort 147 = .ok (.iconst 0, 1) := by decide +kernel
theorem dX4_isShort_148 : decode cX4_isShort 148 = .ok (.istore 6, 2) := by decide +kernel
theorem dX4_isShort_150 : decode cX4_isShort 150 = .ok (.iload 6, 2) := by decide +kernel
theorem dX4_isShort_152 : decode cX4_isShort 152 = .ok (.ifCond .eq 8, 3) := by decide +kernel
theorem dX4_isShort_155 : decode cX4_isShort 155 = .ok (.iload 7, 2) := by decide +kernel
theorem dX4_isShort_157 : decode cX4_isShort 157 = .ok (.goto 5, 3) := by decide +kernel
theorem dX4_isShort_160 : decode cX4_isShort 160 = .ok (.iload 5, 2) := by decide +kernel
theorem dX4_isShort_162 : decode cX4_isShort 162 = .ok (.istore 5, 2) := by decide +kernel
theorem dX4_isShort_164 : decode cX4_isShort 164 = .ok (.iload 4, 2) := by decide +kernel
theorem dX4_isShort_166 : decode cX4_isShort 166 = .ok (.iload 6, 2) := by decide +kernel
theorem dX4_isShort_168 : decode cX4_isShort 168 = .ok (.ifCond .eq 7, 3) := by decide +kernel
theorem dX4_isShort_171 : decode cX4_isShort 171 = .ok (.iconst 1, 1) := by decide +kernel
theorem dX4_isShort_172 : decode cX4_isShort 172 = .ok (.goto 4, 3) := by decide +kernel
theorem dX4_isShort_175 : decode cX4_isShort 175 = .ok (.iconst 0, 1) := by decide +kernel
theorem dX4_isShort_176 : decode cX4_isShort 176 = .ok (.iadd, 1) := by decide +kernel
theorem dX4_isShort_177 : decode cX4_isShort 177 = .ok (.istore 4, 2) := by decide +kernel
theorem dX4_isShort_179 : decode cX4_isShort 179 = .ok (.goto (-101), 3) := by decide +kernel
theorem dX4_isShort_182 : decode cX4_isShort 182 = .ok (.iload 4, 2) := by decide +kernel
theorem dX4_isShort_184 : decode cX4_isShort 184 = .ok (.aload_n 0, 1) := by decide +kernel
theorem dX4_isShort_185 : decode cX4_isShort 185 = .ok (.getfield 57, 3) := by decide +kernel
theorem dX4_isShort_188 : decode cX4_isShort 188 = .ok (.if_icmp .gt 7, 3) := by decide +kernel
theorem dX4_isShort_191 : decode cX4_isShort 191 = .ok (.iconst 1, 1) := by decide +kernel
theorem dX4_isShort_192 : decode cX4_isShort 192 = .ok (.goto 4, 3) := by decide +kernel
theorem dX4_isShort_195 : decode cX4_isShort 195 = .ok (.iconst 0, 1) := by decide +kernel
theorem dX4_isShort_196 : decode cX4_isShort 196 = .ok (.ireturn, 1) := by decide +kernel
theorem dX4_offers_0 : decode cX4_offers 0 = .ok (.aload_n 0, 1) := by decide +kernel
theorem dX4_offers_1 : decode cX4_offers 1 = .ok (.getfield 181, 3) := by decide +kernel
theorem dX4_offers_4 : decode cX4_offers 4 = .ok (.ifCond .eq 18, 3) := by decide +kernel
theorem dX4_offers_7 : decode cX4_offers 7 = .ok (.aload_n 0, 1) := by decide +kernel
theorem dX4_offers_8 : decode cX4_offers 8 = .ok (.getfield 185, 3) := by decide +kernel
theorem dX4_offers_11 : decode cX4_offers 11 = .ok (.ifCond .eq 15, 3) := by decide +kernel
theorem dX4_offers_14 : decode cX4_offers 14 = .ok (.iload_n 1, 1) := by decide +kernel
theorem dX4_offers_15 : decode cX4_offers 15 = .ok (.aload_n 0, 1) := by decide +kernel
theorem dX4_offers_16 : decode cX4_offers 16 = .ok (.getfield 188, 3) := by decide +kernel
theorem dX4_offers_19 : decode cX4_offers 19 = .ok (.if_icmp .le 7, 3) := by decide +kernel
theorem dX4_offers_22 : decode cX4_offers 22 = .ok (.iconst 1, 1) := by decide +kernel
theorem dX4_offers_23 : decode cX4_offers 23 = .ok (.goto 4, 3) := by decide +kernel
theorem dX4_offers_26 : decode cX4_offers 26 = .ok (.iconst 0, 1) := by decide +kernel
theorem dX4_offers_27 : decode cX4_offers 27 = .ok (.istore 4, 2) := by decide +kernel
theorem dX4_offers_29 : decode cX4_offers 29 = .ok (.iload 4, 2) := by decide +kernel
theorem dX4_offers_31 : decode cX4_offers 31 = .ok (.ifCond .ne 49, 3) := by decide +kernel
theorem dX4_offers_34 : decode cX4_offers 34 = .ok (.aload_n 0, 1) := by decide +kernel
theorem dX4_offers_35 : decode cX4_offers 35 = .ok (.getfield 185, 3) := by decide +kernel
theorem dX4_offers_38 : decode cX4_offers 38 = .ok (.ifCond .eq 11, 3) := by decide +kernel
theorem dX4_offers_41 : decode cX4_offers 41 = .ok (.iload_n 1, 1) := by decide +kernel
theorem dX4_offers_42 : decode cX4_offers 42 = .ok (.aload_n 0, 1) := by decide +kernel
theorem dX4_offers_43 : decode cX4_offers 43 = .ok (.getfield 188, 3) := by decide +kernel
theorem dX4_offers_46 : decode cX4_offers 46 = .ok (.if_icmp .ne 34, 3) := by decide +kernel
theorem dX4_offers_49 : decode cX4_offers 49 = .ok (.iload_n 2, 1) := by decide +kernel
theorem dX4_offers_50 : decode cX4_offers 50 = .ok (.aload_n 0, 1) := by decide +kernel
theorem dX4_offers_51 : decode cX4_offers 51 = .ok (.getfield 191, 3) := by decide +kernel
theorem dX4_offers_54 : decode cX4_offers 54 = .ok (.if_icmp .gt 19, 3) := by decide +kernel
theorem dX4_offers_57 : decode cX4_offers 57 = .ok (.iload_n 2, 1) := by decide +kernel
theorem dX4_offers_58 : decode cX4_offers 58 = .ok (.aload_n 0, 1) := by decide +kernel
theorem dX4_offers_59 : decode cX4_offers 59 = .ok (.getfield 191, 3) := by decide +kernel
theorem dX4_offers_62 : decode cX4_offers 62 = .ok (.if_icmp .ne 15, 3) := by decide +kernel
theorem dX4_offers_65 : decode cX4_offers 65 = .ok (.iload_n 3, 1) := by decide +kernel
theorem dX4_offers_66 : decode cX4_offers 66 = .ok (.aload_n 0, 1) := by decide +kernel
theorem dX4_offers_67 : decode cX4_offers 67 = .ok (.getfield 194, 3) := by decide +kernel
theorem dX4_offers_70 : decode cX4_offers 70 = .ok (.if_icmp .ge 7, 3) := by decide +kernel
theorem dX4_offers_73 : decode cX4_offers 73 = .ok (.iconst 1, 1) := by decide +kernel
theorem dX4_offers_74 : decode cX4_offers 74 = .ok (.goto 4, 3) := by decide +kernel
theorem dX4_offers_77 : decode cX4_offers 77 = .ok (.iconst 0, 1) := by decide +kernel
theorem dX4_offers_78 : decode cX4_offers 78 = .ok (.istore 4, 2) := by decide +kernel
theorem dX4_offers_80 : decode cX4_offers 80 = .ok (.iload 4, 2) := by decide +kernel
theorem dX4_offers_82 : decode cX4_offers 82 = .ok (.ifCond .ne 4, 3) := by decide +kernel
theorem dX4_offers_85 : decode cX4_offers 85 = .ok (.return_, 1) := by decide +kernel
theorem dX4_offers_86 : decode cX4_offers 86 = .ok (.aload_n 0, 1) := by decide +kernel
theorem dX4_offers_87 : decode cX4_offers 87 = .ok (.iconst 1, 1) := by decide +kernel
theorem dX4_offers_88 : decode cX4_offers 88 = .ok (.putfield 181, 3) := by decide +kernel
theorem dX4_offers_91 : decode cX4_offers 91 = .ok (.aload_n 0, 1) := by decide +kernel
theorem dX4_offers_92 : decode cX4_offers 92 = .ok (.iload_n 1, 1) := by decide +kernel
theorem dX4_offers_93 : decode cX4_offers 93 = .ok (.putfield 188, 3) := by decide +kernel
theorem dX4_offers_96 : decode cX4_offers 96 = .ok (.aload_n 0, 1) := by decide +kernel
theorem dX4_offers_97 : decode cX4_offers 97 = .ok (.iload_n 2, 1) := by decide +kernel
theorem dX4_offers_98 : decode cX4_offers 98 = .ok (.putfield 191, 3) := by decide +kernel
theorem dX4_offers_101 : decode cX4_offers 101 = .ok (.aload_n 0, 1) := by decide +kernel
theorem dX4_offers_102 : decode cX4_offers 102 = .ok (.iload_n 3, 1) := by decide +kernel
theorem dX4_offers_103 : decode cX4_offers 103 = .ok (.putfield 194, 3) := by decide +kernel
theorem dX4_offers_106 : decode cX4_offers 106 = .ok (.iconst 0, 1) := by decide +kernel
theorem dX4_offers_107 : decode cX4_offers 107 = .ok (.istore 5, 2) := by decide +kernel
theorem dX4_offers_109 : decode cX4_offers 109 = .ok (.iload 5, 2) := by decide +kernel
theorem dX4_offers_111 : decode cX4_offers 111 = .ok (.aload_n 0, 1) := by decide +kernel
theorem dX4_offers_112 : decode cX4_offers 112 = .ok (.getfield 87, 3) := by decide +kernel
theorem dX4_offers_115 : decode cX4_offers 115 = .ok (.if_icmp .ge 39, 3) := by decide +kernel
theorem dX4_offers_118 : decode cX4_offers 118 = .ok (.aload_n 0, 1) := by decide +kernel
theorem dX4_offers_119 : decode cX4_offers 119 = .ok (.getfield 63, 3) := by decide +kernel
theorem dX4_offers_122 : decode cX4_offers 122 = .ok (.iload 5, 2) := by decide +kernel
theorem dX4_offers_124 : decode cX4_offers 124 = .ok (.aload_n 0, 1) := by decide +kernel
theorem dX4_offers_125 : decode cX4_offers 125 = .ok (.getfield 60, 3) := by decide +kernel
theorem dX4_offers_128 : decode cX4_offers 128 = .ok (.iload 5, 2) := by decide +kernel
theorem dX4_offers_130 : decode cX4_offers 130 = .ok (.iaload, 1) := by decide +kernel
theorem dX4_offers_131 : decode cX4_offers 131 = .ok (.iload 5, 2) := by decide +kernel
theorem dX4_offers_133 : decode cX4_offers 133 = .ok (.if_icmp .ne 7, 3) := by decide +kernel
theorem dX4_offers_136 : decode cX4_offers 136 = .ok (.iconst (-1), 1) := by decide +kernel
theorem dX4_offers_137 : decode cX4_offers 137 = .ok (.goto 10, 3) := by decide +kernel
theorem dX4_offers_140 : decode cX4_offers 140 = .ok (.aload_n 0, 1) := by decide +kernel
theorem dX4_offers_141 : decode cX4_offers 141 = .ok (.getfield 60, 3) := by decide +kernel
theorem dX4_offers_144 : decode cX4_offers 144 = .ok (.iload 5, 2) := by decide +kernel
theorem dX4_offers_146 : decode cX4_offers 146 = .ok (.iaload, 1) := by decide +kernel
theorem dX4_offers_147 : decode cX4_offers 147 = .ok (.iastore, 1) := by decide +kernel
theorem dX4_offers_148 : decode cX4_offers 148 = .ok (.iinc 5 1, 3) := by decide +kernel
theorem dX4_offers_151 : decode cX4_offers 151 = .ok (.goto (-42), 3) := by decide +kernel
theorem dX4_offers_154 : decode cX4_offers 154 = .ok (.return_, 1) := by decide +kernel
theorem dX4_goes_0 : decode cX4_goes 0 = .ok (.aload_n 0, 1) := by decide +kernel
theorem dX4_goes_1 : decode cX4_goes 1 = .ok (.iload_n 1, 1) := by decide +kernel
theorem dX4_goes_2 : decode cX4_goes 2 = .ok (.iload_n 3, 1) := by decide +kernel
theorem dX4_goes_3 : decode cX4_goes 3 = .ok (.iload 4, 2) := by decide +kernel
theorem dX4_goes_5 : decode cX4_goes 5 = .ok (.iload 5, 2) := by decide +kernel
theorem dX4_goes_7 : decode cX4_goes 7 = .ok (.invokevirtual 197, 3) := by decide +kernel
theorem dX4_goes_10 : decode cX4_goes 10 = .ok (.ifCond .ne 4, 3) := by decide +kernel
theorem dX4_goes_13 : decode cX4_goes 13 = .ok (.return_, 1) := by decide +kernel
theorem dX4_goes_14 : decode cX4_goes 14 = .ok (.iload_n 1, 1) := by decide +kernel
theorem dX4_goes_15 : decode cX4_goes 15 = .ok (.aload_n 0, 1) := by decide +kernel
theorem dX4_goes_16 : decode cX4_goes 16 = .ok (.getfield 87, 3) := by decide +kernel
theorem dX4_goes_19 : decode cX4_goes 19 = .ok (.if_icmp .ne 13, 3) := by decide +kernel
theorem dX4_goes_22 : decode cX4_goes 22 = .ok (.aload_n 0, 1) := by decide +kernel
theorem dX4_goes_23 : decode cX4_goes 23 = .ok (.iload_n 3, 1) := by decide +kernel
theorem dX4_goes_24 : decode cX4_goes 24 = .ok (.iload 4, 2) := by decide +kernel
theorem dX4_goes_26 : decode cX4_goes 26 = .ok (.iload 5, 2) := by decide +kernel
theorem dX4_goes_28 : decode cX4_goes 28 = .ok (.invokevirtual 201, 3) := by decide +kernel
theorem dX4_goes_31 : decode cX4_goes 31 = .ok (.return_, 1) := by decide +kernel
theorem dX4_goes_32 : decode cX4_goes 32 = .ok (.iconst 0, 1) := by decide +kernel
theorem dX4_goes_33 : decode cX4_goes 33 = .ok (.istore 6, 2) := by decide +kernel
theorem dX4_goes_35 : decode cX4_goes 35 = .ok (.iload 6, 2) := by decide +kernel
theorem dX4_goes_37 : decode cX4_goes 37 = .ok (.aload_n 0, 1) := by decide +kernel
theorem dX4_goes_38 : decode cX4_goes 38 = .ok (.getfield 87, 3) := by decide +kernel
theorem dX4_goes_41 : decode cX4_goes 41 = .ok (.if_icmp .ge 102, 3) := by decide +kernel
theorem dX4_goes_44 : decode cX4_goes 44 = .ok (.iload 6, 2) := by decide +kernel
theorem dX4_goes_46 : decode cX4_goes 46 = .ok (.iload_n 1, 1) := by decide +kernel
theorem dX4_goes_47 : decode cX4_goes 47 = .ok (.if_icmp .eq 90, 3) := by decide +kernel
theorem dX4_goes_50 : decode cX4_goes 50 = .ok (.iload_n 2, 1) := by decide +kernel
theorem dX4_goes_51 : decode cX4_goes 51 = .ok (.iload 6, 2) := by decide +kernel
theorem dX4_goes_53 : decode cX4_goes 53 = .ok (.ishr, 1) := by decide +kernel
theorem dX4_goes_54 : decode cX4_goes 54 = .ok (.iconst 1, 1) := by decide +kernel
theorem dX4_goes_55 : decode cX4_goes 55 = .ok (.iand, 1) := by decide +kernel
theorem dX4_goes_56 : decode cX4_goes 56 = .ok (.iconst 1, 1) := by decide +kernel
theorem dX4_goes_57 : decode cX4_goes 57 = .ok (.if_icmp .eq 80, 3) := by decide +kernel
theorem dX4_goes_60 : decode cX4_goes 60 = .ok (.aload_n 0, 1) := by decide +kernel
theorem dX4_goes_61 : decode cX4_goes 61 = .ok (.iload_n 1, 1) := by decide +kernel
theorem dX4_goes_62 : decode cX4_goes 62 = .ok (.iload 6, 2) := by decide +kernel
theorem dX4_goes_64 : decode cX4_goes 64 = .ok (.invokevirtual 148, 3) := by decide +kernel
theorem dX4_goes_67 : decode cX4_goes 67 = .ok (.ifCond .ne 6, 3) := by decide +kernel
theorem dX4_goes_70 : decode cX4_goes 70 = .ok (.goto 67, 3) := by decide +kernel
theorem dX4_goes_73 : decode cX4_goes 73 = .ok (.aload_n 0, 1) := by decide +kernel
theorem dX4_goes_74 : decode cX4_goes 74 = .ok (.getfield 60, 3) := by decide +kernel
theorem dX4_goes_77 : decode cX4_goes 77 = .ok (.iload_n 1, 1) := by decide +kernel
theorem dX4_goes_78 : decode cX4_goes 78 = .ok (.iload 6, 2) := by decide +kernel
theorem dX4_goes_80 : decode cX4_goes 80 = .ok (.iastore, 1) := by decide +kernel
theorem dX4_goes_81 : decode cX4_goes 81 = .ok (.aload_n 0, 1) := by decide +kernel
theorem dX4_goes_82 : decode cX4_goes 82 = .ok (.iload_n 1, 1) := by decide +kernel
theorem dX4_goes_83 : decode cX4_goes 83 = .ok (.iload_n 1, 1) := by decide +kernel
theorem dX4_goes_84 : decode cX4_goes 84 = .ok (.iconst 1, 1) := by decide +kernel
theorem dX4_goes_85 : decode cX4_goes 85 = .ok (.iadd, 1) := by decide +kernel
theorem dX4_goes_86 : decode cX4_goes 86 = .ok (.invokevirtual 205, 3) := by decide +kernel
theorem dX4_goes_89 : decode cX4_goes 89 = .ok (.ifCond .eq 48, 3) := by decide +kernel
theorem dX4_goes_92 : decode cX4_goes 92 = .ok (.aload_n 0, 1) := by decide +kernel
theorem dX4_goes_93 : decode cX4_goes 93 = .ok (.iload_n 1, 1) := by decide +kernel
theorem dX4_goes_94 : decode cX4_goes 94 = .ok (.iconst 1, 1) := by decide +kernel
theorem dX4_goes_95 : decode cX4_goes 95 = .ok (.iadd, 1) := by decide +kernel
theorem dX4_goes_96 : decode cX4_goes 96 = .ok (.iload_n 2, 1) := by decide +kernel
theorem dX4_goes_97 : decode cX4_goes 97 = .ok (.iconst 1, 1) := by decide +kernel
theorem dX4_goes_98 : decode cX4_goes 98 = .ok (.iload 6, 2) := by decide +kernel
theorem dX4_goes_100 : decode cX4_goes 100 = .ok (.ishl, 1) := by decide +kernel
theorem dX4_goes_101 : decode cX4_goes 101 = .ok (.ior, 1) := by decide +kernel
theorem dX4_goes_102 : decode cX4_goes 102 = .ok (.iload_n 3, 1) := by decide +kernel
theorem dX4_goes_103 : decode cX4_goes 103 = .ok (.aload_n 0, 1) := by decide +kernel
theorem dX4_goes_104 : decode cX4_goes 104 = .ok (.getfield 50, 3) := by decide +kernel
theorem dX4_goes_107 : decode cX4_goes 107 = .ok (.iload_n 1, 1) := by decide +kernel
theorem dX4_goes_108 : decode cX4_goes 108 = .ok (.iaload, 1) := by decide +kernel
theorem dX4_goes_109 : decode cX4_goes 109 = .ok (.iload 6, 2) := by decide +kernel
theorem dX4_goes_111 : decode cX4_goes 111 = .ok (.if_icmp .ne 7, 3) := by decide +kernel
theorem dX4_goes_114 : decode cX4_goes 114 = .ok (.iconst 1, 1) := by decide +kernel
theorem dX4_goes_115 : decode cX4_goes 115 = .ok (.goto 4, 3) := by decide +kernel
theorem dX4_goes_118 : decode cX4_goes 118 = .ok (.iconst 0, 1) := by decide +kernel
theorem dX4_goes_119 : decode cX4_goes 119 = .ok (.iadd, 1) := by decide +kernel
theorem dX4_goes_120 : decode cX4_goes 120 = .ok (.iload 4, 2) := by decide +kernel
theorem dX4_goes_122 : decode cX4_goes 122 = .ok (.iconst 1, 1) := by decide +kernel
theorem dX4_goes_123 : decode cX4_goes 123 = .ok (.iadd, 1) := by decide +kernel
theorem dX4_goes_124 : decode cX4_goes 124 = .ok (.iload 5, 2) := by decide +kernel
theorem dX4_goes_126 : decode cX4_goes 126 = .ok (.aload_n 0, 1) := by decide +kernel
theorem dX4_goes_127 : decode cX4_goes 127 = .ok (.iload_n 1, 1) := by decide +kernel
theorem dX4_goes_128 : decode cX4_goes 128 = .ok (.iload 6, 2) := by decide +kernel
theorem dX4_goes_130 : decode cX4_goes 130 = .ok (.invokevirtual 111, 3) := by decide +kernel
theorem dX4_goes_133 : decode cX4_goes 133 = .ok (.iadd, 1) := by decide +kernel
theorem dX4_goes_134 : decode cX4_goes 134 = .ok (.invokevirtual 208, 3) := by decide +kernel
theorem dX4_goes_137 : decode cX4_goes 137 = .ok (.iinc 6 1, 3) := by decide +kernel
theorem dX4_goes_140 : decode cX4_goes 140 = .ok (.goto (-105), 3) := by decide +kernel
theorem dX4_goes_143 : decode cX4_goes 143 = .ok (.iload_n 2, 1) := by decide +kernel
theorem dX4_goes_144 : decode cX4_goes 144 = .ok (.iload_n 1, 1) := by decide +kernel
theorem dX4_goes_145 : decode cX4_goes 145 = .ok (.ishr, 1) := by decide +kernel
theorem dX4_goes_146 : decode cX4_goes 146 = .ok (.iconst 1, 1) := by decide +kernel
theorem dX4_goes_147 : decode cX4_goes 147 = .ok (.iand, 1) := by decide +kernel
theorem dX4_goes_148 : decode cX4_goes 148 = .ok (.ifCond .ne 27, 3) := by decide +kernel
theorem dX4_goes_151 : decode cX4_goes 151 = .ok (.aload_n 0, 1) := by decide +kernel
theorem dX4_goes_152 : decode cX4_goes 152 = .ok (.getfield 60, 3) := by decide +kernel
theorem dX4_goes_155 : decode cX4_goes 155 = .ok (.iload_n 1, 1) := by decide +kernel
theorem dX4_goes_156 : decode cX4_goes 156 = .ok (.iload_n 1, 1) := by decide +kernel
theorem dX4_goes_157 : decode cX4_goes 157 = .ok (.iastore, 1) := by decide +kernel
theorem dX4_goes_158 : decode cX4_goes 158 = .ok (.aload_n 0, 1) := by decide +kernel
theorem dX4_goes_159 : decode cX4_goes 159 = .ok (.iload_n 1, 1) := by decide +kernel
theorem dX4_goes_160 : decode cX4_goes 160 = .ok (.iconst 1, 1) := by decide +kernel
theorem dX4_goes_161 : decode cX4_goes 161 = .ok (.iadd, 1) := by decide +kernel
theorem dX4_goes_162 : decode cX4_goes 162 = .ok (.iload_n 2, 1) := by decide +kernel
theorem dX4_goes_163 : decode cX4_goes 163 = .ok (.iconst 1, 1) := by decide +kernel
theorem dX4_goes_164 : decode cX4_goes 164 = .ok (.iload_n 1, 1) := by decide +kernel
theorem dX4_goes_165 : decode cX4_goes 165 = .ok (.ishl, 1) := by decide +kernel
theorem dX4_goes_166 : decode cX4_goes 166 = .ok (.ior, 1) := by decide +kernel
theorem dX4_goes_167 : decode cX4_goes 167 = .ok (.iload_n 3, 1) := by decide +kernel
theorem dX4_goes_168 : decode cX4_goes 168 = .ok (.iload 4, 2) := by decide +kernel
theorem dX4_goes_170 : decode cX4_goes 170 = .ok (.iload 5, 2) := by decide +kernel
theorem dX4_goes_172 : decode cX4_goes 172 = .ok (.invokevirtual 208, 3) := by decide +kernel
theorem dX4_goes_175 : decode cX4_goes 175 = .ok (.return_, 1) := by decide +kernel
theorem dX4_all_0 : decode cX4_all 0 = .ok (.aload_n 0, 1) := by decide +kernel
theorem dX4_all_1 : decode cX4_all 1 = .ok (.iconst 0, 1) := by decide +kernel
theorem dX4_all_2 : decode cX4_all 2 = .ok (.putfield 181, 3) := by decide +kernel
theorem dX4_all_5 : decode cX4_all 5 = .ok (.aload_n 0, 1) := by decide +kernel
theorem dX4_all_6 : decode cX4_all 6 = .ok (.iload_n 1, 1) := by decide +kernel
theorem dX4_all_7 : decode cX4_all 7 = .ok (.putfield 185, 3) := by decide +kernel
theorem dX4_all_10 : decode cX4_all 10 = .ok (.aload_n 0, 1) := by decide +kernel
theorem dX4_all_11 : decode cX4_all 11 = .ok (.iconst 0, 1) := by decide +kernel
theorem dX4_all_12 : decode cX4_all 12 = .ok (.iconst 0, 1) := by decide +kernel
theorem dX4_all_13 : decode cX4_all 13 = .ok (.iconst 0, 1) := by decide +kernel
theorem dX4_all_14 : decode cX4_all 14 = .ok (.iconst 0, 1) := by decide +kernel
theorem dX4_all_15 : decode cX4_all 15 = .ok (.iconst 0, 1) := by decide +kernel
theorem dX4_all_16 : decode cX4_all 16 = .ok (.invokevirtual 208, 3) := by decide +kernel
theorem dX4_all_19 : decode cX4_all 19 = .ok (.iconst 0, 1) := by decide +kernel
theorem dX4_all_20 : decode cX4_all 20 = .ok (.istore_n 2, 1) := by decide +kernel
theorem dX4_all_21 : decode cX4_all 21 = .ok (.iload_n 2, 1) := by decide +kernel
theorem dX4_all_22 : decode cX4_all 22 = .ok (.aload_n 0, 1) := by decide +kernel
theorem dX4_all_23 : decode cX4_all 23 = .ok (.getfield 87, 3) := by decide +kernel
theorem dX4_all_26 : decode cX4_all 26 = .ok (.if_icmp .ge 21, 3) := by decide +kernel
theorem dX4_all_29 : decode cX4_all 29 = .ok (.aload_n 0, 1) := by decide +kernel
theorem dX4_all_30 : decode cX4_all 30 = .ok (.getfield 50, 3) := by decide +kernel
theorem dX4_all_33 : decode cX4_all 33 = .ok (.iload_n 2, 1) := by decide +kernel
theorem dX4_all_34 : decode cX4_all 34 = .ok (.aload_n 0, 1) := by decide +kernel
theorem dX4_all_35 : decode cX4_all 35 = .ok (.getfield 63, 3) := by decide +kernel
theorem dX4_all_38 : decode cX4_all 38 = .ok (.iload_n 2, 1) := by decide +kernel
theorem dX4_all_39 : decode cX4_all 39 = .ok (.iaload, 1) := by decide +kernel
theorem dX4_all_40 : decode cX4_all 40 = .ok (.iastore, 1) := by decide +kernel
theorem dX4_all_41 : decode cX4_all 41 = .ok (.iinc 2 1, 3) := by decide +kernel
theorem dX4_all_44 : decode cX4_all 44 = .ok (.goto (-23), 3) := by decide +kernel
theorem dX4_all_47 : decode cX4_all 47 = .ok (.return_, 1) := by decide +kernel
theorem dX4_best_0 : decode cX4_best 0 = .ok (.aload_n 0, 1) := by decide +kernel
theorem dX4_best_1 : decode cX4_best 1 = .ok (.iconst 0, 1) := by decide +kernel
theorem dX4_best_2 : decode cX4_best 2 = .ok (.putfield 84, 3) := by decide +kernel
theorem dX4_best_5 : decode cX4_best 5 = .ok (.aload_n 0, 1) := by decide +kernel
theorem dX4_best_6 : decode cX4_best 6 = .ok (.iconst 0, 1) := by decide +kernel
theorem dX4_best_7 : decode cX4_best 7 = .ok (.putfield 98, 3) := by decide +kernel
theorem dX4_best_10 : decode cX4_best 10 = .ok (.aload_n 0, 1) := by decide +kernel
theorem dX4_best_11 : decode cX4_best 11 = .ok (.iconst 0, 1) := by decide +kernel
theorem dX4_best_12 : decode cX4_best 12 = .ok (.invokevirtual 212, 3) := by decide +kernel
theorem dX4_best_15 : decode cX4_best 15 = .ok (.aload_n 0, 1) := by decide +kernel
theorem dX4_best_16 : decode cX4_best 16 = .ok (.getfield 87, 3) := by decide +kernel
theorem dX4_best_19 : decode cX4_best 19 = .ok (.ifCond .ne 7, 3) := by decide +kernel
theorem dX4_best_22 : decode cX4_best 22 = .ok (.iconst 0, 1) := by decide +kernel
theorem dX4_best_23 : decode cX4_best 23 = .ok (.goto 7, 3) := by decide +kernel
theorem dX4_best_26 : decode cX4_best 26 = .ok (.aload_n 0, 1) := by decide +kernel
theorem dX4_best_27 : decode cX4_best 27 = .ok (.getfield 191, 3) := by decide +kernel
theorem dX4_best_30 : decode cX4_best 30 = .ok (.ireturn, 1) := by decide +kernel
theorem dX4_mend_0 : decode cX4_mend 0 = .ok (.aload_n 0, 1) := by decide +kernel
theorem dX4_mend_1 : decode cX4_mend 1 = .ok (.iconst 0, 1) := by decide +kernel
theorem dX4_mend_2 : decode cX4_mend 2 = .ok (.putfield 84, 3) := by decide +kernel
theorem dX4_mend_5 : decode cX4_mend 5 = .ok (.aload_n 0, 1) := by decide +kernel
theorem dX4_mend_6 : decode cX4_mend 6 = .ok (.iconst 0, 1) := by decide +kernel
theorem dX4_mend_7 : decode cX4_mend 7 = .ok (.putfield 98, 3) := by decide +kernel
theorem dX4_mend_10 : decode cX4_mend 10 = .ok (.aload_n 0, 1) := by decide +kernel
theorem dX4_mend_11 : decode cX4_mend 11 = .ok (.iconst 1, 1) := by decide +kernel
theorem dX4_mend_12 : decode cX4_mend 12 = .ok (.invokevirtual 212, 3) := by decide +kernel
theorem dX4_mend_15 : decode cX4_mend 15 = .ok (.aload_n 0, 1) := by decide +kernel
theorem dX4_mend_16 : decode cX4_mend 16 = .ok (.getfield 87, 3) := by decide +kernel
theorem dX4_mend_19 : decode cX4_mend 19 = .ok (.ifCond .ne 7, 3) := by decide +kernel
theorem dX4_mend_22 : decode cX4_mend 22 = .ok (.iconst 0, 1) := by decide +kernel
theorem dX4_mend_23 : decode cX4_mend 23 = .ok (.goto 7, 3) := by decide +kernel
theorem dX4_mend_26 : decode cX4_mend 26 = .ok (.aload_n 0, 1) := by decide +kernel
theorem dX4_mend_27 : decode cX4_mend 27 = .ok (.getfield 188, 3) := by decide +kernel
theorem dX4_mend_30 : decode cX4_mend 30 = .ok (.ireturn, 1) := by decide +kernel
theorem dX4_firstOf_0 : decode cX4_firstOf 0 = .ok (.iconst 0, 1) := by decide +kernel
theorem dX4_firstOf_1 : decode cX4_firstOf 1 = .ok (.istore_n 2, 1) := by decide +kernel
theorem dX4_firstOf_2 : decode cX4_firstOf 2 = .ok (.iload_n 2, 1) := by decide +kernel
theorem dX4_firstOf_3 : decode cX4_firstOf 3 = .ok (.aload_n 0, 1) := by decide +kernel
theorem dX4_firstOf_4 : decode cX4_firstOf 4 = .ok (.getfield 41, 3) := by decide +kernel
theorem dX4_firstOf_7 : decode cX4_firstOf 7 = .ok (.iload_n 1, 1) := by decide +kernel
theorem dX4_firstOf_8 : decode cX4_firstOf 8 = .ok (.iaload, 1) := by decide +kernel
theorem dX4_firstOf_9 : decode cX4_firstOf 9 = .ok (.if_icmp .ge 41, 3) := by decide +kernel
theorem dX4_firstOf_12 : decode cX4_firstOf 12 = .ok (.aload_n 0, 1) := by decide +kernel
theorem dX4_firstOf_13 : decode cX4_firstOf 13 = .ok (.getfield 44, 3) := by decide +kernel
theorem dX4_firstOf_16 : decode cX4_firstOf 16 = .ok (.bipush 10, 2) := by decide +kernel
theorem dX4_firstOf_18 : decode cX4_firstOf 18 = .ok (.iload_n 1, 1) := by decide +kernel
theorem dX4_firstOf_19 : decode cX4_firstOf 19 = .ok (.imul, 1) := by decide +kernel
theorem dX4_firstOf_20 : decode cX4_firstOf 20 = .ok (.iload_n 2, 1) := by decide +kernel
theorem dX4_firstOf_21 : decode cX4_firstOf 21 = .ok (.iadd, 1) := by decide +kernel
theorem dX4_firstOf_22 : decode cX4_firstOf 22 = .ok (.iaload, 1) := by decide +kernel
theorem dX4_firstOf_23 : decode cX4_firstOf 23 = .ok (.istore_n 3, 1) := by decide +kernel
theorem dX4_firstOf_24 : decode cX4_firstOf 24 = .ok (.aload_n 0, 1) := by decide +kernel
theorem dX4_firstOf_25 : decode cX4_firstOf 25 = .ok (.getfield 66, 3) := by decide +kernel
theorem dX4_firstOf_28 : decode cX4_firstOf 28 = .ok (.iload_n 3, 1) := by decide +kernel
theorem dX4_firstOf_29 : decode cX4_firstOf 29 = .ok (.baload, 1) := by decide +kernel
theorem dX4_firstOf_30 : decode cX4_firstOf 30 = .ok (.ifCond .eq 14, 3) := by decide +kernel
theorem dX4_firstOf_33 : decode cX4_firstOf 33 = .ok (.aload_n 0, 1) := by decide +kernel
theorem dX4_firstOf_34 : decode cX4_firstOf 34 = .ok (.iload_n 1, 1) := by decide +kernel
theorem dX4_firstOf_35 : decode cX4_firstOf 35 = .ok (.iload_n 3, 1) := by decide +kernel
theorem dX4_firstOf_36 : decode cX4_firstOf 36 = .ok (.invokevirtual 148, 3) := by decide +kernel
theorem dX4_firstOf_39 : decode cX4_firstOf 39 = .ok (.ifCond .eq 5, 3) := by decide +kernel
theorem dX4_firstOf_42 : decode cX4_firstOf 42 = .ok (.iload_n 3, 1) := by decide +kernel
theorem dX4_firstOf_43 : decode cX4_firstOf 43 = .ok (.ireturn, 1) := by decide +kernel
theorem dX4_firstOf_44 : decode cX4_firstOf 44 = .ok (.iinc 2 1, 3) := by decide +kernel
theorem dX4_firstOf_47 : decode cX4_firstOf 47 = .ok (.goto (-45), 3) := by decide +kernel
theorem dX4_firstOf_50 : decode cX4_firstOf 50 = .ok (.iconst (-1), 1) := by decide +kernel
theorem dX4_firstOf_51 : decode cX4_firstOf 51 = .ok (.ireturn, 1) := by decide +kernel
theorem dX4_leaver_0 : decode cX4_leaver 0 = .ok (.iconst 0, 1) := by decide +kernel
theorem dX4_leaver_1 : decode cX4_leaver 1 = .ok (.istore_n 1, 1) := by decide +kernel
theorem dX4_leaver_2 : decode cX4_leaver 2 = .ok (.iload_n 1, 1) := by decide +kernel
theorem dX4_leaver_3 : decode cX4_leaver 3 = .ok (.aload_n 0, 1) := by decide +kernel
theorem dX4_leaver_4 : decode cX4_leaver 4 = .ok (.getfield 87, 3) := by decide +kernel
theorem dX4_leaver_7 : decode cX4_leaver 7 = .ok (.if_icmp .ge 28, 3) := by decide +kernel
theorem dX4_leaver_10 : decode cX4_leaver 10 = .ok (.aload_n 0, 1) := by decide +kernel
theorem dX4_leaver_11 : decode cX4_leaver 11 = .ok (.getfield 66, 3) := by decide +kernel
theorem dX4_leaver_14 : decode cX4_leaver 14 = .ok (.iload_n 1, 1) := by decide +kernel
theorem dX4_leaver_15 : decode cX4_leaver 15 = .ok (.baload, 1) := by decide +kernel
theorem dX4_leaver_16 : decode cX4_leaver 16 = .ok (.ifCond .eq 13, 3) := by decide +kernel
theorem dX4_leaver_19 : decode cX4_leaver 19 = .ok (.aload_n 0, 1) := by decide +kernel
theorem dX4_leaver_20 : decode cX4_leaver 20 = .ok (.iload_n 1, 1) := by decide +kernel
theorem dX4_leaver_21 : decode cX4_leaver 21 = .ok (.invokevirtual 216, 3) := by decide +kernel
theorem dX4_leaver_24 : decode cX4_leaver 24 = .ok (.ifCond .ge 5, 3) := by decide +kernel
theorem dX4_leaver_27 : decode cX4_leaver 27 = .ok (.iload_n 1, 1) := by decide +kernel
theorem dX4_leaver_28 : decode cX4_leaver 28 = .ok (.ireturn, 1) := by decide +kernel
theorem dX4_leaver_29 : decode cX4_leaver 29 = .ok (.iinc 1 1, 3) := by decide +kernel
theorem dX4_leaver_32 : decode cX4_leaver 32 = .ok (.goto (-30), 3) := by decide +kernel
theorem dX4_leaver_35 : decode cX4_leaver 35 = .ok (.iconst (-1), 1) := by decide +kernel
theorem dX4_leaver_36 : decode cX4_leaver 36 = .ok (.ireturn, 1) := by decide +kernel
theorem dX4_isRound_0 : decode cX4_isRound 0 = .ok (.aload_n 0, 1) := by decide +kernel
theorem dX4_isRound_1 : decode cX4_isRound 1 = .ok (.getfield 69, 3) := by decide +kernel
theorem dX4_isRound_4 : decode cX4_isRound 4 = .ok (.iload_n 1, 1) := by decide +kernel
theorem dX4_isRound_5 : decode cX4_isRound 5 = .ok (.iaload, 1) := by decide +kernel
theorem dX4_isRound_6 : decode cX4_isRound 6 = .ok (.istore_n 2, 1) := by decide +kernel
theorem dX4_isRound_7 : decode cX4_isRound 7 = .ok (.iconst 0, 1) := by decide +kernel
theorem dX4_isRound_8 : decode cX4_isRound 8 = .ok (.istore_n 3, 1) := by decide +kernel
theorem dX4_isRound_9 : decode cX4_isRound 9 = .ok (.iload_n 3, 1) := by decide +kernel
theorem dX4_isRound_10 : decode cX4_isRound 10 = .ok (.aload_n 0, 1) := by decide +kernel
theorem dX4_isRound_11 : decode cX4_isRound 11 = .ok (.getfield 87, 3) := by decide +kernel
theorem dX4_isRound_14 : decode cX4_isRound 14 = .ok (.if_icmp .ge 21, 3) := by decide +kernel
theorem dX4_isRound_17 : decode cX4_isRound 17 = .ok (.iload_n 2, 1) := by decide +kernel
theorem dX4_isRound_18 : decode cX4_isRound 18 = .ok (.iload_n 1, 1) := by decide +kernel
theorem dX4_isRound_19 : decode cX4_isRound 19 = .ok (.if_icmp .eq 16, 3) := by decide +kernel
theorem dX4_isRound_22 : decode cX4_isRound 22 = .ok (.aload_n 0, 1) := by decide +kernel
theorem dX4_isRound_23 : decode cX4_isRound 23 = .ok (.getfield 69, 3) := by decide +kernel
theorem dX4_isRound_26 : decode cX4_isRound 26 = .ok (.iload_n 2, 1) := by decide +kernel
theorem dX4_isRound_27 : decode cX4_isRound 27 = .ok (.iaload, 1) := by decide +kernel
theorem dX4_isRound_28 : decode cX4_isRound 28 = .ok (.istore_n 2, 1) := by decide +kernel
theorem dX4_isRound_29 : decode cX4_isRound 29 = .ok (.iinc 3 1, 3) := by decide +kernel
theorem dX4_isRound_32 : decode cX4_isRound 32 = .ok (.goto (-23), 3) := by decide +kernel
theorem dX4_isRound_35 : decode cX4_isRound 35 = .ok (.iload_n 2, 1) := by decide +kernel
theorem dX4_isRound_36 : decode cX4_isRound 36 = .ok (.iload_n 1, 1) := by decide +kernel
theorem dX4_isRound_37 : decode cX4_isRound 37 = .ok (.if_icmp .ne 7, 3) := by decide +kernel
theorem dX4_isRound_40 : decode cX4_isRound 40 = .ok (.iconst 1, 1) := by decide +kernel
theorem dX4_isRound_41 : decode cX4_isRound 41 = .ok (.goto 4, 3) := by decide +kernel
theorem dX4_isRound_44 : decode cX4_isRound 44 = .ok (.iconst 0, 1) := by decide +kernel
theorem dX4_isRound_45 : decode cX4_isRound 45 = .ok (.ireturn, 1) := by decide +kernel
theorem dX4_trade_0 : decode cX4_trade 0 = .ok (.aload_n 0, 1) := by decide +kernel
theorem dX4_trade_1 : decode cX4_trade 1 = .ok (.iconst 0, 1) := by decide +kernel
theorem dX4_trade_2 : decode cX4_trade 2 = .ok (.putfield 84, 3) := by decide +kernel
theorem dX4_trade_5 : decode cX4_trade 5 = .ok (.aload_n 0, 1) := by decide +kernel
theorem dX4_trade_6 : decode cX4_trade 6 = .ok (.iconst 0, 1) := by decide +kernel
theorem dX4_trade_7 : decode cX4_trade 7 = .ok (.putfield 98, 3) := by decide +kernel
theorem dX4_trade_10 : decode cX4_trade 10 = .ok (.aload_n 0, 1) := by decide +kernel
theorem dX4_trade_11 : decode cX4_trade 11 = .ok (.getfield 87, 3) := by decide +kernel
theorem dX4_trade_14 : decode cX4_trade 14 = .ok (.istore_n 1, 1) := by decide +kernel
theorem dX4_trade_15 : decode cX4_trade 15 = .ok (.iconst 0, 1) := by decide +kernel
theorem dX4_trade_16 : decode cX4_trade 16 = .ok (.istore_n 2, 1) := by decide +kernel
theorem dX4_trade_17 : decode cX4_trade 17 = .ok (.iload_n 2, 1) := by decide +kernel
theorem dX4_trade_18 : decode cX4_trade 18 = .ok (.aload_n 0, 1) := by decide +kernel
theorem dX4_trade_19 : decode cX4_trade 19 = .ok (.getfield 87, 3) := by decide +kernel
theorem dX4_trade_22 : decode cX4_trade 22 = .ok (.if_icmp .ge 23, 3) := by decide +kernel
theorem dX4_trade_25 : decode cX4_trade 25 = .ok (.aload_n 0, 1) := by decide +kernel
theorem dX4_trade_26 : decode cX4_trade 26 = .ok (.getfield 66, 3) := by decide +kernel
theorem dX4_trade_29 : decode cX4_trade 29 = .ok (.iload_n 2, 1) := by decide +kernel
theorem dX4_trade_30 : decode cX4_trade 30 = .ok (.iconst 1, 1) := by decide +kernel
theorem dX4_trade_31 : decode cX4_trade 31 = .ok (.bastore, 1) := by decide +kernel
theorem dX4_trade_32 : decode cX4_trade 32 = .ok (.aload_n 0, 1) := by decide +kernel
theorem dX4_trade_33 : decode cX4_trade 33 = .ok (.getfield 50, 3) := by decide +kernel
theorem dX4_trade_36 : decode cX4_trade 36 = .ok (.iload_n 2, 1) := by decide +kernel
theorem dX4_trade_37 : decode cX4_trade 37 = .ok (.iconst (-1), 1) := by decide +kernel
theorem dX4_trade_38 : decode cX4_trade 38 = .ok (.iastore, 1) := by decide +kernel
theorem dX4_trade_39 : decode cX4_trade 39 = .ok (.iinc 2 1, 3) := by decide +kernel
theorem dX4_trade_42 : decode cX4_trade 42 = .ok (.goto (-25), 3) := by decide +kernel
theorem dX4_trade_45 : decode cX4_trade 45 = .ok (.iload_n 1, 1) := by decide +kernel
theorem dX4_trade_46 : decode cX4_trade 46 = .ok (.ifCond .le 171, 3) := by decide +kernel
theorem dX4_trade_49 : decode cX4_trade 49 = .ok (.aload_n 0, 1) := by decide +kernel
theorem dX4_trade_50 : decode cX4_trade 50 = .ok (.invokevirtual 219, 3) := by decide +kernel
theorem dX4_trade_53 : decode cX4_trade 53 = .ok (.istore_n 2, 1) := by decide +kernel
theorem dX4_trade_54 : decode cX4_trade 54 = .ok (.iload_n 2, 1) := by decide +kernel
theorem dX4_trade_55 : decode cX4_trade 55 = .ok (.ifCond .lt 16, 3) := by decide +kernel
theorem dX4_trade_58 : decode cX4_trade 58 = .ok (.aload_n 0, 1) := by decide +kernel
theorem dX4_trade_59 : decode cX4_trade 59 = .ok (.getfield 66, 3) := by decide +kernel
theorem dX4_trade_62 : decode cX4_trade 62 = .ok (.iload_n 2, 1) := by decide +kernel
theorem dX4_trade_63 : decode cX4_trade 63 = .ok (.iconst 0, 1) := by decide +kernel
theorem dX4_trade_64 : decode cX4_trade 64 = .ok (.bastore, 1) := by decide +kernel
theorem dX4_trade_65 : decode cX4_trade 65 = .ok (.iinc 1 (-1), 3) := by decide +kernel
theorem dX4_trade_68 : decode cX4_trade 68 = .ok (.goto (-23), 3) := by decide +kernel
theorem dX4_trade_71 : decode cX4_trade 71 = .ok (.iconst (-1), 1) := by decide +kernel
theorem dX4_trade_72 : decode cX4_trade 72 = .ok (.istore_n 3, 1) := by decide +kernel
theorem dX4_trade_73 : decode cX4_trade 73 = .ok (.aload_n 0, 1) := by decide +kernel
theorem dX4_trade_74 : decode cX4_trade 74 = .ok (.getfield 87, 3) := by decide +kernel
theorem dX4_trade_77 : decode cX4_trade 77 = .ok (.iconst 1, 1) := by decide +kernel
theorem dX4_trade_78 : decode cX4_trade 78 = .ok (.isub, 1) := by decide +kernel
theorem dX4_trade_79 : decode cX4_trade 79 = .ok (.istore 4, 2) := by decide +kernel
theorem dX4_trade_81 : decode cX4_trade 81 = .ok (.iload 4, 2) := by decide +kernel
theorem dX4_trade_83 : decode cX4_trade 83 = .ok (.ifCond .lt 36, 3) := by decide +kernel
theorem dX4_trade_86 : decode cX4_trade 86 = .ok (.aload_n 0, 1) := by decide +kernel
theorem dX4_trade_87 : decode cX4_trade 87 = .ok (.getfield 69, 3) := by decide +kernel
theorem dX4_trade_90 : decode cX4_trade 90 = .ok (.iload 4, 2) := by decide +kernel
theorem dX4_trade_92 : decode cX4_trade 92 = .ok (.aload_n 0, 1) := by decide +kernel
theorem dX4_trade_93 : decode cX4_trade 93 = .ok (.getfield 66, 3) := by decide +kernel
theorem dX4_trade_96 : decode cX4_trade 96 = .ok (.iload 4, 2) := by decide +kernel
theorem dX4_trade_98 : decode cX4_trade 98 = .ok (.baload, 1) := by decide +kernel
theorem dX4_trade_99 : decode cX4_trade 99 = .ok (.ifCond .eq 12, 3) := by decide +kernel
theorem dX4_trade_102 : decode cX4_trade 102 = .ok (.aload_n 0, 1) := by decide +kernel
theorem dX4_trade_103 : decode cX4_trade 103 = .ok (.iload 4, 2) := by decide +kernel
theorem dX4_trade_105 : decode cX4_trade 105 = .ok (.invokevirtual 216, 3) := by decide +kernel
theorem dX4_trade_108 : decode cX4_trade 108 = .ok (.goto 4, 3) := by decide +kernel
theorem dX4_trade_111 : decode cX4_trade 111 = .ok (.iconst (-1), 1) := by decide +kernel
theorem dX4_trade_112 : decode cX4_trade 112 = .ok (.iastore, 1) := by decide +kernel
theorem dX4_trade_113 : decode cX4_trade 113 = .ok (.iinc 4 (-1), 3) := by decide +kernel
theorem dX4_trade_116 : decode cX4_trade 116 = .ok (.goto (-35), 3) := by decide +kernel
theorem dX4_trade_119 : decode cX4_trade 119 = .ok (.aload_n 0, 1) := by decide +kernel
theorem dX4_trade_120 : decode cX4_trade 120 = .ok (.getfield 87, 3) := by decide +kernel
theorem dX4_trade_123 : decode cX4_trade 123 = .ok (.iconst 1, 1) := by decide +kernel
theorem dX4_trade_124 : decode cX4_trade 124 = .ok (.isub, 1) := by decide +kernel
theorem dX4_trade_125 : decode cX4_trade 125 = .ok (.istore 4, 2) := by decide +kernel
theorem dX4_trade_127 : decode cX4_trade 127 = .ok (.iload 4, 2) := by decide +kernel
theorem dX4_trade_129 : decode cX4_trade 129 = .ok (.ifCond .lt 35, 3) := by decide +kernel
theorem dX4_trade_132 : decode cX4_trade 132 = .ok (.aload_n 0, 1) := by decide +kernel
theorem dX4_trade_133 : decode cX4_trade 133 = .ok (.getfield 66, 3) := by decide +kernel
theorem dX4_trade_136 : decode cX4_trade 136 = .ok (.iload 4, 2) := by decide +kernel
theorem dX4_trade_138 : decode cX4_trade 138 = .ok (.baload, 1) := by decide +kernel
theorem dX4_trade_139 : decode cX4_trade 139 = .ok (.ifCond .eq 17, 3) := by decide +kernel
theorem dX4_trade_142 : decode cX4_trade 142 = .ok (.aload_n 0, 1) := by decide +kernel
theorem dX4_trade_143 : decode cX4_trade 143 = .ok (.iload 4, 2) := by decide +kernel
theorem dX4_trade_145 : decode cX4_trade 145 = .ok (.invokevirtual 222, 3) := by decide +kernel
theorem dX4_trade_148 : decode cX4_trade 148 = .ok (.ifCond .eq 8, 3) := by decide +kernel
theorem dX4_trade_151 : decode cX4_trade 151 = .ok (.iload 4, 2) := by decide +kernel
theorem dX4_trade_153 : decode cX4_trade 153 = .ok (.goto 4, 3) := by decide +kernel
theorem dX4_trade_156 : decode cX4_trade 156 = .ok (.iload_n 3, 1) := by decide +kernel
theorem dX4_trade_157 : decode cX4_trade 157 = .ok (.istore_n 3, 1) := by decide +kernel
theorem dX4_trade_158 : decode cX4_trade 158 = .ok (.iinc 4 (-1), 3) := by decide +kernel
theorem dX4_trade_161 : decode cX4_trade 161 = .ok (.goto (-34), 3) := by decide +kernel
theorem dX4_trade_164 : decode cX4_trade 164 = .ok (.iload_n 3, 1) := by decide +kernel
theorem dX4_trade_165 : decode cX4_trade 165 = .ok (.istore 4, 2) := by decide +kernel
theorem dX4_trade_167 : decode cX4_trade 167 = .ok (.aload_n 0, 1) := by decide +kernel
theorem dX4_trade_168 : decode cX4_trade 168 = .ok (.getfield 66, 3) := by decide +kernel
theorem dX4_trade_171 : decode cX4_trade 171 = .ok (.iload 4, 2) := by decide +kernel
theorem dX4_trade_173 : decode cX4_trade 173 = .ok (.baload, 1) := by decide +kernel
theorem dX4_trade_174 : decode cX4_trade 174 = .ok (.ifCond .eq 40, 3) := by decide +kernel
theorem dX4_trade_177 : decode cX4_trade 177 = .ok (.aload_n 0, 1) := by decide +kernel
theorem dX4_trade_178 : decode cX4_trade 178 = .ok (.getfield 66, 3) := by decide +kernel
theorem dX4_trade_181 : decode cX4_trade 181 = .ok (.iload 4, 2) := by decide +kernel
theorem dX4_trade_183 : decode cX4_trade 183 = .ok (.iconst 0, 1) := by decide +kernel
theorem dX4_trade_184 : decode cX4_trade 184 = .ok (.bastore, 1) := by decide +kernel
theorem dX4_trade_185 : decode cX4_trade 185 = .ok (.iinc 1 (-1), 3) := by decide +kernel
theorem dX4_trade_188 : decode cX4_trade 188 = .ok (.aload_n 0, 1) := by decide +kernel
theorem dX4_trade_189 : decode cX4_trade 189 = .ok (.getfield 50, 3) := by decide +kernel
theorem dX4_trade_192 : decode cX4_trade 192 = .ok (.iload 4, 2) := by decide +kernel
theorem dX4_trade_194 : decode cX4_trade 194 = .ok (.aload_n 0, 1) := by decide +kernel
theorem dX4_trade_195 : decode cX4_trade 195 = .ok (.getfield 69, 3) := by decide +kernel
theorem dX4_trade_198 : decode cX4_trade 198 = .ok (.iload 4, 2) := by decide +kernel
theorem dX4_trade_200 : decode cX4_trade 200 = .ok (.iaload, 1) := by decide +kernel
theorem dX4_trade_201 : decode cX4_trade 201 = .ok (.iastore, 1) := by decide +kernel
theorem dX4_trade_202 : decode cX4_trade 202 = .ok (.aload_n 0, 1) := by decide +kernel
theorem dX4_trade_203 : decode cX4_trade 203 = .ok (.getfield 69, 3) := by decide +kernel
theorem dX4_trade_206 : decode cX4_trade 206 = .ok (.iload 4, 2) := by decide +kernel
theorem dX4_trade_208 : decode cX4_trade 208 = .ok (.iaload, 1) := by decide +kernel
theorem dX4_trade_209 : decode cX4_trade 209 = .ok (.istore 4, 2) := by decide +kernel
theorem dX4_trade_211 : decode cX4_trade 211 = .ok (.goto (-44), 3) := by decide +kernel
theorem dX4_trade_214 : decode cX4_trade 214 = .ok (.goto (-169), 3) := by decide +kernel
theorem dX4_trade_217 : decode cX4_trade 217 = .ok (.aload_n 0, 1) := by decide +kernel
theorem dX4_trade_218 : decode cX4_trade 218 = .ok (.invokevirtual 167, 3) := by decide +kernel
theorem dX4_trade_221 : decode cX4_trade 221 = .ok (.ireturn, 1) := by decide +kernel
theorem dX4_wouldRather_0 : decode cX4_wouldRather 0 = .ok (.aload_n 0, 1) := by decide +kernel
theorem dX4_wouldRather_1 : decode cX4_wouldRather 1 = .ok (.iload_n 1, 1) := by decide +kernel
theorem dX4_wouldRather_2 : decode cX4_wouldRather 2 = .ok (.invokevirtual 145, 3) := by decide +kernel
theorem dX4_wouldRather_5 : decode cX4_wouldRather 5 = .ok (.ifCond .eq 17, 3) := by decide +kernel
theorem dX4_wouldRather_8 : decode cX4_wouldRather 8 = .ok (.aload_n 0, 1) := by decide +kernel
theorem dX4_wouldRather_9 : decode cX4_wouldRather 9 = .ok (.iload_n 1, 1) := by decide +kernel
theorem dX4_wouldRather_10 : decode cX4_wouldRather 10 = .ok (.aload_n 0, 1) := by decide +kernel
theorem dX4_wouldRather_11 : decode cX4_wouldRather 11 = .ok (.getfield 50, 3) := by decide +kernel
theorem dX4_wouldRather_14 : decode cX4_wouldRather 14 = .ok (.iload_n 1, 1) := by decide +kernel
theorem dX4_wouldRather_15 : decode cX4_wouldRather 15 = .ok (.iaload, 1) := by decide +kernel
theorem dX4_wouldRather_16 : decode cX4_wouldRather 16 = .ok (.invokevirtual 111, 3) := by decide +kernel
theorem dX4_wouldRather_19 : decode cX4_wouldRather 19 = .ok (.goto 4, 3) := by decide +kernel
theorem dX4_wouldRather_22 : decode cX4_wouldRather 22 = .ok (.iconst 0, 1) := by decide +kernel
theorem dX4_wouldRather_23 : decode cX4_wouldRather 23 = .ok (.istore_n 3, 1) := by decide +kernel
theorem dX4_wouldRather_24 : decode cX4_wouldRather 24 = .ok (.aload_n 0, 1) := by decide +kernel
theorem dX4_wouldRather_25 : decode cX4_wouldRather 25 = .ok (.iload_n 1, 1) := by decide +kernel
theorem dX4_wouldRather_26 : decode cX4_wouldRather 26 = .ok (.iload_n 2, 1) := by decide +kernel
theorem dX4_wouldRather_27 : decode cX4_wouldRather 27 = .ok (.invokevirtual 148, 3) := by decide +kernel
theorem dX4_wouldRather_30 : decode cX4_wouldRather 30 = .ok (.ifCond .eq 21, 3) := by decide +kernel
theorem dX4_wouldRather_33 : decode cX4_wouldRather 33 = .ok (.iload_n 3, 1) := by decide +kernel
theorem dX4_wouldRather_34 : decode cX4_wouldRather 34 = .ok (.ifCond .eq 13, 3) := by decide +kernel
theorem dX4_wouldRather_37 : decode cX4_wouldRather 37 = .ok (.aload_n 0, 1) := by decide +kernel
theorem dX4_wouldRather_38 : decode cX4_wouldRather 38 = .ok (.iload_n 1, 1) := by decide +kernel
theorem dX4_wouldRather_39 : decode cX4_wouldRather 39 = .ok (.iload_n 2, 1) := by decide +kernel
theorem dX4_wouldRather_40 : decode cX4_wouldRather 40 = .ok (.invokevirtual 111, 3) := by decide +kernel
theorem dX4_wouldRather_43 : decode cX4_wouldRather 43 = .ok (.iload_n 3, 1) := by decide +kernel
theorem dX4_wouldRather_44 : decode cX4_wouldRather 44 = .ok (.if_icmp .ge 7, 3) := by decide +kernel
theorem dX4_wouldRather_47 : decode cX4_wouldRather 47 = .ok (.iconst 1, 1) := by decide +kernel
theorem dX4_wouldRather_48 : decode cX4_wouldRather 48 = .ok (.goto 4, 3) := by decide +kernel
theorem dX4_wouldRather_51 : decode cX4_wouldRather 51 = .ok (.iconst 0, 1) := by decide +kernel
theorem dX4_wouldRather_52 : decode cX4_wouldRather 52 = .ok (.ireturn, 1) := by decide +kernel
theorem dX4_closes_0 : decode cX4_closes 0 = .ok (.aload_n 0, 1) := by decide +kernel
theorem dX4_closes_1 : decode cX4_closes 1 = .ok (.getfield 75, 3) := by decide +kernel
theorem dX4_closes_4 : decode cX4_closes 4 = .ok (.iload_n 2, 1) := by decide +kernel
theorem dX4_closes_5 : decode cX4_closes 5 = .ok (.iconst 1, 1) := by decide +kernel
theorem dX4_closes_6 : decode cX4_closes 6 = .ok (.isub, 1) := by decide +kernel
theorem dX4_closes_7 : decode cX4_closes 7 = .ok (.iaload, 1) := by decide +kernel
theorem dX4_closes_8 : decode cX4_closes 8 = .ok (.istore 4, 2) := by decide +kernel
theorem dX4_closes_10 : decode cX4_closes 10 = .ok (.iload_n 2, 1) := by decide +kernel
theorem dX4_closes_11 : decode cX4_closes 11 = .ok (.iload_n 1, 1) := by decide +kernel
theorem dX4_closes_12 : decode cX4_closes 12 = .ok (.if_icmp .ne 16, 3) := by decide +kernel
theorem dX4_closes_15 : decode cX4_closes 15 = .ok (.aload_n 0, 1) := by decide +kernel
theorem dX4_closes_16 : decode cX4_closes 16 = .ok (.iload 4, 2) := by decide +kernel
theorem dX4_closes_18 : decode cX4_closes 18 = .ok (.aload_n 0, 1) := by decide +kernel
theorem dX4_closes_19 : decode cX4_closes 19 = .ok (.getfield 75, 3) := by decide +kernel
theorem dX4_closes_22 : decode cX4_closes 22 = .ok (.iconst 0, 1) := by decide +kernel
theorem dX4_closes_23 : decode cX4_closes 23 = .ok (.iaload, 1) := by decide +kernel
theorem dX4_closes_24 : decode cX4_closes 24 = .ok (.invokevirtual 225, 3) := by decide +kernel
theorem dX4_closes_27 : decode cX4_closes 27 = .ok (.ireturn, 1) := by decide +kernel
theorem dX4_closes_28 : decode cX4_closes 28 = .ok (.aload_n 0, 1) := by decide +kernel
theorem dX4_closes_29 : decode cX4_closes 29 = .ok (.getfield 75, 3) := by decide +kernel
theorem dX4_closes_32 : decode cX4_closes 32 = .ok (.iconst 0, 1) := by decide +kernel
theorem dX4_closes_33 : decode cX4_closes 33 = .ok (.iaload, 1) := by decide +kernel
theorem dX4_closes_34 : decode cX4_closes 34 = .ok (.iconst 1, 1) := by decide +kernel
theorem dX4_closes_35 : decode cX4_closes 35 = .ok (.iadd, 1) := by decide +kernel
theorem dX4_closes_36 : decode cX4_closes 36 = .ok (.istore 5, 2) := by decide +kernel
theorem dX4_closes_38 : decode cX4_closes 38 = .ok (.iload 5, 2) := by decide +kernel
theorem dX4_closes_40 : decode cX4_closes 40 = .ok (.aload_n 0, 1) := by decide +kernel
theorem dX4_closes_41 : decode cX4_closes 41 = .ok (.getfield 87, 3) := by decide +kernel
theorem dX4_closes_44 : decode cX4_closes 44 = .ok (.if_icmp .ge 60, 3) := by decide +kernel
theorem dX4_closes_47 : decode cX4_closes 47 = .ok (.iload_n 3, 1) := by decide +kernel
theorem dX4_closes_48 : decode cX4_closes 48 = .ok (.iload 5, 2) := by decide +kernel
theorem dX4_closes_50 : decode cX4_closes 50 = .ok (.ishr, 1) := by decide +kernel
theorem dX4_closes_51 : decode cX4_closes 51 = .ok (.iconst 1, 1) := by decide +kernel
theorem dX4_closes_52 : decode cX4_closes 52 = .ok (.iand, 1) := by decide +kernel
theorem dX4_closes_53 : decode cX4_closes 53 = .ok (.iconst 1, 1) := by decide +kernel
theorem dX4_closes_54 : decode cX4_closes 54 = .ok (.if_icmp .eq 44, 3) := by decide +kernel
theorem dX4_closes_57 : decode cX4_closes 57 = .ok (.aload_n 0, 1) := by decide +kernel
theorem dX4_closes_58 : decode cX4_closes 58 = .ok (.iload 4, 2) := by decide +kernel
theorem dX4_closes_60 : decode cX4_closes 60 = .ok (.iload 5, 2) := by decide +kernel
theorem dX4_closes_62 : decode cX4_closes 62 = .ok (.invokevirtual 225, 3) := by decide +kernel
theorem dX4_closes_65 : decode cX4_closes 65 = .ok (.ifCond .ne 6, 3) := by decide +kernel
theorem dX4_closes_68 : decode cX4_closes 68 = .ok (.goto 30, 3) := by decide +kernel
theorem dX4_closes_71 : decode cX4_closes 71 = .ok (.aload_n 0, 1) := by decide +kernel
theorem dX4_closes_72 : decode cX4_closes 72 = .ok (.getfield 75, 3) := by decide +kernel
theorem dX4_closes_75 : decode cX4_closes 75 = .ok (.iload_n 2, 1) := by decide +kernel
theorem dX4_closes_76 : decode cX4_closes 76 = .ok (.iload 5, 2) := by decide +kernel
theorem dX4_closes_78 : decode cX4_closes 78 = .ok (.iastore, 1) := by decide +kernel
theorem dX4_closes_79 : decode cX4_closes 79 = .ok (.aload_n 0, 1) := by decide +kernel
theorem dX4_closes_80 : decode cX4_closes 80 = .ok (.iload_n 1, 1) := by decide +kernel
theorem dX4_closes_81 : decode cX4_closes 81 = .ok (.iload_n 2, 1) := by decide +kernel
theorem dX4_closes_82 : decode cX4_closes 82 = .ok (.iconst 1, 1) := by decide +kernel
theorem dX4_closes_83 : decode cX4_closes 83 = .ok (.iadd, 1) := by decide +kernel
theorem dX4_closes_84 : decode cX4_closes 84 = .ok (.iload_n 3, 1) := by decide +kernel
theorem dX4_closes_85 : decode cX4_closes 85 = .ok (.iconst 1, 1) := by decide +kernel
theorem dX4_closes_86 : decode cX4_closes 86 = .ok (.iload 5, 2) := by decide +kernel
theorem dX4_closes_88 : decode cX4_closes 88 = .ok (.ishl, 1) := by decide +kernel
theorem dX4_closes_89 : decode cX4_closes 89 = .ok (.ior, 1) := by decide +kernel
theorem dX4_closes_90 : decode cX4_closes 90 = .ok (.invokevirtual 228, 3) := by decide +kernel
theorem dX4_closes_93 : decode cX4_closes 93 = .ok (.ifCond .eq 5, 3) := by decide +kernel
theorem dX4_closes_96 : decode cX4_closes 96 = .ok (.iconst 1, 1) := by decide +kernel
theorem dX4_closes_97 : decode cX4_closes 97 = .ok (.ireturn, 1) := by decide +kernel
theorem dX4_closes_98 : decode cX4_closes 98 = .ok (.iinc 5 1, 3) := by decide +kernel
theorem dX4_closes_101 : decode cX4_closes 101 = .ok (.goto (-63), 3) := by decide +kernel
theorem dX4_closes_104 : decode cX4_closes 104 = .ok (.iconst 0, 1) := by decide +kernel
theorem dX4_closes_105 : decode cX4_closes 105 = .ok (.ireturn, 1) := by decide +kernel
theorem dX4_tells_0 : decode cX4_tells 0 = .ok (.aload_n 0, 1) := by decide +kernel
theorem dX4_tells_1 : decode cX4_tells 1 = .ok (.iload_n 1, 1) := by decide +kernel
theorem dX4_tells_2 : decode cX4_tells 2 = .ok (.putfield 164, 3) := by decide +kernel
theorem dX4_tells_5 : decode cX4_tells 5 = .ok (.iconst 0, 1) := by decide +kernel
theorem dX4_tells_6 : decode cX4_tells 6 = .ok (.istore_n 2, 1) := by decide +kernel
theorem dX4_tells_7 : decode cX4_tells 7 = .ok (.iload_n 2, 1) := by decide +kernel
theorem dX4_tells_8 : decode cX4_tells 8 = .ok (.iload_n 1, 1) := by decide +kernel
theorem dX4_tells_9 : decode cX4_tells 9 = .ok (.if_icmp .ge 21, 3) := by decide +kernel
theorem dX4_tells_12 : decode cX4_tells 12 = .ok (.aload_n 0, 1) := by decide +kernel
theorem dX4_tells_13 : decode cX4_tells 13 = .ok (.getfield 72, 3) := by decide +kernel
theorem dX4_tells_16 : decode cX4_tells 16 = .ok (.iload_n 2, 1) := by decide +kernel
theorem dX4_tells_17 : decode cX4_tells 17 = .ok (.aload_n 0, 1) := by decide +kernel
theorem dX4_tells_18 : decode cX4_tells 18 = .ok (.getfield 75, 3) := by decide +kernel
theorem dX4_tells_21 : decode cX4_tells 21 = .ok (.iload_n 2, 1) := by decide +kernel
theorem dX4_tells_22 : decode cX4_tells 22 = .ok (.iaload, 1) := by decide +kernel
theorem dX4_tells_23 : decode cX4_tells 23 = .ok (.iastore, 1) := by decide +kernel
theorem dX4_tells_24 : decode cX4_tells 24 = .ok (.iinc 2 1, 3) := by decide +kernel
theorem dX4_tells_27 : decode cX4_tells 27 = .ok (.goto (-20), 3) := by decide +kernel
theorem dX4_tells_30 : decode cX4_tells 30 = .ok (.iload_n 1, 1) := by decide +kernel
theorem dX4_tells_31 : decode cX4_tells 31 = .ok (.ireturn, 1) := by decide +kernel
theorem dX4_blocks_0 : decode cX4_blocks 0 = .ok (.aload_n 0, 1) := by decide +kernel
theorem dX4_blocks_1 : decode cX4_blocks 1 = .ok (.iconst 0, 1) := by decide +kernel
theorem dX4_blocks_2 : decode cX4_blocks 2 = .ok (.putfield 84, 3) := by decide +kernel
theorem dX4_blocks_5 : decode cX4_blocks 5 = .ok (.aload_n 0, 1) := by decide +kernel
theorem dX4_blocks_6 : decode cX4_blocks 6 = .ok (.iconst 0, 1) := by decide +kernel
theorem dX4_blocks_7 : decode cX4_blocks 7 = .ok (.putfield 98, 3) := by decide +kernel
theorem dX4_blocks_10 : decode cX4_blocks 10 = .ok (.iconst 2, 1) := by decide +kernel
theorem dX4_blocks_11 : decode cX4_blocks 11 = .ok (.istore_n 1, 1) := by decide +kernel
theorem dX4_blocks_12 : decode cX4_blocks 12 = .ok (.iload_n 1, 1) := by decide +kernel
theorem dX4_blocks_13 : decode cX4_blocks 13 = .ok (.aload_n 0, 1) := by decide +kernel
theorem dX4_blocks_14 : decode cX4_blocks 14 = .ok (.getfield 87, 3) := by decide +kernel
theorem dX4_blocks_17 : decode cX4_blocks 17 = .ok (.if_icmp .gt 50, 3) := by decide +kernel
theorem dX4_blocks_20 : decode cX4_blocks 20 = .ok (.iconst 0, 1) := by decide +kernel
theorem dX4_blocks_21 : decode cX4_blocks 21 = .ok (.istore_n 2, 1) := by decide +kernel
theorem dX4_blocks_22 : decode cX4_blocks 22 = .ok (.iload_n 2, 1) := by decide +kernel
theorem dX4_blocks_23 : decode cX4_blocks 23 = .ok (.aload_n 0, 1) := by decide +kernel
theorem dX4_blocks_24 : decode cX4_blocks 24 = .ok (.getfield 87, 3) := by decide +kernel
theorem dX4_blocks_27 : decode cX4_blocks 27 = .ok (.if_icmp .ge 34, 3) := by decide +kernel
theorem dX4_blocks_30 : decode cX4_blocks 30 = .ok (.aload_n 0, 1) := by decide +kernel
theorem dX4_blocks_31 : decode cX4_blocks 31 = .ok (.getfield 75, 3) := by decide +kernel
theorem dX4_blocks_34 : decode cX4_blocks 34 = .ok (.iconst 0, 1) := by decide +kernel
theorem dX4_blocks_35 : decode cX4_blocks 35 = .ok (.iload_n 2, 1) := by decide +kernel
theorem dX4_blocks_36 : decode cX4_blocks 36 = .ok (.iastore, 1) := by decide +kernel
theorem dX4_blocks_37 : decode cX4_blocks 37 = .ok (.aload_n 0, 1) := by decide +kernel
theorem dX4_blocks_38 : decode cX4_blocks 38 = .ok (.iload_n 1, 1) := by decide +kernel
theorem dX4_blocks_39 : decode cX4_blocks 39 = .ok (.iconst 1, 1) := by decide +kernel
theorem dX4_blocks_40 : decode cX4_blocks 40 = .ok (.iconst 1, 1) := by decide +kernel
theorem dX4_blocks_41 : decode cX4_blocks 41 = .ok (.iload_n 2, 1) := by decide +kernel
theorem dX4_blocks_42 : decode cX4_blocks 42 = .ok (.ishl, 1) := by decide +kernel
theorem dX4_blocks_43 : decode cX4_blocks 43 = .ok (.invokevirtual 228, 3) := by decide +kernel
theorem dX4_blocks_46 : decode cX4_blocks 46 = .ok (.ifCond .eq 9, 3) := by decide +kernel
theorem dX4_blocks_49 : decode cX4_blocks 49 = .ok (.aload_n 0, 1) := by decide +kernel
theorem dX4_blocks_50 : decode cX4_blocks 50 = .ok (.iload_n 1, 1) := by decide +kernel
theorem dX4_blocks_51 : decode cX4_blocks 51 = .ok (.invokevirtual 232, 3) := by decide +kernel
theorem dX4_blocks_54 : decode cX4_blocks 54 = .ok (.ireturn, 1) := by decide +kernel
theorem dX4_blocks_55 : decode cX4_blocks 55 = .ok (.iinc 2 1, 3) := by decide +kernel
theorem dX4_blocks_58 : decode cX4_blocks 58 = .ok (.goto (-36), 3) := by decide +kernel
theorem dX4_blocks_61 : decode cX4_blocks 61 = .ok (.iinc 1 1, 3) := by decide +kernel
theorem dX4_blocks_64 : decode cX4_blocks 64 = .ok (.goto (-52), 3) := by decide +kernel
theorem dX4_blocks_67 : decode cX4_blocks 67 = .ok (.iconst 0, 1) := by decide +kernel
theorem dX4_blocks_68 : decode cX4_blocks 68 = .ok (.ireturn, 1) := by decide +kernel
theorem dX4_ring_0 : decode cX4_ring 0 = .ok (.aload_n 0, 1) := by decide +kernel
theorem dX4_ring_1 : decode cX4_ring 1 = .ok (.iconst 0, 1) := by decide +kernel
theorem dX4_ring_2 : decode cX4_ring 2 = .ok (.putfield 84, 3) := by decide +kernel
theorem dX4_ring_5 : decode cX4_ring 5 = .ok (.aload_n 0, 1) := by decide +kernel
theorem dX4_ring_6 : decode cX4_ring 6 = .ok (.iconst 0, 1) := by decide +kernel
theorem dX4_ring_7 : decode cX4_ring 7 = .ok (.putfield 98, 3) := by decide +kernel
theorem dX4_ring_10 : decode cX4_ring 10 = .ok (.aload_n 0, 1) := by decide +kernel
theorem dX4_ring_11 : decode cX4_ring 11 = .ok (.iload_n 1, 1) := by decide +kernel
theorem dX4_ring_12 : decode cX4_ring 12 = .ok (.invokevirtual 94, 3) := by decide +kernel
theorem dX4_ring_15 : decode cX4_ring 15 = .ok (.ifCond .ne 5, 3) := by decide +kernel
theorem dX4_ring_18 : decode cX4_ring 18 = .ok (.iconst (-1), 1) := by decide +kernel
theorem dX4_ring_19 : decode cX4_ring 19 = .ok (.ireturn, 1) := by decide +kernel
theorem dX4_ring_20 : decode cX4_ring 20 = .ok (.aload_n 0, 1) := by decide +kernel
theorem dX4_ring_21 : decode cX4_ring 21 = .ok (.iload_n 1, 1) := by decide +kernel
