theorem dX3_best_1 : decode cX3_best 1 = .ok (.iconst 0, 1) := by decide +kernel
theorem dX3_best_2 : decode cX3_best 2 = .ok (.putfield 61, 3) := by decide +kernel
theorem dX3_best_5 : decode cX3_best 5 = .ok (.aload_n 0, 1) := by decide +kernel
theorem dX3_best_6 : decode cX3_best 6 = .ok (.iconst 0, 1) := by decide +kernel
theorem dX3_best_7 : decode cX3_best 7 = .ok (.invokevirtual 173, 3) := by decide +kernel
theorem dX3_best_10 : decode cX3_best 10 = .ok (.pop, 1) := by decide +kernel
theorem dX3_best_11 : decode cX3_best 11 = .ok (.aload_n 0, 1) := by decide +kernel
theorem dX3_best_12 : decode cX3_best 12 = .ok (.invokevirtual 121, 3) := by decide +kernel
theorem dX3_best_15 : decode cX3_best 15 = .ok (.ireturn, 1) := by decide +kernel
theorem dX3_mend_0 : decode cX3_mend 0 = .ok (.aload_n 0, 1) := by decide +kernel
theorem dX3_mend_1 : decode cX3_mend 1 = .ok (.iconst 0, 1) := by decide +kernel
theorem dX3_mend_2 : decode cX3_mend 2 = .ok (.putfield 61, 3) := by decide +kernel
theorem dX3_mend_5 : decode cX3_mend 5 = .ok (.aload_n 0, 1) := by decide +kernel
theorem dX3_mend_6 : decode cX3_mend 6 = .ok (.sipush 1000, 3) := by decide +kernel
theorem dX3_mend_9 : decode cX3_mend 9 = .ok (.invokevirtual 173, 3) := by decide +kernel
theorem dX3_mend_12 : decode cX3_mend 12 = .ok (.ireturn, 1) := by decide +kernel
theorem dX3_trade_0 : decode cX3_trade 0 = .ok (.aload_n 0, 1) := by decide +kernel
theorem dX3_trade_1 : decode cX3_trade 1 = .ok (.iconst 0, 1) := by decide +kernel
theorem dX3_trade_2 : decode cX3_trade 2 = .ok (.putfield 61, 3) := by decide +kernel
theorem dX3_trade_5 : decode cX3_trade 5 = .ok (.aload_n 0, 1) := by decide +kernel
theorem dX3_trade_6 : decode cX3_trade 6 = .ok (.invokevirtual 176, 3) := by decide +kernel
theorem dX3_trade_9 : decode cX3_trade 9 = .ok (.iconst 1, 1) := by decide +kernel
theorem dX3_trade_10 : decode cX3_trade 10 = .ok (.aload_n 0, 1) := by decide +kernel
theorem dX3_trade_11 : decode cX3_trade 11 = .ok (.getfield 42, 3) := by decide +kernel
theorem dX3_trade_14 : decode cX3_trade 14 = .ok (.ishl, 1) := by decide +kernel
theorem dX3_trade_15 : decode cX3_trade 15 = .ok (.iconst 1, 1) := by decide +kernel
theorem dX3_trade_16 : decode cX3_trade 16 = .ok (.isub, 1) := by decide +kernel
theorem dX3_trade_17 : decode cX3_trade 17 = .ok (.istore_n 1, 1) := by decide +kernel
theorem dX3_trade_18 : decode cX3_trade 18 = .ok (.iconst 0, 1) := by decide +kernel
theorem dX3_trade_19 : decode cX3_trade 19 = .ok (.istore_n 2, 1) := by decide +kernel
theorem dX3_trade_20 : decode cX3_trade 20 = .ok (.iload_n 2, 1) := by decide +kernel
theorem dX3_trade_21 : decode cX3_trade 21 = .ok (.bipush 10, 2) := by decide +kernel
theorem dX3_trade_23 : decode cX3_trade 23 = .ok (.if_icmp .ge 29, 3) := by decide +kernel
theorem dX3_trade_26 : decode cX3_trade 26 = .ok (.iload_n 1, 1) := by decide +kernel
theorem dX3_trade_27 : decode cX3_trade 27 = .ok (.ifCond .eq 25, 3) := by decide +kernel
theorem dX3_trade_30 : decode cX3_trade 30 = .ok (.aload_n 0, 1) := by decide +kernel
theorem dX3_trade_31 : decode cX3_trade 31 = .ok (.iload_n 1, 1) := by decide +kernel
theorem dX3_trade_32 : decode cX3_trade 32 = .ok (.invokevirtual 179, 3) := by decide +kernel
theorem dX3_trade_35 : decode cX3_trade 35 = .ok (.istore_n 1, 1) := by decide +kernel
theorem dX3_trade_36 : decode cX3_trade 36 = .ok (.iload_n 1, 1) := by decide +kernel
theorem dX3_trade_37 : decode cX3_trade 37 = .ok (.aload_n 0, 1) := by decide +kernel
theorem dX3_trade_38 : decode cX3_trade 38 = .ok (.iload_n 1, 1) := by decide +kernel
theorem dX3_trade_39 : decode cX3_trade 39 = .ok (.invokevirtual 182, 3) := by decide +kernel
theorem dX3_trade_42 : decode cX3_trade 42 = .ok (.iconst (-1), 1) := by decide +kernel
theorem dX3_trade_43 : decode cX3_trade 43 = .ok (.ixor, 1) := by decide +kernel
theorem dX3_trade_44 : decode cX3_trade 44 = .ok (.iand, 1) := by decide +kernel
theorem dX3_trade_45 : decode cX3_trade 45 = .ok (.istore_n 1, 1) := by decide +kernel
theorem dX3_trade_46 : decode cX3_trade 46 = .ok (.iinc 2 1, 3) := by decide +kernel
theorem dX3_trade_49 : decode cX3_trade 49 = .ok (.goto (-29), 3) := by decide +kernel
theorem dX3_trade_52 : decode cX3_trade 52 = .ok (.aload_n 0, 1) := by decide +kernel
theorem dX3_trade_53 : decode cX3_trade 53 = .ok (.invokevirtual 121, 3) := by decide +kernel
theorem dX3_trade_56 : decode cX3_trade 56 = .ok (.ireturn, 1) := by decide +kernel
theorem dX3_blocks_0 : decode cX3_blocks 0 = .ok (.aload_n 0, 1) := by decide +kernel
theorem dX3_blocks_1 : decode cX3_blocks 1 = .ok (.iconst 0, 1) := by decide +kernel
theorem dX3_blocks_2 : decode cX3_blocks 2 = .ok (.putfield 61, 3) := by decide +kernel
theorem dX3_blocks_5 : decode cX3_blocks 5 = .ok (.aload_n 0, 1) := by decide +kernel
theorem dX3_blocks_6 : decode cX3_blocks 6 = .ok (.getfield 38, 3) := by decide +kernel
theorem dX3_blocks_9 : decode cX3_blocks 9 = .ok (.aload_n 0, 1) := by decide +kernel
theorem dX3_blocks_10 : decode cX3_blocks 10 = .ok (.getfield 42, 3) := by decide +kernel
theorem dX3_blocks_13 : decode cX3_blocks 13 = .ok (.invokevirtual 185, 3) := by decide +kernel
theorem dX3_blocks_16 : decode cX3_blocks 16 = .ok (.iconst 0, 1) := by decide +kernel
theorem dX3_blocks_17 : decode cX3_blocks 17 = .ok (.istore_n 1, 1) := by decide +kernel
theorem dX3_blocks_18 : decode cX3_blocks 18 = .ok (.iload_n 1, 1) := by decide +kernel
theorem dX3_blocks_19 : decode cX3_blocks 19 = .ok (.aload_n 0, 1) := by decide +kernel
theorem dX3_blocks_20 : decode cX3_blocks 20 = .ok (.getfield 42, 3) := by decide +kernel
theorem dX3_blocks_23 : decode cX3_blocks 23 = .ok (.if_icmp .ge 52, 3) := by decide +kernel
theorem dX3_blocks_26 : decode cX3_blocks 26 = .ok (.iconst 0, 1) := by decide +kernel
theorem dX3_blocks_27 : decode cX3_blocks 27 = .ok (.istore_n 2, 1) := by decide +kernel
theorem dX3_blocks_28 : decode cX3_blocks 28 = .ok (.iload_n 2, 1) := by decide +kernel
theorem dX3_blocks_29 : decode cX3_blocks 29 = .ok (.aload_n 0, 1) := by decide +kernel
theorem dX3_blocks_30 : decode cX3_blocks 30 = .ok (.getfield 42, 3) := by decide +kernel
theorem dX3_blocks_33 : decode cX3_blocks 33 = .ok (.if_icmp .ge 36, 3) := by decide +kernel
theorem dX3_blocks_36 : decode cX3_blocks 36 = .ok (.aload_n 0, 1) := by decide +kernel
theorem dX3_blocks_37 : decode cX3_blocks 37 = .ok (.iload_n 1, 1) := by decide +kernel
theorem dX3_blocks_38 : decode cX3_blocks 38 = .ok (.iload_n 2, 1) := by decide +kernel
theorem dX3_blocks_39 : decode cX3_blocks 39 = .ok (.invokevirtual 188, 3) := by decide +kernel
theorem dX3_blocks_42 : decode cX3_blocks 42 = .ok (.ifCond .eq 21, 3) := by decide +kernel
theorem dX3_blocks_45 : decode cX3_blocks 45 = .ok (.aload_n 0, 1) := by decide +kernel
theorem dX3_blocks_46 : decode cX3_blocks 46 = .ok (.iload_n 1, 1) := by decide +kernel
theorem dX3_blocks_47 : decode cX3_blocks 47 = .ok (.iload_n 2, 1) := by decide +kernel
theorem dX3_blocks_48 : decode cX3_blocks 48 = .ok (.invokevirtual 191, 3) := by decide +kernel
theorem dX3_blocks_51 : decode cX3_blocks 51 = .ok (.ifCond .eq 12, 3) := by decide +kernel
theorem dX3_blocks_54 : decode cX3_blocks 54 = .ok (.aload_n 0, 1) := by decide +kernel
theorem dX3_blocks_55 : decode cX3_blocks 55 = .ok (.getfield 38, 3) := by decide +kernel
theorem dX3_blocks_58 : decode cX3_blocks 58 = .ok (.iload_n 1, 1) := by decide +kernel
theorem dX3_blocks_59 : decode cX3_blocks 59 = .ok (.iload_n 2, 1) := by decide +kernel
theorem dX3_blocks_60 : decode cX3_blocks 60 = .ok (.invokevirtual 194, 3) := by decide +kernel
theorem dX3_blocks_63 : decode cX3_blocks 63 = .ok (.iinc 2 1, 3) := by decide +kernel
theorem dX3_blocks_66 : decode cX3_blocks 66 = .ok (.goto (-38), 3) := by decide +kernel
theorem dX3_blocks_69 : decode cX3_blocks 69 = .ok (.iinc 1 1, 3) := by decide +kernel
theorem dX3_blocks_72 : decode cX3_blocks 72 = .ok (.goto (-54), 3) := by decide +kernel
theorem dX3_blocks_75 : decode cX3_blocks 75 = .ok (.aload_n 0, 1) := by decide +kernel
theorem dX3_blocks_76 : decode cX3_blocks 76 = .ok (.getfield 38, 3) := by decide +kernel
theorem dX3_blocks_79 : decode cX3_blocks 79 = .ok (.aload_n 0, 1) := by decide +kernel
theorem dX3_blocks_80 : decode cX3_blocks 80 = .ok (.getfield 22, 3) := by decide +kernel
theorem dX3_blocks_83 : decode cX3_blocks 83 = .ok (.invokevirtual 198, 3) := by decide +kernel
theorem dX3_blocks_86 : decode cX3_blocks 86 = .ok (.istore_n 1, 1) := by decide +kernel
theorem dX3_blocks_87 : decode cX3_blocks 87 = .ok (.aload_n 0, 1) := by decide +kernel
theorem dX3_blocks_88 : decode cX3_blocks 88 = .ok (.iload_n 1, 1) := by decide +kernel
theorem dX3_blocks_89 : decode cX3_blocks 89 = .ok (.invokevirtual 202, 3) := by decide +kernel
theorem dX3_blocks_92 : decode cX3_blocks 92 = .ok (.iload_n 1, 1) := by decide +kernel
theorem dX3_blocks_93 : decode cX3_blocks 93 = .ok (.ireturn, 1) := by decide +kernel
theorem dX3_ring_0 : decode cX3_ring 0 = .ok (.aload_n 0, 1) := by decide +kernel
theorem dX3_ring_1 : decode cX3_ring 1 = .ok (.iconst 0, 1) := by decide +kernel
theorem dX3_ring_2 : decode cX3_ring 2 = .ok (.putfield 61, 3) := by decide +kernel
theorem dX3_ring_5 : decode cX3_ring 5 = .ok (.aload_n 0, 1) := by decide +kernel
theorem dX3_ring_6 : decode cX3_ring 6 = .ok (.iload_n 1, 1) := by decide +kernel
theorem dX3_ring_7 : decode cX3_ring 7 = .ok (.invokevirtual 74, 3) := by decide +kernel
theorem dX3_ring_10 : decode cX3_ring 10 = .ok (.ifCond .ne 5, 3) := by decide +kernel
theorem dX3_ring_13 : decode cX3_ring 13 = .ok (.iconst (-1), 1) := by decide +kernel
theorem dX3_ring_14 : decode cX3_ring 14 = .ok (.ireturn, 1) := by decide +kernel
theorem dX3_ring_15 : decode cX3_ring 15 = .ok (.aload_n 0, 1) := by decide +kernel
theorem dX3_ring_16 : decode cX3_ring 16 = .ok (.getfield 15, 3) := by decide +kernel
theorem dX3_ring_19 : decode cX3_ring 19 = .ok (.iload_n 1, 1) := by decide +kernel
theorem dX3_ring_20 : decode cX3_ring 20 = .ok (.iaload, 1) := by decide +kernel
theorem dX3_ring_21 : decode cX3_ring 21 = .ok (.iconst (-1), 1) := by decide +kernel
theorem dX3_ring_22 : decode cX3_ring 22 = .ok (.if_icmp .eq 10, 3) := by decide +kernel
theorem dX3_ring_25 : decode cX3_ring 25 = .ok (.aload_n 0, 1) := by decide +kernel
theorem dX3_ring_26 : decode cX3_ring 26 = .ok (.invokevirtual 167, 3) := by decide +kernel
theorem dX3_ring_29 : decode cX3_ring 29 = .ok (.ifCond .eq 5, 3) := by decide +kernel
theorem dX3_ring_32 : decode cX3_ring 32 = .ok (.iconst 0, 1) := by decide +kernel
theorem dX3_ring_33 : decode cX3_ring 33 = .ok (.ireturn, 1) := by decide +kernel
theorem dX3_ring_34 : decode cX3_ring 34 = .ok (.aload_n 0, 1) := by decide +kernel
theorem dX3_ring_35 : decode cX3_ring 35 = .ok (.iload_n 1, 1) := by decide +kernel
theorem dX3_ring_36 : decode cX3_ring 36 = .ok (.invokevirtual 205, 3) := by decide +kernel
theorem dX3_ring_39 : decode cX3_ring 39 = .ok (.istore_n 2, 1) := by decide +kernel
theorem dX3_ring_40 : decode cX3_ring 40 = .ok (.iload_n 1, 1) := by decide +kernel
theorem dX3_ring_41 : decode cX3_ring 41 = .ok (.istore_n 3, 1) := by decide +kernel
theorem dX3_ring_42 : decode cX3_ring 42 = .ok (.iconst 0, 1) := by decide +kernel
theorem dX3_ring_43 : decode cX3_ring 43 = .ok (.istore 4, 2) := by decide +kernel
theorem dX3_ring_45 : decode cX3_ring 45 = .ok (.iload 4, 2) := by decide +kernel
theorem dX3_ring_47 : decode cX3_ring 47 = .ok (.iload_n 2, 1) := by decide +kernel
theorem dX3_ring_48 : decode cX3_ring 48 = .ok (.if_icmp .ge 24, 3) := by decide +kernel
theorem dX3_ring_51 : decode cX3_ring 51 = .ok (.aload_n 0, 1) := by decide +kernel
theorem dX3_ring_52 : decode cX3_ring 52 = .ok (.getfield 22, 3) := by decide +kernel
theorem dX3_ring_55 : decode cX3_ring 55 = .ok (.iload 4, 2) := by decide +kernel
theorem dX3_ring_57 : decode cX3_ring 57 = .ok (.iload_n 3, 1) := by decide +kernel
theorem dX3_ring_58 : decode cX3_ring 58 = .ok (.iastore, 1) := by decide +kernel
theorem dX3_ring_59 : decode cX3_ring 59 = .ok (.aload_n 0, 1) := by decide +kernel
theorem dX3_ring_60 : decode cX3_ring 60 = .ok (.getfield 15, 3) := by decide +kernel
theorem dX3_ring_63 : decode cX3_ring 63 = .ok (.iload_n 3, 1) := by decide +kernel
theorem dX3_ring_64 : decode cX3_ring 64 = .ok (.iaload, 1) := by decide +kernel
theorem dX3_ring_65 : decode cX3_ring 65 = .ok (.istore_n 3, 1) := by decide +kernel
theorem dX3_ring_66 : decode cX3_ring 66 = .ok (.iinc 4 1, 3) := by decide +kernel
theorem dX3_ring_69 : decode cX3_ring 69 = .ok (.goto (-24), 3) := by decide +kernel
theorem dX3_ring_72 : decode cX3_ring 72 = .ok (.aload_n 0, 1) := by decide +kernel
theorem dX3_ring_73 : decode cX3_ring 73 = .ok (.iload_n 2, 1) := by decide +kernel
theorem dX3_ring_74 : decode cX3_ring 74 = .ok (.invokevirtual 202, 3) := by decide +kernel
theorem dX3_ring_77 : decode cX3_ring 77 = .ok (.iload_n 2, 1) := by decide +kernel
theorem dX3_ring_78 : decode cX3_ring 78 = .ok (.ireturn, 1) := by decide +kernel
theorem dX3_chain_0 : decode cX3_chain 0 = .ok (.aload_n 0, 1) := by decide +kernel
theorem dX3_chain_1 : decode cX3_chain 1 = .ok (.iconst 0, 1) := by decide +kernel
theorem dX3_chain_2 : decode cX3_chain 2 = .ok (.putfield 61, 3) := by decide +kernel
theorem dX3_chain_5 : decode cX3_chain 5 = .ok (.aload_n 0, 1) := by decide +kernel
theorem dX3_chain_6 : decode cX3_chain 6 = .ok (.iload_n 1, 1) := by decide +kernel
theorem dX3_chain_7 : decode cX3_chain 7 = .ok (.invokevirtual 74, 3) := by decide +kernel
theorem dX3_chain_10 : decode cX3_chain 10 = .ok (.ifCond .eq 13, 3) := by decide +kernel
theorem dX3_chain_13 : decode cX3_chain 13 = .ok (.aload_n 0, 1) := by decide +kernel
theorem dX3_chain_14 : decode cX3_chain 14 = .ok (.getfield 15, 3) := by decide +kernel
theorem dX3_chain_17 : decode cX3_chain 17 = .ok (.iload_n 1, 1) := by decide +kernel
theorem dX3_chain_18 : decode cX3_chain 18 = .ok (.iaload, 1) := by decide +kernel
theorem dX3_chain_19 : decode cX3_chain 19 = .ok (.iconst (-1), 1) := by decide +kernel
theorem dX3_chain_20 : decode cX3_chain 20 = .ok (.if_icmp .eq 5, 3) := by decide +kernel
theorem dX3_chain_23 : decode cX3_chain 23 = .ok (.iconst (-1), 1) := by decide +kernel
theorem dX3_chain_24 : decode cX3_chain 24 = .ok (.ireturn, 1) := by decide +kernel
theorem dX3_chain_25 : decode cX3_chain 25 = .ok (.aload_n 0, 1) := by decide +kernel
theorem dX3_chain_26 : decode cX3_chain 26 = .ok (.getfield 38, 3) := by decide +kernel
theorem dX3_chain_29 : decode cX3_chain 29 = .ok (.aload_n 0, 1) := by decide +kernel
theorem dX3_chain_30 : decode cX3_chain 30 = .ok (.getfield 42, 3) := by decide +kernel
theorem dX3_chain_33 : decode cX3_chain 33 = .ok (.invokevirtual 185, 3) := by decide +kernel
theorem dX3_chain_36 : decode cX3_chain 36 = .ok (.iconst 0, 1) := by decide +kernel
theorem dX3_chain_37 : decode cX3_chain 37 = .ok (.istore_n 2, 1) := by decide +kernel
theorem dX3_chain_38 : decode cX3_chain 38 = .ok (.iload_n 2, 1) := by decide +kernel
theorem dX3_chain_39 : decode cX3_chain 39 = .ok (.aload_n 0, 1) := by decide +kernel
theorem dX3_chain_40 : decode cX3_chain 40 = .ok (.getfield 42, 3) := by decide +kernel
theorem dX3_chain_43 : decode cX3_chain 43 = .ok (.if_icmp .ge 39, 3) := by decide +kernel
theorem dX3_chain_46 : decode cX3_chain 46 = .ok (.iload_n 2, 1) := by decide +kernel
theorem dX3_chain_47 : decode cX3_chain 47 = .ok (.iload_n 1, 1) := by decide +kernel
theorem dX3_chain_48 : decode cX3_chain 48 = .ok (.if_icmp .eq 28, 3) := by decide +kernel
theorem dX3_chain_51 : decode cX3_chain 51 = .ok (.aload_n 0, 1) := by decide +kernel
theorem dX3_chain_52 : decode cX3_chain 52 = .ok (.getfield 15, 3) := by decide +kernel
theorem dX3_chain_55 : decode cX3_chain 55 = .ok (.iload_n 2, 1) := by decide +kernel
theorem dX3_chain_56 : decode cX3_chain 56 = .ok (.iaload, 1) := by decide +kernel
theorem dX3_chain_57 : decode cX3_chain 57 = .ok (.iconst (-1), 1) := by decide +kernel
theorem dX3_chain_58 : decode cX3_chain 58 = .ok (.if_icmp .ne 18, 3) := by decide +kernel
theorem dX3_chain_61 : decode cX3_chain 61 = .ok (.aload_n 0, 1) := by decide +kernel
theorem dX3_chain_62 : decode cX3_chain 62 = .ok (.iload_n 2, 1) := by decide +kernel
theorem dX3_chain_63 : decode cX3_chain 63 = .ok (.invokevirtual 146, 3) := by decide +kernel
theorem dX3_chain_66 : decode cX3_chain 66 = .ok (.iconst (-1), 1) := by decide +kernel
theorem dX3_chain_67 : decode cX3_chain 67 = .ok (.if_icmp .ne 9, 3) := by decide +kernel
theorem dX3_chain_70 : decode cX3_chain 70 = .ok (.aload_n 0, 1) := by decide +kernel
theorem dX3_chain_71 : decode cX3_chain 71 = .ok (.iload_n 2, 1) := by decide +kernel
theorem dX3_chain_72 : decode cX3_chain 72 = .ok (.iload_n 1, 1) := by decide +kernel
theorem dX3_chain_73 : decode cX3_chain 73 = .ok (.invokevirtual 208, 3) := by decide +kernel
theorem dX3_chain_76 : decode cX3_chain 76 = .ok (.iinc 2 1, 3) := by decide +kernel
theorem dX3_chain_79 : decode cX3_chain 79 = .ok (.goto (-41), 3) := by decide +kernel
theorem dX3_chain_82 : decode cX3_chain 82 = .ok (.aload_n 0, 1) := by decide +kernel
theorem dX3_chain_83 : decode cX3_chain 83 = .ok (.getfield 38, 3) := by decide +kernel
theorem dX3_chain_86 : decode cX3_chain 86 = .ok (.iload_n 1, 1) := by decide +kernel
theorem dX3_chain_87 : decode cX3_chain 87 = .ok (.aload_n 0, 1) := by decide +kernel
theorem dX3_chain_88 : decode cX3_chain 88 = .ok (.getfield 22, 3) := by decide +kernel
theorem dX3_chain_91 : decode cX3_chain 91 = .ok (.invokevirtual 211, 3) := by decide +kernel
theorem dX3_chain_94 : decode cX3_chain 94 = .ok (.istore_n 2, 1) := by decide +kernel
theorem dX3_chain_95 : decode cX3_chain 95 = .ok (.aload_n 0, 1) := by decide +kernel
theorem dX3_chain_96 : decode cX3_chain 96 = .ok (.iload_n 2, 1) := by decide +kernel
theorem dX3_chain_97 : decode cX3_chain 97 = .ok (.invokevirtual 202, 3) := by decide +kernel
theorem dX3_chain_100 : decode cX3_chain 100 = .ok (.aload_n 0, 1) := by decide +kernel
theorem dX3_chain_101 : decode cX3_chain 101 = .ok (.iload_n 2, 1) := by decide +kernel
theorem dX3_chain_102 : decode cX3_chain 102 = .ok (.ifCond .le 7, 3) := by decide +kernel
theorem dX3_chain_105 : decode cX3_chain 105 = .ok (.iconst 1, 1) := by decide +kernel
theorem dX3_chain_106 : decode cX3_chain 106 = .ok (.goto 4, 3) := by decide +kernel
theorem dX3_chain_109 : decode cX3_chain 109 = .ok (.iconst 0, 1) := by decide +kernel
theorem dX3_chain_110 : decode cX3_chain 110 = .ok (.putfield 61, 3) := by decide +kernel
theorem dX3_chain_113 : decode cX3_chain 113 = .ok (.aload_n 0, 1) := by decide +kernel
theorem dX3_chain_114 : decode cX3_chain 114 = .ok (.getfield 61, 3) := by decide +kernel
theorem dX3_chain_117 : decode cX3_chain 117 = .ok (.ifCond .eq 9, 3) := by decide +kernel
theorem dX3_chain_120 : decode cX3_chain 120 = .ok (.iload_n 2, 1) := by decide +kernel
theorem dX3_chain_121 : decode cX3_chain 121 = .ok (.iconst 1, 1) := by decide +kernel
theorem dX3_chain_122 : decode cX3_chain 122 = .ok (.isub, 1) := by decide +kernel
theorem dX3_chain_123 : decode cX3_chain 123 = .ok (.goto 4, 3) := by decide +kernel
theorem dX3_chain_126 : decode cX3_chain 126 = .ok (.iconst 0, 1) := by decide +kernel
theorem dX3_chain_127 : decode cX3_chain 127 = .ok (.ireturn, 1) := by decide +kernel
theorem dX3_travel_0 : decode cX3_travel 0 = .ok (.aload_n 0, 1) := by decide +kernel
theorem dX3_travel_1 : decode cX3_travel 1 = .ok (.getfield 61, 3) := by decide +kernel
theorem dX3_travel_4 : decode cX3_travel 4 = .ok (.ifCond .ne 5, 3) := by decide +kernel
theorem dX3_travel_7 : decode cX3_travel 7 = .ok (.iconst (-1), 1) := by decide +kernel
theorem dX3_travel_8 : decode cX3_travel 8 = .ok (.ireturn, 1) := by decide +kernel
theorem dX3_travel_9 : decode cX3_travel 9 = .ok (.aload_n 0, 1) := by decide +kernel
theorem dX3_travel_10 : decode cX3_travel 10 = .ok (.iconst 0, 1) := by decide +kernel
theorem dX3_travel_11 : decode cX3_travel 11 = .ok (.putfield 61, 3) := by decide +kernel
theorem dX3_travel_14 : decode cX3_travel 14 = .ok (.iconst 1, 1) := by decide +kernel
theorem dX3_travel_15 : decode cX3_travel 15 = .ok (.istore_n 1, 1) := by decide +kernel
theorem dX3_travel_16 : decode cX3_travel 16 = .ok (.iload_n 1, 1) := by decide +kernel
theorem dX3_travel_17 : decode cX3_travel 17 = .ok (.aload_n 0, 1) := by decide +kernel
theorem dX3_travel_18 : decode cX3_travel 18 = .ok (.getfield 49, 3) := by decide +kernel
theorem dX3_travel_21 : decode cX3_travel 21 = .ok (.if_icmp .ge 28, 3) := by decide +kernel
theorem dX3_travel_24 : decode cX3_travel 24 = .ok (.aload_n 0, 1) := by decide +kernel
theorem dX3_travel_25 : decode cX3_travel 25 = .ok (.aload_n 0, 1) := by decide +kernel
theorem dX3_travel_26 : decode cX3_travel 26 = .ok (.getfield 22, 3) := by decide +kernel
theorem dX3_travel_29 : decode cX3_travel 29 = .ok (.iload_n 1, 1) := by decide +kernel
theorem dX3_travel_30 : decode cX3_travel 30 = .ok (.iconst 1, 1) := by decide +kernel
theorem dX3_travel_31 : decode cX3_travel 31 = .ok (.isub, 1) := by decide +kernel
theorem dX3_travel_32 : decode cX3_travel 32 = .ok (.iaload, 1) := by decide +kernel
theorem dX3_travel_33 : decode cX3_travel 33 = .ok (.aload_n 0, 1) := by decide +kernel
theorem dX3_travel_34 : decode cX3_travel 34 = .ok (.getfield 22, 3) := by decide +kernel
theorem dX3_travel_37 : decode cX3_travel 37 = .ok (.iload_n 1, 1) := by decide +kernel
theorem dX3_travel_38 : decode cX3_travel 38 = .ok (.iaload, 1) := by decide +kernel
theorem dX3_travel_39 : decode cX3_travel 39 = .ok (.iconst 1, 1) := by decide +kernel
theorem dX3_travel_40 : decode cX3_travel 40 = .ok (.invokevirtual 215, 3) := by decide +kernel
theorem dX3_travel_43 : decode cX3_travel 43 = .ok (.iinc 1 1, 3) := by decide +kernel
theorem dX3_travel_46 : decode cX3_travel 46 = .ok (.goto (-30), 3) := by decide +kernel
theorem dX3_travel_49 : decode cX3_travel 49 = .ok (.aload_n 0, 1) := by decide +kernel
theorem dX3_travel_50 : decode cX3_travel 50 = .ok (.getfield 49, 3) := by decide +kernel
theorem dX3_travel_53 : decode cX3_travel 53 = .ok (.iconst 1, 1) := by decide +kernel
theorem dX3_travel_54 : decode cX3_travel 54 = .ok (.isub, 1) := by decide +kernel
theorem dX3_travel_55 : decode cX3_travel 55 = .ok (.ireturn, 1) := by decide +kernel
theorem dX3_book_0 : decode cX3_book 0 = .ok (.aload_n 0, 1) := by decide +kernel
theorem dX3_book_1 : decode cX3_book 1 = .ok (.iconst 0, 1) := by decide +kernel
theorem dX3_book_2 : decode cX3_book 2 = .ok (.putfield 61, 3) := by decide +kernel
theorem dX3_book_5 : decode cX3_book 5 = .ok (.aload_n 0, 1) := by decide +kernel
theorem dX3_book_6 : decode cX3_book 6 = .ok (.getfield 46, 3) := by decide +kernel
theorem dX3_book_9 : decode cX3_book 9 = .ok (.bipush 60, 2) := by decide +kernel
theorem dX3_book_11 : decode cX3_book 11 = .ok (.if_icmp .ge 10, 3) := by decide +kernel
theorem dX3_book_14 : decode cX3_book 14 = .ok (.aload_n 0, 1) := by decide +kernel
theorem dX3_book_15 : decode cX3_book 15 = .ok (.invokevirtual 167, 3) := by decide +kernel
theorem dX3_book_18 : decode cX3_book 18 = .ok (.ifCond .eq 5, 3) := by decide +kernel
theorem dX3_book_21 : decode cX3_book 21 = .ok (.iconst (-1), 1) := by decide +kernel
theorem dX3_book_22 : decode cX3_book 22 = .ok (.ireturn, 1) := by decide +kernel
theorem dX3_book_23 : decode cX3_book 23 = .ok (.aload_n 0, 1) := by decide +kernel
theorem dX3_book_24 : decode cX3_book 24 = .ok (.invokevirtual 121, 3) := by decide +kernel
theorem dX3_book_27 : decode cX3_book 27 = .ok (.istore_n 1, 1) := by decide +kernel
theorem dX3_book_28 : decode cX3_book 28 = .ok (.aload_n 0, 1) := by decide +kernel
theorem dX3_book_29 : decode cX3_book 29 = .ok (.iconst 1, 1) := by decide +kernel
theorem dX3_book_30 : decode cX3_book 30 = .ok (.invokevirtual 219, 3) := by decide +kernel
theorem dX3_book_33 : decode cX3_book 33 = .ok (.iconst 0, 1) := by decide +kernel
theorem dX3_book_34 : decode cX3_book 34 = .ok (.istore_n 2, 1) := by decide +kernel
theorem dX3_book_35 : decode cX3_book 35 = .ok (.iload_n 2, 1) := by decide +kernel
theorem dX3_book_36 : decode cX3_book 36 = .ok (.bipush 10, 2) := by decide +kernel
theorem dX3_book_38 : decode cX3_book 38 = .ok (.if_icmp .ge 29, 3) := by decide +kernel
theorem dX3_book_41 : decode cX3_book 41 = .ok (.aload_n 0, 1) := by decide +kernel
theorem dX3_book_42 : decode cX3_book 42 = .ok (.getfield 19, 3) := by decide +kernel
theorem dX3_book_45 : decode cX3_book 45 = .ok (.aload_n 0, 1) := by decide +kernel
theorem dX3_book_46 : decode cX3_book 46 = .ok (.getfield 46, 3) := by decide +kernel
theorem dX3_book_49 : decode cX3_book 49 = .ok (.bipush 10, 2) := by decide +kernel
theorem dX3_book_51 : decode cX3_book 51 = .ok (.imul, 1) := by decide +kernel
theorem dX3_book_52 : decode cX3_book 52 = .ok (.iload_n 2, 1) := by decide +kernel
theorem dX3_book_53 : decode cX3_book 53 = .ok (.iadd, 1) := by decide +kernel
theorem dX3_book_54 : decode cX3_book 54 = .ok (.aload_n 0, 1) := by decide +kernel
theorem dX3_book_55 : decode cX3_book 55 = .ok (.getfield 15, 3) := by decide +kernel
theorem dX3_book_58 : decode cX3_book 58 = .ok (.iload_n 2, 1) := by decide +kernel
theorem dX3_book_59 : decode cX3_book 59 = .ok (.iaload, 1) := by decide +kernel
theorem dX3_book_60 : decode cX3_book 60 = .ok (.iastore, 1) := by decide +kernel
theorem dX3_book_61 : decode cX3_book 61 = .ok (.iinc 2 1, 3) := by decide +kernel
theorem dX3_book_64 : decode cX3_book 64 = .ok (.goto (-29), 3) := by decide +kernel
theorem dX3_book_67 : decode cX3_book 67 = .ok (.aload_n 0, 1) := by decide +kernel
theorem dX3_book_68 : decode cX3_book 68 = .ok (.invokevirtual 176, 3) := by decide +kernel
theorem dX3_book_71 : decode cX3_book 71 = .ok (.aload_n 0, 1) := by decide +kernel
theorem dX3_book_72 : decode cX3_book 72 = .ok (.dup, 1) := by decide +kernel
theorem dX3_book_73 : decode cX3_book 73 = .ok (.getfield 46, 3) := by decide +kernel
theorem dX3_book_76 : decode cX3_book 76 = .ok (.iconst 1, 1) := by decide +kernel
theorem dX3_book_77 : decode cX3_book 77 = .ok (.iadd, 1) := by decide +kernel
theorem dX3_book_78 : decode cX3_book 78 = .ok (.putfield 46, 3) := by decide +kernel
theorem dX3_book_81 : decode cX3_book 81 = .ok (.iload_n 1, 1) := by decide +kernel
theorem dX3_book_82 : decode cX3_book 82 = .ok (.ireturn, 1) := by decide +kernel
theorem dX3_went_0 : decode cX3_went 0 = .ok (.iload_n 1, 1) := by decide +kernel
theorem dX3_went_1 : decode cX3_went 1 = .ok (.ifCond .lt 19, 3) := by decide +kernel
theorem dX3_went_4 : decode cX3_went 4 = .ok (.iload_n 1, 1) := by decide +kernel
theorem dX3_went_5 : decode cX3_went 5 = .ok (.aload_n 0, 1) := by decide +kernel
theorem dX3_went_6 : decode cX3_went 6 = .ok (.getfield 46, 3) := by decide +kernel
theorem dX3_went_9 : decode cX3_went 9 = .ok (.if_icmp .ge 11, 3) := by decide +kernel
theorem dX3_went_12 : decode cX3_went 12 = .ok (.aload_n 0, 1) := by decide +kernel
theorem dX3_went_13 : decode cX3_went 13 = .ok (.iload_n 2, 1) := by decide +kernel
theorem dX3_went_14 : decode cX3_went 14 = .ok (.invokevirtual 74, 3) := by decide +kernel
theorem dX3_went_17 : decode cX3_went 17 = .ok (.ifCond .ne 5, 3) := by decide +kernel
theorem dX3_went_20 : decode cX3_went 20 = .ok (.iconst (-1), 1) := by decide +kernel
theorem dX3_went_21 : decode cX3_went 21 = .ok (.ireturn, 1) := by decide +kernel
theorem dX3_went_22 : decode cX3_went 22 = .ok (.aload_n 0, 1) := by decide +kernel
theorem dX3_went_23 : decode cX3_went 23 = .ok (.getfield 19, 3) := by decide +kernel
theorem dX3_went_26 : decode cX3_went 26 = .ok (.iload_n 1, 1) := by decide +kernel
theorem dX3_went_27 : decode cX3_went 27 = .ok (.bipush 10, 2) := by decide +kernel
theorem dX3_went_29 : decode cX3_went 29 = .ok (.imul, 1) := by decide +kernel
theorem dX3_went_30 : decode cX3_went 30 = .ok (.iload_n 2, 1) := by decide +kernel
theorem dX3_went_31 : decode cX3_went 31 = .ok (.iadd, 1) := by decide +kernel
theorem dX3_went_32 : decode cX3_went 32 = .ok (.iaload, 1) := by decide +kernel
theorem dX3_went_33 : decode cX3_went 33 = .ok (.ireturn, 1) := by decide +kernel
theorem dX3_undo_0 : decode cX3_undo 0 = .ok (.aload_n 0, 1) := by decide +kernel
theorem dX3_undo_1 : decode cX3_undo 1 = .ok (.iconst 0, 1) := by decide +kernel
theorem dX3_undo_2 : decode cX3_undo 2 = .ok (.putfield 61, 3) := by decide +kernel
theorem dX3_undo_5 : decode cX3_undo 5 = .ok (.aload_n 0, 1) := by decide +kernel
theorem dX3_undo_6 : decode cX3_undo 6 = .ok (.getfield 46, 3) := by decide +kernel
theorem dX3_undo_9 : decode cX3_undo 9 = .ok (.ifCond .ne 5, 3) := by decide +kernel
theorem dX3_undo_12 : decode cX3_undo 12 = .ok (.iconst (-1), 1) := by decide +kernel
theorem dX3_undo_13 : decode cX3_undo 13 = .ok (.ireturn, 1) := by decide +kernel
theorem dX3_undo_14 : decode cX3_undo 14 = .ok (.aload_n 0, 1) := by decide +kernel
theorem dX3_undo_15 : decode cX3_undo 15 = .ok (.dup, 1) := by decide +kernel
theorem dX3_undo_16 : decode cX3_undo 16 = .ok (.getfield 46, 3) := by decide +kernel
theorem dX3_undo_19 : decode cX3_undo 19 = .ok (.iconst 1, 1) := by decide +kernel
theorem dX3_undo_20 : decode cX3_undo 20 = .ok (.isub, 1) := by decide +kernel
theorem dX3_undo_21 : decode cX3_undo 21 = .ok (.putfield 46, 3) := by decide +kernel
theorem dX3_undo_24 : decode cX3_undo 24 = .ok (.iconst 0, 1) := by decide +kernel
theorem dX3_undo_25 : decode cX3_undo 25 = .ok (.istore_n 1, 1) := by decide +kernel
theorem dX3_undo_26 : decode cX3_undo 26 = .ok (.iload_n 1, 1) := by decide +kernel
theorem dX3_undo_27 : decode cX3_undo 27 = .ok (.bipush 10, 2) := by decide +kernel
theorem dX3_undo_29 : decode cX3_undo 29 = .ok (.if_icmp .ge 29, 3) := by decide +kernel
theorem dX3_undo_32 : decode cX3_undo 32 = .ok (.aload_n 0, 1) := by decide +kernel
theorem dX3_undo_33 : decode cX3_undo 33 = .ok (.getfield 15, 3) := by decide +kernel
theorem dX3_undo_36 : decode cX3_undo 36 = .ok (.iload_n 1, 1) := by decide +kernel
theorem dX3_undo_37 : decode cX3_undo 37 = .ok (.aload_n 0, 1) := by decide +kernel
theorem dX3_undo_38 : decode cX3_undo 38 = .ok (.getfield 19, 3) := by decide +kernel
theorem dX3_undo_41 : decode cX3_undo 41 = .ok (.aload_n 0, 1) := by decide +kernel
theorem dX3_undo_42 : decode cX3_undo 42 = .ok (.getfield 46, 3) := by decide +kernel
theorem dX3_undo_45 : decode cX3_undo 45 = .ok (.bipush 10, 2) := by decide +kernel
theorem dX3_undo_47 : decode cX3_undo 47 = .ok (.imul, 1) := by decide +kernel
theorem dX3_undo_48 : decode cX3_undo 48 = .ok (.iload_n 1, 1) := by decide +kernel
theorem dX3_undo_49 : decode cX3_undo 49 = .ok (.iadd, 1) := by decide +kernel
theorem dX3_undo_50 : decode cX3_undo 50 = .ok (.iaload, 1) := by decide +kernel
theorem dX3_undo_51 : decode cX3_undo 51 = .ok (.iastore, 1) := by decide +kernel
theorem dX3_undo_52 : decode cX3_undo 52 = .ok (.iinc 1 1, 3) := by decide +kernel
theorem dX3_undo_55 : decode cX3_undo 55 = .ok (.goto (-29), 3) := by decide +kernel
theorem dX3_undo_58 : decode cX3_undo 58 = .ok (.aload_n 0, 1) := by decide +kernel
theorem dX3_undo_59 : decode cX3_undo 59 = .ok (.iconst (-1), 1) := by decide +kernel
theorem dX3_undo_60 : decode cX3_undo 60 = .ok (.invokevirtual 219, 3) := by decide +kernel
theorem dX3_undo_63 : decode cX3_undo 63 = .ok (.aload_n 0, 1) := by decide +kernel
theorem dX3_undo_64 : decode cX3_undo 64 = .ok (.getfield 46, 3) := by decide +kernel
theorem dX3_undo_67 : decode cX3_undo 67 = .ok (.ireturn, 1) := by decide +kernel
theorem dX3_row_0 : decode cX3_row 0 = .ok (.iload_n 1, 1) := by decide +kernel
theorem dX3_row_1 : decode cX3_row 1 = .ok (.ifCond .lt 11, 3) := by decide +kernel
theorem dX3_row_4 : decode cX3_row 4 = .ok (.iload_n 1, 1) := by decide +kernel
theorem dX3_row_5 : decode cX3_row 5 = .ok (.aload_n 0, 1) := by decide +kernel
theorem dX3_row_6 : decode cX3_row 6 = .ok (.getfield 49, 3) := by decide +kernel
theorem dX3_row_9 : decode cX3_row 9 = .ok (.if_icmp .lt 13, 3) := by decide +kernel
theorem dX3_row_12 : decode cX3_row 12 = .ok (.new 130, 3) := by decide +kernel
theorem dX3_row_15 : decode cX3_row 15 = .ok (.dup, 1) := by decide +kernel
theorem dX3_row_16 : decode cX3_row 16 = .ok (.ldc 222, 2) := by decide +kernel
theorem dX3_row_18 : decode cX3_row 18 = .ok (.invokespecial 134, 3) := by decide +kernel
theorem dX3_row_21 : decode cX3_row 21 = .ok (.athrow, 1) := by decide +kernel
theorem dX3_row_22 : decode cX3_row 22 = .ok (.aload_n 0, 1) := by decide +kernel
theorem dX3_row_23 : decode cX3_row 23 = .ok (.getfield 22, 3) := by decide +kernel
theorem dX3_row_26 : decode cX3_row 26 = .ok (.iload_n 1, 1) := by decide +kernel
theorem dX3_row_27 : decode cX3_row 27 = .ok (.iaload, 1) := by decide +kernel
theorem dX3_row_28 : decode cX3_row 28 = .ok (.ireturn, 1) := by decide +kernel
theorem dX3_keepRow_0 : decode cX3_keepRow 0 = .ok (.iload_n 1, 1) := by decide +kernel
theorem dX3_keepRow_1 : decode cX3_keepRow 1 = .ok (.ifCond .le 8, 3) := by decide +kernel
theorem dX3_keepRow_4 : decode cX3_keepRow 4 = .ok (.aload_n 0, 1) := by decide +kernel
theorem dX3_keepRow_5 : decode cX3_keepRow 5 = .ok (.iload_n 1, 1) := by decide +kernel
theorem dX3_keepRow_6 : decode cX3_keepRow 6 = .ok (.putfield 49, 3) := by decide +kernel
theorem dX3_keepRow_9 : decode cX3_keepRow 9 = .ok (.return_, 1) := by decide +kernel
theorem dX3_isOneToNine_0 : decode cX3_isOneToNine 0 = .ok (.iload_n 0, 1) := by decide +kernel
theorem dX3_isOneToNine_1 : decode cX3_isOneToNine 1 = .ok (.iconst 1, 1) := by decide +kernel
theorem dX3_isOneToNine_2 : decode cX3_isOneToNine 2 = .ok (.if_icmp .lt 13, 3) := by decide +kernel
theorem dX3_isOneToNine_5 : decode cX3_isOneToNine 5 = .ok (.iload_n 0, 1) := by decide +kernel
theorem dX3_isOneToNine_6 : decode cX3_isOneToNine 6 = .ok (.bipush 9, 2) := by decide +kernel
theorem dX3_isOneToNine_8 : decode cX3_isOneToNine 8 = .ok (.if_icmp .gt 7, 3) := by decide +kernel
theorem dX3_isOneToNine_11 : decode cX3_isOneToNine 11 = .ok (.iconst 1, 1) := by decide +kernel
theorem dX3_isOneToNine_12 : decode cX3_isOneToNine 12 = .ok (.goto 4, 3) := by decide +kernel
theorem dX3_isOneToNine_15 : decode cX3_isOneToNine 15 = .ok (.iconst 0, 1) := by decide +kernel
theorem dX3_isOneToNine_16 : decode cX3_isOneToNine 16 = .ok (.ireturn, 1) := by decide +kernel
theorem dX3_isFamily_0 : decode cX3_isFamily 0 = .ok (.iload_n 1, 1) := by decide +kernel
theorem dX3_isFamily_1 : decode cX3_isFamily 1 = .ok (.ifCond .lt 15, 3) := by decide +kernel
theorem dX3_isFamily_4 : decode cX3_isFamily 4 = .ok (.iload_n 1, 1) := by decide +kernel
theorem dX3_isFamily_5 : decode cX3_isFamily 5 = .ok (.aload_n 0, 1) := by decide +kernel
theorem dX3_isFamily_6 : decode cX3_isFamily 6 = .ok (.getfield 42, 3) := by decide +kernel
theorem dX3_isFamily_9 : decode cX3_isFamily 9 = .ok (.if_icmp .ge 7, 3) := by decide +kernel
theorem dX3_isFamily_12 : decode cX3_isFamily 12 = .ok (.iconst 1, 1) := by decide +kernel
theorem dX3_isFamily_13 : decode cX3_isFamily 13 = .ok (.goto 4, 3) := by decide +kernel
theorem dX3_isFamily_16 : decode cX3_isFamily 16 = .ok (.iconst 0, 1) := by decide +kernel
theorem dX3_isFamily_17 : decode cX3_isFamily 17 = .ok (.ireturn, 1) := by decide +kernel
theorem dX3_areTwo_0 : decode cX3_areTwo 0 = .ok (.aload_n 0, 1) := by decide +kernel
theorem dX3_areTwo_1 : decode cX3_areTwo 1 = .ok (.iload_n 1, 1) := by decide +kernel
theorem dX3_areTwo_2 : decode cX3_areTwo 2 = .ok (.invokevirtual 74, 3) := by decide +kernel
theorem dX3_areTwo_5 : decode cX3_areTwo 5 = .ok (.ifCond .eq 20, 3) := by decide +kernel
theorem dX3_areTwo_8 : decode cX3_areTwo 8 = .ok (.aload_n 0, 1) := by decide +kernel
theorem dX3_areTwo_9 : decode cX3_areTwo 9 = .ok (.iload_n 2, 1) := by decide +kernel
theorem dX3_areTwo_10 : decode cX3_areTwo 10 = .ok (.invokevirtual 74, 3) := by decide +kernel
theorem dX3_areTwo_13 : decode cX3_areTwo 13 = .ok (.ifCond .eq 12, 3) := by decide +kernel
theorem dX3_areTwo_16 : decode cX3_areTwo 16 = .ok (.iload_n 1, 1) := by decide +kernel
theorem dX3_areTwo_17 : decode cX3_areTwo 17 = .ok (.iload_n 2, 1) := by decide +kernel
theorem dX3_areTwo_18 : decode cX3_areTwo 18 = .ok (.if_icmp .eq 7, 3) := by decide +kernel
theorem dX3_areTwo_21 : decode cX3_areTwo 21 = .ok (.iconst 1, 1) := by decide +kernel
theorem dX3_areTwo_22 : decode cX3_areTwo 22 = .ok (.goto 4, 3) := by decide +kernel
theorem dX3_areTwo_25 : decode cX3_areTwo 25 = .ok (.iconst 0, 1) := by decide +kernel
theorem dX3_areTwo_26 : decode cX3_areTwo 26 = .ok (.ireturn, 1) := by decide +kernel
theorem dX3_canBecomeWish_0 : decode cX3_canBecomeWish 0 = .ok (.aload_n 0, 1) := by decide +kernel
theorem dX3_canBecomeWish_1 : decode cX3_canBecomeWish 1 = .ok (.iload_n 1, 1) := by decide +kernel
theorem dX3_canBecomeWish_2 : decode cX3_canBecomeWish 2 = .ok (.iload_n 2, 1) := by decide +kernel
theorem dX3_canBecomeWish_3 : decode cX3_canBecomeWish 3 = .ok (.invokevirtual 107, 3) := by decide +kernel
theorem dX3_canBecomeWish_6 : decode cX3_canBecomeWish 6 = .ok (.ifCond .eq 21, 3) := by decide +kernel
theorem dX3_canBecomeWish_9 : decode cX3_canBecomeWish 9 = .ok (.aload_n 0, 1) := by decide +kernel
theorem dX3_canBecomeWish_10 : decode cX3_canBecomeWish 10 = .ok (.getfield 11, 3) := by decide +kernel
theorem dX3_canBecomeWish_13 : decode cX3_canBecomeWish 13 = .ok (.iload_n 1, 1) := by decide +kernel
theorem dX3_canBecomeWish_14 : decode cX3_canBecomeWish 14 = .ok (.aaload, 1) := by decide +kernel
theorem dX3_canBecomeWish_15 : decode cX3_canBecomeWish 15 = .ok (.getfield 155, 3) := by decide +kernel
theorem dX3_canBecomeWish_18 : decode cX3_canBecomeWish 18 = .ok (.iload_n 2, 1) := by decide +kernel
theorem dX3_canBecomeWish_19 : decode cX3_canBecomeWish 19 = .ok (.iaload, 1) := by decide +kernel
theorem dX3_canBecomeWish_20 : decode cX3_canBecomeWish 20 = .ok (.ifCond .ne 7, 3) := by decide +kernel
theorem dX3_canBecomeWish_23 : decode cX3_canBecomeWish 23 = .ok (.iconst 1, 1) := by decide +kernel
theorem dX3_canBecomeWish_24 : decode cX3_canBecomeWish 24 = .ok (.goto 4, 3) := by decide +kernel
theorem dX3_canBecomeWish_27 : decode cX3_canBecomeWish 27 = .ok (.iconst 0, 1) := by decide +kernel
theorem dX3_canBecomeWish_28 : decode cX3_canBecomeWish 28 = .ok (.ireturn, 1) := by decide +kernel
theorem dX3_copySheet_0 : decode cX3_copySheet 0 = .ok (.iconst 0, 1) := by decide +kernel
theorem dX3_copySheet_1 : decode cX3_copySheet 1 = .ok (.istore 6, 2) := by decide +kernel
theorem dX3_copySheet_3 : decode cX3_copySheet 3 = .ok (.iload 6, 2) := by decide +kernel
theorem dX3_copySheet_5 : decode cX3_copySheet 5 = .ok (.iload_n 3, 1) := by decide +kernel
theorem dX3_copySheet_6 : decode cX3_copySheet 6 = .ok (.if_icmp .ge 55, 3) := by decide +kernel
theorem dX3_copySheet_9 : decode cX3_copySheet 9 = .ok (.iload 4, 2) := by decide +kernel
theorem dX3_copySheet_11 : decode cX3_copySheet 11 = .ok (.iload 6, 2) := by decide +kernel
theorem dX3_copySheet_13 : decode cX3_copySheet 13 = .ok (.iload 5, 2) := by decide +kernel
theorem dX3_copySheet_15 : decode cX3_copySheet 15 = .ok (.imul, 1) := by decide +kernel
theorem dX3_copySheet_16 : decode cX3_copySheet 16 = .ok (.iadd, 1) := by decide +kernel
theorem dX3_copySheet_17 : decode cX3_copySheet 17 = .ok (.istore 7, 2) := by decide +kernel
theorem dX3_copySheet_19 : decode cX3_copySheet 19 = .ok (.iload_n 2, 1) := by decide +kernel
theorem dX3_copySheet_20 : decode cX3_copySheet 20 = .ok (.ifCond .eq 9, 3) := by decide +kernel
theorem dX3_copySheet_23 : decode cX3_copySheet 23 = .ok (.iload 7, 2) := by decide +kernel
theorem dX3_copySheet_25 : decode cX3_copySheet 25 = .ok (.i2b, 1) := by decide +kernel
theorem dX3_copySheet_26 : decode cX3_copySheet 26 = .ok (.goto 5, 3) := by decide +kernel
theorem dX3_copySheet_29 : decode cX3_copySheet 29 = .ok (.iload 7, 2) := by decide +kernel
theorem dX3_copySheet_31 : decode cX3_copySheet 31 = .ok (.istore 8, 2) := by decide +kernel
theorem dX3_copySheet_33 : decode cX3_copySheet 33 = .ok (.aload_n 0, 1) := by decide +kernel
theorem dX3_copySheet_34 : decode cX3_copySheet 34 = .ok (.iload_n 1, 1) := by decide +kernel
theorem dX3_copySheet_35 : decode cX3_copySheet 35 = .ok (.iload 8, 2) := by decide +kernel
theorem dX3_copySheet_37 : decode cX3_copySheet 37 = .ok (.invokevirtual 89, 3) := by decide +kernel
theorem dX3_copySheet_40 : decode cX3_copySheet 40 = .ok (.ifCond .ne 4, 3) := by decide +kernel
theorem dX3_copySheet_43 : decode cX3_copySheet 43 = .ok (.return_, 1) := by decide +kernel
theorem dX3_copySheet_44 : decode cX3_copySheet 44 = .ok (.aload_n 0, 1) := by decide +kernel
theorem dX3_copySheet_45 : decode cX3_copySheet 45 = .ok (.getfield 11, 3) := by decide +kernel
theorem dX3_copySheet_48 : decode cX3_copySheet 48 = .ok (.iload_n 1, 1) := by decide +kernel
theorem dX3_copySheet_49 : decode cX3_copySheet 49 = .ok (.aaload, 1) := by decide +kernel
theorem dX3_copySheet_50 : decode cX3_copySheet 50 = .ok (.iload 8, 2) := by decide +kernel
theorem dX3_copySheet_52 : decode cX3_copySheet 52 = .ok (.invokevirtual 93, 3) := by decide +kernel
theorem dX3_copySheet_55 : decode cX3_copySheet 55 = .ok (.iinc 6 1, 3) := by decide +kernel
theorem dX3_copySheet_58 : decode cX3_copySheet 58 = .ok (.goto (-55), 3) := by decide +kernel
theorem dX3_copySheet_61 : decode cX3_copySheet 61 = .ok (.return_, 1) := by decide +kernel
theorem dX3_hindrance_0 : decode cX3_hindrance 0 = .ok (.aload_n 0, 1) := by decide +kernel
theorem dX3_hindrance_1 : decode cX3_hindrance 1 = .ok (.getfield 11, 3) := by decide +kernel
theorem dX3_hindrance_4 : decode cX3_hindrance 4 = .ok (.iload_n 1, 1) := by decide +kernel
theorem dX3_hindrance_5 : decode cX3_hindrance 5 = .ok (.aaload, 1) := by decide +kernel
theorem dX3_hindrance_6 : decode cX3_hindrance 6 = .ok (.astore_n 3, 1) := by decide +kernel
theorem dX3_hindrance_7 : decode cX3_hindrance 7 = .ok (.aload_n 0, 1) := by decide +kernel
theorem dX3_hindrance_8 : decode cX3_hindrance 8 = .ok (.getfield 11, 3) := by decide +kernel
theorem dX3_hindrance_11 : decode cX3_hindrance 11 = .ok (.iload_n 2, 1) := by decide +kernel
theorem dX3_hindrance_12 : decode cX3_hindrance 12 = .ok (.aaload, 1) := by decide +kernel
theorem dX3_hindrance_13 : decode cX3_hindrance 13 = .ok (.astore 4, 2) := by decide +kernel
theorem dX3_hindrance_15 : decode cX3_hindrance 15 = .ok (.aload_n 3, 1) := by decide +kernel
theorem dX3_hindrance_16 : decode cX3_hindrance 16 = .ok (.getfield 114, 3) := by decide +kernel
theorem dX3_hindrance_19 : decode cX3_hindrance 19 = .ok (.ifCond .eq 11, 3) := by decide +kernel
theorem dX3_hindrance_22 : decode cX3_hindrance 22 = .ok (.aload 4, 2) := by decide +kernel
theorem dX3_hindrance_24 : decode cX3_hindrance 24 = .ok (.getfield 114, 3) := by decide +kernel
theorem dX3_hindrance_27 : decode cX3_hindrance 27 = .ok (.ifCond .ne 5, 3) := by decide +kernel
theorem dX3_hindrance_30 : decode cX3_hindrance 30 = .ok (.iconst 1, 1) := by decide +kernel
theorem dX3_hindrance_31 : decode cX3_hindrance 31 = .ok (.ireturn, 1) := by decide +kernel
theorem dX3_hindrance_32 : decode cX3_hindrance 32 = .ok (.aload_n 3, 1) := by decide +kernel
theorem dX3_hindrance_33 : decode cX3_hindrance 33 = .ok (.iload_n 2, 1) := by decide +kernel
theorem dX3_hindrance_34 : decode cX3_hindrance 34 = .ok (.invokevirtual 224, 3) := by decide +kernel
theorem dX3_hindrance_37 : decode cX3_hindrance 37 = .ok (.ifCond .eq 5, 3) := by decide +kernel
theorem dX3_hindrance_40 : decode cX3_hindrance 40 = .ok (.iconst 2, 1) := by decide +kernel
theorem dX3_hindrance_41 : decode cX3_hindrance 41 = .ok (.ireturn, 1) := by decide +kernel
theorem dX3_hindrance_42 : decode cX3_hindrance 42 = .ok (.aload_n 3, 1) := by decide +kernel
theorem dX3_hindrance_43 : decode cX3_hindrance 43 = .ok (.getfield 227, 3) := by decide +kernel
theorem dX3_hindrance_46 : decode cX3_hindrance 46 = .ok (.aload 4, 2) := by decide +kernel
theorem dX3_hindrance_48 : decode cX3_hindrance 48 = .ok (.invokevirtual 137, 3) := by decide +kernel
theorem dX3_hindrance_51 : decode cX3_hindrance 51 = .ok (.if_icmp .le 5, 3) := by decide +kernel
theorem dX3_hindrance_54 : decode cX3_hindrance 54 = .ok (.iconst 3, 1) := by decide +kernel
theorem dX3_hindrance_55 : decode cX3_hindrance 55 = .ok (.ireturn, 1) := by decide +kernel
theorem dX3_hindrance_56 : decode cX3_hindrance 56 = .ok (.aload_n 3, 1) := by decide +kernel
theorem dX3_hindrance_57 : decode cX3_hindrance 57 = .ok (.getfield 230, 3) := by decide +kernel
theorem dX3_hindrance_60 : decode cX3_hindrance 60 = .ok (.ifCond .eq 13, 3) := by decide +kernel
theorem dX3_hindrance_63 : decode cX3_hindrance 63 = .ok (.aload 4, 2) := by decide +kernel
theorem dX3_hindrance_65 : decode cX3_hindrance 65 = .ok (.invokevirtual 233, 3) := by decide +kernel
theorem dX3_hindrance_68 : decode cX3_hindrance 68 = .ok (.ifCond .ne 5, 3) := by decide +kernel
theorem dX3_hindrance_71 : decode cX3_hindrance 71 = .ok (.iconst 4, 1) := by decide +kernel
theorem dX3_hindrance_72 : decode cX3_hindrance 72 = .ok (.ireturn, 1) := by decide +kernel
theorem dX3_hindrance_73 : decode cX3_hindrance 73 = .ok (.aload_n 3, 1) := by decide +kernel
theorem dX3_hindrance_74 : decode cX3_hindrance 74 = .ok (.aload 4, 2) := by decide +kernel
theorem dX3_hindrance_76 : decode cX3_hindrance 76 = .ok (.invokevirtual 237, 3) := by decide +kernel
theorem dX3_hindrance_79 : decode cX3_hindrance 79 = .ok (.aload_n 0, 1) := by decide +kernel
theorem dX3_hindrance_80 : decode cX3_hindrance 80 = .ok (.getfield 52, 3) := by decide +kernel
theorem dX3_hindrance_83 : decode cX3_hindrance 83 = .ok (.if_icmp .ge 7, 3) := by decide +kernel
theorem dX3_hindrance_86 : decode cX3_hindrance 86 = .ok (.iconst 5, 1) := by decide +kernel
theorem dX3_hindrance_87 : decode cX3_hindrance 87 = .ok (.goto 4, 3) := by decide +kernel
theorem dX3_hindrance_90 : decode cX3_hindrance 90 = .ok (.iconst 0, 1) := by decide +kernel
theorem dX3_hindrance_91 : decode cX3_hindrance 91 = .ok (.ireturn, 1) := by decide +kernel
theorem dX3_takes_0 : decode cX3_takes 0 = .ok (.aload_n 0, 1) := by decide +kernel
theorem dX3_takes_1 : decode cX3_takes 1 = .ok (.getfield 11, 3) := by decide +kernel
theorem dX3_takes_4 : decode cX3_takes 4 = .ok (.iload_n 1, 1) := by decide +kernel
theorem dX3_takes_5 : decode cX3_takes 5 = .ok (.aaload, 1) := by decide +kernel
theorem dX3_takes_6 : decode cX3_takes 6 = .ok (.getfield 155, 3) := by decide +kernel
theorem dX3_takes_9 : decode cX3_takes 9 = .ok (.iload_n 2, 1) := by decide +kernel
theorem dX3_takes_10 : decode cX3_takes 10 = .ok (.iaload, 1) := by decide +kernel
theorem dX3_takes_11 : decode cX3_takes 11 = .ok (.ifCond .le 16, 3) := by decide +kernel
theorem dX3_takes_14 : decode cX3_takes 14 = .ok (.aload_n 0, 1) := by decide +kernel
theorem dX3_takes_15 : decode cX3_takes 15 = .ok (.iload_n 1, 1) := by decide +kernel
theorem dX3_takes_16 : decode cX3_takes 16 = .ok (.iload_n 2, 1) := by decide +kernel
theorem dX3_takes_17 : decode cX3_takes 17 = .ok (.invokevirtual 158, 3) := by decide +kernel
theorem dX3_takes_20 : decode cX3_takes 20 = .ok (.ifCond .ne 7, 3) := by decide +kernel
theorem dX3_takes_23 : decode cX3_takes 23 = .ok (.iconst 1, 1) := by decide +kernel
theorem dX3_takes_24 : decode cX3_takes 24 = .ok (.goto 4, 3) := by decide +kernel
theorem dX3_takes_27 : decode cX3_takes 27 = .ok (.iconst 0, 1) := by decide +kernel
theorem dX3_takes_28 : decode cX3_takes 28 = .ok (.ireturn, 1) := by decide +kernel
theorem dX3_countTaken_0 : decode cX3_countTaken 0 = .ok (.iconst 0, 1) := by decide +kernel
theorem dX3_countTaken_1 : decode cX3_countTaken 1 = .ok (.istore_n 2, 1) := by decide +kernel
theorem dX3_countTaken_2 : decode cX3_countTaken 2 = .ok (.iconst 0, 1) := by decide +kernel
theorem dX3_countTaken_3 : decode cX3_countTaken 3 = .ok (.istore_n 3, 1) := by decide +kernel
theorem dX3_countTaken_4 : decode cX3_countTaken 4 = .ok (.iload_n 3, 1) := by decide +kernel
theorem dX3_countTaken_5 : decode cX3_countTaken 5 = .ok (.aload_n 0, 1) := by decide +kernel
theorem dX3_countTaken_6 : decode cX3_countTaken 6 = .ok (.getfield 42, 3) := by decide +kernel
theorem dX3_countTaken_9 : decode cX3_countTaken 9 = .ok (.if_icmp .ge 21, 3) := by decide +kernel
theorem dX3_countTaken_12 : decode cX3_countTaken 12 = .ok (.aload_n 0, 1) := by decide +kernel
theorem dX3_countTaken_13 : decode cX3_countTaken 13 = .ok (.iload_n 1, 1) := by decide +kernel
theorem dX3_countTaken_14 : decode cX3_countTaken 14 = .ok (.iload_n 3, 1) := by decide +kernel
theorem dX3_countTaken_15 : decode cX3_countTaken 15 = .ok (.invokevirtual 188, 3) := by decide +kernel
theorem dX3_countTaken_18 : decode cX3_countTaken 18 = .ok (.ifCond .eq 6, 3) := by decide +kernel
theorem dX3_countTaken_21 : decode cX3_countTaken 21 = .ok (.iinc 2 1, 3) := by decide +kernel
theorem dX3_countTaken_24 : decode cX3_countTaken 24 = .ok (.iinc 3 1, 3) := by decide +kernel
theorem dX3_countTaken_27 : decode cX3_countTaken 27 = .ok (.goto (-23), 3) := by decide +kernel
theorem dX3_countTaken_30 : decode cX3_countTaken 30 = .ok (.iload_n 2, 1) := by decide +kernel
theorem dX3_countTaken_31 : decode cX3_countTaken 31 = .ok (.ireturn, 1) := by decide +kernel
theorem dX3_countPresent_0 : decode cX3_countPresent 0 = .ok (.iconst 0, 1) := by decide +kernel
theorem dX3_countPresent_1 : decode cX3_countPresent 1 = .ok (.istore_n 1, 1) := by decide +kernel
theorem dX3_countPresent_2 : decode cX3_countPresent 2 = .ok (.iconst 0, 1) := by decide +kernel
theorem dX3_countPresent_3 : decode cX3_countPresent 3 = .ok (.istore_n 2, 1) := by decide +kernel
theorem dX3_countPresent_4 : decode cX3_countPresent 4 = .ok (.iload_n 2, 1) := by decide +kernel
theorem dX3_countPresent_5 : decode cX3_countPresent 5 = .ok (.aload_n 0, 1) := by decide +kernel
theorem dX3_countPresent_6 : decode cX3_countPresent 6 = .ok (.getfield 42, 3) := by decide +kernel
theorem dX3_countPresent_9 : decode cX3_countPresent 9 = .ok (.if_icmp .ge 24, 3) := by decide +kernel
theorem dX3_countPresent_12 : decode cX3_countPresent 12 = .ok (.aload_n 0, 1) := by decide +kernel
theorem dX3_countPresent_13 : decode cX3_countPresent 13 = .ok (.getfield 11, 3) := by decide +kernel
theorem dX3_countPresent_16 : decode cX3_countPresent 16 = .ok (.iload_n 2, 1) := by decide +kernel
theorem dX3_countPresent_17 : decode cX3_countPresent 17 = .ok (.aaload, 1) := by decide +kernel
theorem dX3_countPresent_18 : decode cX3_countPresent 18 = .ok (.getfield 114, 3) := by decide +kernel
theorem dX3_countPresent_21 : decode cX3_countPresent 21 = .ok (.ifCond .eq 6, 3) := by decide +kernel
theorem dX3_countPresent_24 : decode cX3_countPresent 24 = .ok (.iinc 1 1, 3) := by decide +kernel
theorem dX3_countPresent_27 : decode cX3_countPresent 27 = .ok (.iinc 2 1, 3) := by decide +kernel
theorem dX3_countPresent_30 : decode cX3_countPresent 30 = .ok (.goto (-26), 3) := by decide +kernel
theorem dX3_countPresent_33 : decode cX3_countPresent 33 = .ok (.iload_n 1, 1) := by decide +kernel
theorem dX3_countPresent_34 : decode cX3_countPresent 34 = .ok (.ireturn, 1) := by decide +kernel
theorem dX3_countGoing_0 : decode cX3_countGoing 0 = .ok (.iconst 0, 1) := by decide +kernel
theorem dX3_countGoing_1 : decode cX3_countGoing 1 = .ok (.istore_n 1, 1) := by decide +kernel
theorem dX3_countGoing_2 : decode cX3_countGoing 2 = .ok (.iconst 0, 1) := by decide +kernel
theorem dX3_countGoing_3 : decode cX3_countGoing 3 = .ok (.istore_n 2, 1) := by decide +kernel
theorem dX3_countGoing_4 : decode cX3_countGoing 4 = .ok (.iload_n 2, 1) := by decide +kernel
theorem dX3_countGoing_5 : decode cX3_countGoing 5 = .ok (.aload_n 0, 1) := by decide +kernel
theorem dX3_countGoing_6 : decode cX3_countGoing 6 = .ok (.getfield 42, 3) := by decide +kernel
theorem dX3_countGoing_9 : decode cX3_countGoing 9 = .ok (.if_icmp .ge 22, 3) := by decide +kernel
theorem dX3_countGoing_12 : decode cX3_countGoing 12 = .ok (.aload_n 0, 1) := by decide +kernel
theorem dX3_countGoing_13 : decode cX3_countGoing 13 = .ok (.getfield 15, 3) := by decide +kernel
theorem dX3_countGoing_16 : decode cX3_countGoing 16 = .ok (.iload_n 2, 1) := by decide +kernel
theorem dX3_countGoing_17 : decode cX3_countGoing 17 = .ok (.iaload, 1) := by decide +kernel
theorem dX3_countGoing_18 : decode cX3_countGoing 18 = .ok (.iconst (-1), 1) := by decide +kernel
theorem dX3_countGoing_19 : decode cX3_countGoing 19 = .ok (.if_icmp .eq 6, 3) := by decide +kernel
theorem dX3_countGoing_22 : decode cX3_countGoing 22 = .ok (.iinc 1 1, 3) := by decide +kernel
theorem dX3_countGoing_25 : decode cX3_countGoing 25 = .ok (.iinc 2 1, 3) := by decide +kernel
theorem dX3_countGoing_28 : decode cX3_countGoing 28 = .ok (.goto (-24), 3) := by decide +kernel
theorem dX3_countGoing_31 : decode cX3_countGoing 31 = .ok (.iload_n 1, 1) := by decide +kernel
theorem dX3_countGoing_32 : decode cX3_countGoing 32 = .ok (.ireturn, 1) := by decide +kernel
theorem dX3_planRank_0 : decode cX3_planRank 0 = .ok (.aload_n 0, 1) := by decide +kernel
theorem dX3_planRank_1 : decode cX3_planRank 1 = .ok (.getfield 15, 3) := by decide +kernel
theorem dX3_planRank_4 : decode cX3_planRank 4 = .ok (.iload_n 1, 1) := by decide +kernel
theorem dX3_planRank_5 : decode cX3_planRank 5 = .ok (.iaload, 1) := by decide +kernel
theorem dX3_planRank_6 : decode cX3_planRank 6 = .ok (.iconst (-1), 1) := by decide +kernel
theorem dX3_planRank_7 : decode cX3_planRank 7 = .ok (.if_icmp .ne 7, 3) := by decide +kernel
theorem dX3_planRank_10 : decode cX3_planRank 10 = .ok (.iconst 0, 1) := by decide +kernel
theorem dX3_planRank_11 : decode cX3_planRank 11 = .ok (.goto 19, 3) := by decide +kernel
theorem dX3_planRank_14 : decode cX3_planRank 14 = .ok (.aload_n 0, 1) := by decide +kernel
theorem dX3_planRank_15 : decode cX3_planRank 15 = .ok (.getfield 11, 3) := by decide +kernel
theorem dX3_planRank_18 : decode cX3_planRank 18 = .ok (.iload_n 1, 1) := by decide +kernel
theorem dX3_planRank_19 : decode cX3_planRank 19 = .ok (.aaload, 1) := by decide +kernel
theorem dX3_planRank_20 : decode cX3_planRank 20 = .ok (.getfield 155, 3) := by decide +kernel
theorem dX3_planRank_23 : decode cX3_planRank 23 = .ok (.aload_n 0, 1) := by decide +kernel
theorem dX3_planRank_24 : decode cX3_planRank 24 = .ok (.getfield 15, 3) := by decide +kernel
theorem dX3_planRank_27 : decode cX3_planRank 27 = .ok (.iload_n 1, 1) := by decide +kernel
theorem dX3_planRank_28 : decode cX3_planRank 28 = .ok (.iaload, 1) := by decide +kernel
theorem dX3_planRank_29 : decode cX3_planRank 29 = .ok (.iaload, 1) := by decide +kernel
theorem dX3_planRank_30 : decode cX3_planRank 30 = .ok (.ireturn, 1) := by decide +kernel
theorem dX3_sumOfRanks_0 : decode cX3_sumOfRanks 0 = .ok (.iconst 0, 1) := by decide +kernel
theorem dX3_sumOfRanks_1 : decode cX3_sumOfRanks 1 = .ok (.istore_n 1, 1) := by decide +kernel
theorem dX3_sumOfRanks_2 : decode cX3_sumOfRanks 2 = .ok (.iconst 0, 1) := by decide +kernel
theorem dX3_sumOfRanks_3 : decode cX3_sumOfRanks 3 = .ok (.istore_n 2, 1) := by decide +kernel
theorem dX3_sumOfRanks_4 : decode cX3_sumOfRanks 4 = .ok (.iload_n 2, 1) := by decide +kernel
theorem dX3_sumOfRanks_5 : decode cX3_sumOfRanks 5 = .ok (.aload_n 0, 1) := by decide +kernel
theorem dX3_sumOfRanks_6 : decode cX3_sumOfRanks 6 = .ok (.getfield 42, 3) := by decide +kernel
theorem dX3_sumOfRanks_9 : decode cX3_sumOfRanks 9 = .ok (.if_icmp .ge 17, 3) := by decide +kernel
theorem dX3_sumOfRanks_12 : decode cX3_sumOfRanks 12 = .ok (.iload_n 1, 1) := by decide +kernel
theorem dX3_sumOfRanks_13 : decode cX3_sumOfRanks 13 = .ok (.aload_n 0, 1) := by decide +kernel
theorem dX3_sumOfRanks_14 : decode cX3_sumOfRanks 14 = .ok (.iload_n 2, 1) := by decide +kernel
theorem dX3_sumOfRanks_15 : decode cX3_sumOfRanks 15 = .ok (.invokevirtual 241, 3) := by decide +kernel
theorem dX3_sumOfRanks_18 : decode cX3_sumOfRanks 18 = .ok (.iadd, 1) := by decide +kernel
theorem dX3_sumOfRanks_19 : decode cX3_sumOfRanks 19 = .ok (.istore_n 1, 1) := by decide +kernel
theorem dX3_sumOfRanks_20 : decode cX3_sumOfRanks 20 = .ok (.iinc 2 1, 3) := by decide +kernel
theorem dX3_sumOfRanks_23 : decode cX3_sumOfRanks 23 = .ok (.goto (-19), 3) := by decide +kernel
theorem dX3_sumOfRanks_26 : decode cX3_sumOfRanks 26 = .ok (.iload_n 1, 1) := by decide +kernel
theorem dX3_sumOfRanks_27 : decode cX3_sumOfRanks 27 = .ok (.ireturn, 1) := by decide +kernel
theorem dX3_firstGuest_0 : decode cX3_firstGuest 0 = .ok (.iconst 0, 1) := by decide +kernel
theorem dX3_firstGuest_1 : decode cX3_firstGuest 1 = .ok (.istore_n 2, 1) := by decide +kernel
theorem dX3_firstGuest_2 : decode cX3_firstGuest 2 = .ok (.iload_n 2, 1) := by decide +kernel
theorem dX3_firstGuest_3 : decode cX3_firstGuest 3 = .ok (.aload_n 0, 1) := by decide +kernel
theorem dX3_firstGuest_4 : decode cX3_firstGuest 4 = .ok (.getfield 42, 3) := by decide +kernel
theorem dX3_firstGuest_7 : decode cX3_firstGuest 7 = .ok (.if_icmp .ge 21, 3) := by decide +kernel
theorem dX3_firstGuest_10 : decode cX3_firstGuest 10 = .ok (.aload_n 0, 1) := by decide +kernel
theorem dX3_firstGuest_11 : decode cX3_firstGuest 11 = .ok (.getfield 15, 3) := by decide +kernel
theorem dX3_firstGuest_14 : decode cX3_firstGuest 14 = .ok (.iload_n 2, 1) := by decide +kernel
theorem dX3_firstGuest_15 : decode cX3_firstGuest 15 = .ok (.iaload, 1) := by decide +kernel
theorem dX3_firstGuest_16 : decode cX3_firstGuest 16 = .ok (.iload_n 1, 1) := by decide +kernel
theorem dX3_firstGuest_17 : decode cX3_firstGuest 17 = .ok (.if_icmp .ne 5, 3) := by decide +kernel
theorem dX3_firstGuest_20 : decode cX3_firstGuest 20 = .ok (.iload_n 2, 1) := by decide +kernel
theorem dX3_firstGuest_21 : decode cX3_firstGuest 21 = .ok (.ireturn, 1) := by decide +kernel
theorem dX3_firstGuest_22 : decode cX3_firstGuest 22 = .ok (.iinc 2 1, 3) := by decide +kernel
theorem dX3_firstGuest_25 : decode cX3_firstGuest 25 = .ok (.goto (-23), 3) := by decide +kernel
theorem dX3_firstGuest_28 : decode cX3_firstGuest 28 = .ok (.iconst (-1), 1) := by decide +kernel
theorem dX3_firstGuest_29 : decode cX3_firstGuest 29 = .ok (.ireturn, 1) := by decide +kernel
theorem dX3_isLiked_0 : decode cX3_isLiked 0 = .ok (.aload_n 0, 1) := by decide +kernel
theorem dX3_isLiked_1 : decode cX3_isLiked 1 = .ok (.iload_n 1, 1) := by decide +kernel
theorem dX3_isLiked_2 : decode cX3_isLiked 2 = .ok (.invokevirtual 241, 3) := by decide +kernel
theorem dX3_isLiked_5 : decode cX3_isLiked 5 = .ok (.istore_n 3, 1) := by decide +kernel
theorem dX3_isLiked_6 : decode cX3_isLiked 6 = .ok (.iload_n 3, 1) := by decide +kernel
theorem dX3_isLiked_7 : decode cX3_isLiked 7 = .ok (.ifCond .eq 18, 3) := by decide +kernel
theorem dX3_isLiked_10 : decode cX3_isLiked 10 = .ok (.aload_n 0, 1) := by decide +kernel
theorem dX3_isLiked_11 : decode cX3_isLiked 11 = .ok (.getfield 11, 3) := by decide +kernel
theorem dX3_isLiked_14 : decode cX3_isLiked 14 = .ok (.iload_n 1, 1) := by decide +kernel
theorem dX3_isLiked_15 : decode cX3_isLiked 15 = .ok (.aaload, 1) := by decide +kernel
theorem dX3_isLiked_16 : decode cX3_isLiked 16 = .ok (.getfield 155, 3) := by decide +kernel
theorem dX3_isLiked_19 : decode cX3_isLiked 19 = .ok (.iload_n 2, 1) := by decide +kernel
theorem dX3_isLiked_20 : decode cX3_isLiked 20 = .ok (.iaload, 1) := by decide +kernel
theorem dX3_isLiked_21 : decode cX3_isLiked 21 = .ok (.iload_n 3, 1) := by decide +kernel
theorem dX3_isLiked_22 : decode cX3_isLiked 22 = .ok (.if_icmp .ge 7, 3) := by decide +kernel
theorem dX3_isLiked_25 : decode cX3_isLiked 25 = .ok (.iconst 1, 1) := by decide +kernel
theorem dX3_isLiked_26 : decode cX3_isLiked 26 = .ok (.goto 4, 3) := by decide +kernel
theorem dX3_isLiked_29 : decode cX3_isLiked 29 = .ok (.iconst 0, 1) := by decide +kernel
theorem dX3_isLiked_30 : decode cX3_isLiked 30 = .ok (.ireturn, 1) := by decide +kernel
theorem dX3_faultOfClosing_0 : decode cX3_faultOfClosing 0 = .ok (.iconst 0, 1) := by decide +kernel
theorem dX3_faultOfClosing_1 : decode cX3_faultOfClosing 1 = .ok (.istore_n 1, 1) := by decide +kernel
theorem dX3_faultOfClosing_2 : decode cX3_faultOfClosing 2 = .ok (.iload_n 1, 1) := by decide +kernel
theorem dX3_faultOfClosing_3 : decode cX3_faultOfClosing 3 = .ok (.aload_n 0, 1) := by decide +kernel
theorem dX3_faultOfClosing_4 : decode cX3_faultOfClosing 4 = .ok (.getfield 42, 3) := by decide +kernel
theorem dX3_faultOfClosing_7 : decode cX3_faultOfClosing 7 = .ok (.if_icmp .ge 38, 3) := by decide +kernel
theorem dX3_faultOfClosing_10 : decode cX3_faultOfClosing 10 = .ok (.aload_n 0, 1) := by decide +kernel
theorem dX3_faultOfClosing_11 : decode cX3_faultOfClosing 11 = .ok (.getfield 15, 3) := by decide +kernel
theorem dX3_faultOfClosing_14 : decode cX3_faultOfClosing 14 = .ok (.iload_n 1, 1) := by decide +kernel
theorem dX3_faultOfClosing_15 : decode cX3_faultOfClosing 15 = .ok (.iaload, 1) := by decide +kernel
theorem dX3_faultOfClosing_16 : decode cX3_faultOfClosing 16 = .ok (.iconst (-1), 1) := by decide +kernel
theorem dX3_faultOfClosing_17 : decode cX3_faultOfClosing 17 = .ok (.if_icmp .eq 22, 3) := by decide +kernel
theorem dX3_faultOfClosing_20 : decode cX3_faultOfClosing 20 = .ok (.aload_n 0, 1) := by decide +kernel
theorem dX3_faultOfClosing_21 : decode cX3_faultOfClosing 21 = .ok (.iload_n 1, 1) := by decide +kernel
theorem dX3_faultOfClosing_22 : decode cX3_faultOfClosing 22 = .ok (.aload_n 0, 1) := by decide +kernel
theorem dX3_faultOfClosing_23 : decode cX3_faultOfClosing 23 = .ok (.getfield 15, 3) := by decide +kernel
theorem dX3_faultOfClosing_26 : decode cX3_faultOfClosing 26 = .ok (.iload_n 1, 1) := by decide +kernel
theorem dX3_faultOfClosing_27 : decode cX3_faultOfClosing 27 = .ok (.iaload, 1) := by decide +kernel
theorem dX3_faultOfClosing_28 : decode cX3_faultOfClosing 28 = .ok (.invokevirtual 188, 3) := by decide +kernel
theorem dX3_faultOfClosing_31 : decode cX3_faultOfClosing 31 = .ok (.ifCond .ne 8, 3) := by decide +kernel
theorem dX3_faultOfClosing_34 : decode cX3_faultOfClosing 34 = .ok (.bipush 10, 2) := by decide +kernel
theorem dX3_faultOfClosing_36 : decode cX3_faultOfClosing 36 = .ok (.iload_n 1, 1) := by decide +kernel
theorem dX3_faultOfClosing_37 : decode cX3_faultOfClosing 37 = .ok (.iadd, 1) := by decide +kernel
theorem dX3_faultOfClosing_38 : decode cX3_faultOfClosing 38 = .ok (.ireturn, 1) := by decide +kernel
theorem dX3_faultOfClosing_39 : decode cX3_faultOfClosing 39 = .ok (.iinc 1 1, 3) := by decide +kernel
theorem dX3_faultOfClosing_42 : decode cX3_faultOfClosing 42 = .ok (.goto (-40), 3) := by decide +kernel
theorem dX3_faultOfClosing_45 : decode cX3_faultOfClosing 45 = .ok (.iconst 0, 1) := by decide +kernel
theorem dX3_faultOfClosing_46 : decode cX3_faultOfClosing 46 = .ok (.istore_n 1, 1) := by decide +kernel
theorem dX3_faultOfClosing_47 : decode cX3_faultOfClosing 47 = .ok (.iload_n 1, 1) := by decide +kernel
theorem dX3_faultOfClosing_48 : decode cX3_faultOfClosing 48 = .ok (.aload_n 0, 1) := by decide +kernel
theorem dX3_faultOfClosing_49 : decode cX3_faultOfClosing 49 = .ok (.getfield 42, 3) := by decide +kernel
theorem dX3_faultOfClosing_52 : decode cX3_faultOfClosing 52 = .ok (.if_icmp .ge 32, 3) := by decide +kernel
theorem dX3_faultOfClosing_55 : decode cX3_faultOfClosing 55 = .ok (.aload_n 0, 1) := by decide +kernel
theorem dX3_faultOfClosing_56 : decode cX3_faultOfClosing 56 = .ok (.getfield 15, 3) := by decide +kernel
theorem dX3_faultOfClosing_59 : decode cX3_faultOfClosing 59 = .ok (.iload_n 1, 1) := by decide +kernel
theorem dX3_faultOfClosing_60 : decode cX3_faultOfClosing 60 = .ok (.iaload, 1) := by decide +kernel
theorem dX3_faultOfClosing_61 : decode cX3_faultOfClosing 61 = .ok (.iconst (-1), 1) := by decide +kernel
theorem dX3_faultOfClosing_62 : decode cX3_faultOfClosing 62 = .ok (.if_icmp .eq 16, 3) := by decide +kernel
theorem dX3_faultOfClosing_65 : decode cX3_faultOfClosing 65 = .ok (.aload_n 0, 1) := by decide +kernel
theorem dX3_faultOfClosing_66 : decode cX3_faultOfClosing 66 = .ok (.iload_n 1, 1) := by decide +kernel
theorem dX3_faultOfClosing_67 : decode cX3_faultOfClosing 67 = .ok (.invokevirtual 244, 3) := by decide +kernel
theorem dX3_faultOfClosing_70 : decode cX3_faultOfClosing 70 = .ok (.ifCond .eq 8, 3) := by decide +kernel
theorem dX3_faultOfClosing_73 : decode cX3_faultOfClosing 73 = .ok (.bipush 20, 2) := by decide +kernel
theorem dX3_faultOfClosing_75 : decode cX3_faultOfClosing 75 = .ok (.iload_n 1, 1) := by decide +kernel
theorem dX3_faultOfClosing_76 : decode cX3_faultOfClosing 76 = .ok (.iadd, 1) := by decide +kernel
theorem dX3_faultOfClosing_77 : decode cX3_faultOfClosing 77 = .ok (.ireturn, 1) := by decide +kernel
theorem dX3_faultOfClosing_78 : decode cX3_faultOfClosing 78 = .ok (.iinc 1 1, 3) := by decide +kernel
theorem dX3_faultOfClosing_81 : decode cX3_faultOfClosing 81 = .ok (.goto (-34), 3) := by decide +kernel
theorem dX3_faultOfClosing_84 : decode cX3_faultOfClosing 84 = .ok (.iconst 0, 1) := by decide +kernel
theorem dX3_faultOfClosing_85 : decode cX3_faultOfClosing 85 = .ok (.istore_n 1, 1) := by decide +kernel
theorem dX3_faultOfClosing_86 : decode cX3_faultOfClosing 86 = .ok (.iload_n 1, 1) := by decide +kernel
theorem dX3_faultOfClosing_87 : decode cX3_faultOfClosing 87 = .ok (.aload_n 0, 1) := by decide +kernel
theorem dX3_faultOfClosing_88 : decode cX3_faultOfClosing 88 = .ok (.getfield 42, 3) := by decide +kernel
theorem dX3_faultOfClosing_91 : decode cX3_faultOfClosing 91 = .ok (.if_icmp .ge 33, 3) := by decide +kernel
theorem dX3_faultOfClosing_94 : decode cX3_faultOfClosing 94 = .ok (.aload_n 0, 1) := by decide +kernel
theorem dX3_faultOfClosing_95 : decode cX3_faultOfClosing 95 = .ok (.getfield 15, 3) := by decide +kernel
theorem dX3_faultOfClosing_98 : decode cX3_faultOfClosing 98 = .ok (.iload_n 1, 1) := by decide +kernel
theorem dX3_faultOfClosing_99 : decode cX3_faultOfClosing 99 = .ok (.iaload, 1) := by decide +kernel
theorem dX3_faultOfClosing_100 : decode cX3_faultOfClosing 100 = .ok (.iconst (-1), 1) := by decide +kernel
theorem dX3_faultOfClosing_101 : decode cX3_faultOfClosing 101 = .ok (.if_icmp .ne 17, 3) := by decide +kernel
theorem dX3_faultOfClosing_104 : decode cX3_faultOfClosing 104 = .ok (.aload_n 0, 1) := by decide +kernel
theorem dX3_faultOfClosing_105 : decode cX3_faultOfClosing 105 = .ok (.iload_n 1, 1) := by decide +kernel
theorem dX3_faultOfClosing_106 : decode cX3_faultOfClosing 106 = .ok (.invokevirtual 146, 3) := by decide +kernel
theorem dX3_faultOfClosing_109 : decode cX3_faultOfClosing 109 = .ok (.iconst (-1), 1) := by decide +kernel
theorem dX3_faultOfClosing_110 : decode cX3_faultOfClosing 110 = .ok (.if_icmp .eq 8, 3) := by decide +kernel
theorem dX3_faultOfClosing_113 : decode cX3_faultOfClosing 113 = .ok (.bipush 30, 2) := by decide +kernel
theorem dX3_faultOfClosing_115 : decode cX3_faultOfClosing 115 = .ok (.iload_n 1, 1) := by decide +kernel
theorem dX3_faultOfClosing_116 : decode cX3_faultOfClosing 116 = .ok (.iadd, 1) := by decide +kernel
theorem dX3_faultOfClosing_117 : decode cX3_faultOfClosing 117 = .ok (.ireturn, 1) := by decide +kernel
theorem dX3_faultOfClosing_118 : decode cX3_faultOfClosing 118 = .ok (.iinc 1 1, 3) := by decide +kernel
theorem dX3_faultOfClosing_121 : decode cX3_faultOfClosing 121 = .ok (.goto (-35), 3) := by decide +kernel
theorem dX3_faultOfClosing_124 : decode cX3_faultOfClosing 124 = .ok (.iconst 0, 1) := by decide +kernel
theorem dX3_faultOfClosing_125 : decode cX3_faultOfClosing 125 = .ok (.ireturn, 1) := by decide +kernel
theorem dX3_hasRival_0 : decode cX3_hasRival 0 = .ok (.iconst 0, 1) := by decide +kernel
theorem dX3_hasRival_1 : decode cX3_hasRival 1 = .ok (.istore_n 2, 1) := by decide +kernel
theorem dX3_hasRival_2 : decode cX3_hasRival 2 = .ok (.iload_n 2, 1) := by decide +kernel
theorem dX3_hasRival_3 : decode cX3_hasRival 3 = .ok (.aload_n 0, 1) := by decide +kernel
theorem dX3_hasRival_4 : decode cX3_hasRival 4 = .ok (.getfield 42, 3) := by decide +kernel
theorem dX3_hasRival_7 : decode cX3_hasRival 7 = .ok (.if_icmp .ge 31, 3) := by decide +kernel
theorem dX3_hasRival_10 : decode cX3_hasRival 10 = .ok (.iload_n 2, 1) := by decide +kernel
theorem dX3_hasRival_11 : decode cX3_hasRival 11 = .ok (.iload_n 1, 1) := by decide +kernel
theorem dX3_hasRival_12 : decode cX3_hasRival 12 = .ok (.if_icmp .eq 20, 3) := by decide +kernel
theorem dX3_hasRival_15 : decode cX3_hasRival 15 = .ok (.aload_n 0, 1) := by decide +kernel
theorem dX3_hasRival_16 : decode cX3_hasRival 16 = .ok (.getfield 15, 3) := by decide +kernel
theorem dX3_hasRival_19 : decode cX3_hasRival 19 = .ok (.iload_n 2, 1) := by decide +kernel
theorem dX3_hasRival_20 : decode cX3_hasRival 20 = .ok (.iaload, 1) := by decide +kernel
theorem dX3_hasRival_21 : decode cX3_hasRival 21 = .ok (.aload_n 0, 1) := by decide +kernel
theorem dX3_hasRival_22 : decode cX3_hasRival 22 = .ok (.getfield 15, 3) := by decide +kernel
theorem dX3_hasRival_25 : decode cX3_hasRival 25 = .ok (.iload_n 1, 1) := by decide +kernel
theorem dX3_hasRival_26 : decode cX3_hasRival 26 = .ok (.iaload, 1) := by decide +kernel
theorem dX3_hasRival_27 : decode cX3_hasRival 27 = .ok (.if_icmp .ne 5, 3) := by decide +kernel
theorem dX3_hasRival_30 : decode cX3_hasRival 30 = .ok (.iconst 1, 1) := by decide +kernel
theorem dX3_hasRival_31 : decode cX3_hasRival 31 = .ok (.ireturn, 1) := by decide +kernel
theorem dX3_hasRival_32 : decode cX3_hasRival 32 = .ok (.iinc 2 1, 3) := by decide +kernel
theorem dX3_hasRival_35 : decode cX3_hasRival 35 = .ok (.goto (-33), 3) := by decide +kernel
theorem dX3_hasRival_38 : decode cX3_hasRival 38 = .ok (.iconst 0, 1) := by decide +kernel
theorem dX3_hasRival_39 : decode cX3_hasRival 39 = .ok (.ireturn, 1) := by decide +kernel
theorem dX3_faultOfLength_0 : decode cX3_faultOfLength 0 = .ok (.iconst 0, 1) := by decide +kernel
theorem dX3_faultOfLength_1 : decode cX3_faultOfLength 1 = .ok (.istore_n 1, 1) := by decide +kernel
theorem dX3_faultOfLength_2 : decode cX3_faultOfLength 2 = .ok (.iload_n 1, 1) := by decide +kernel
theorem dX3_faultOfLength_3 : decode cX3_faultOfLength 3 = .ok (.aload_n 0, 1) := by decide +kernel
theorem dX3_faultOfLength_4 : decode cX3_faultOfLength 4 = .ok (.getfield 42, 3) := by decide +kernel
theorem dX3_faultOfLength_7 : decode cX3_faultOfLength 7 = .ok (.if_icmp .ge 36, 3) := by decide +kernel
theorem dX3_faultOfLength_10 : decode cX3_faultOfLength 10 = .ok (.aload_n 0, 1) := by decide +kernel
theorem dX3_faultOfLength_11 : decode cX3_faultOfLength 11 = .ok (.getfield 15, 3) := by decide +kernel
theorem dX3_faultOfLength_14 : decode cX3_faultOfLength 14 = .ok (.iload_n 1, 1) := by decide +kernel
theorem dX3_faultOfLength_15 : decode cX3_faultOfLength 15 = .ok (.iaload, 1) := by decide +kernel
theorem dX3_faultOfLength_16 : decode cX3_faultOfLength 16 = .ok (.iconst (-1), 1) := by decide +kernel
theorem dX3_faultOfLength_17 : decode cX3_faultOfLength 17 = .ok (.if_icmp .eq 20, 3) := by decide +kernel
theorem dX3_faultOfLength_20 : decode cX3_faultOfLength 20 = .ok (.aload_n 0, 1) := by decide +kernel
theorem dX3_faultOfLength_21 : decode cX3_faultOfLength 21 = .ok (.iload_n 1, 1) := by decide +kernel
theorem dX3_faultOfLength_22 : decode cX3_faultOfLength 22 = .ok (.invokevirtual 205, 3) := by decide +kernel
theorem dX3_faultOfLength_25 : decode cX3_faultOfLength 25 = .ok (.aload_n 0, 1) := by decide +kernel
theorem dX3_faultOfLength_26 : decode cX3_faultOfLength 26 = .ok (.getfield 55, 3) := by decide +kernel
theorem dX3_faultOfLength_29 : decode cX3_faultOfLength 29 = .ok (.if_icmp .le 8, 3) := by decide +kernel
theorem dX3_faultOfLength_32 : decode cX3_faultOfLength 32 = .ok (.bipush 40, 2) := by decide +kernel
theorem dX3_faultOfLength_34 : decode cX3_faultOfLength 34 = .ok (.iload_n 1, 1) := by decide +kernel
theorem dX3_faultOfLength_35 : decode cX3_faultOfLength 35 = .ok (.iadd, 1) := by decide +kernel
theorem dX3_faultOfLength_36 : decode cX3_faultOfLength 36 = .ok (.ireturn, 1) := by decide +kernel
theorem dX3_faultOfLength_37 : decode cX3_faultOfLength 37 = .ok (.iinc 1 1, 3) := by decide +kernel
theorem dX3_faultOfLength_40 : decode cX3_faultOfLength 40 = .ok (.goto (-38), 3) := by decide +kernel
theorem dX3_faultOfLength_43 : decode cX3_faultOfLength 43 = .ok (.iconst 0, 1) := by decide +kernel
theorem dX3_faultOfLength_44 : decode cX3_faultOfLength 44 = .ok (.ireturn, 1) := by decide +kernel
theorem dX3_ringLength_0 : decode cX3_ringLength 0 = .ok (.aload_n 0, 1) := by decide +kernel
theorem dX3_ringLength_1 : decode cX3_ringLength 1 = .ok (.getfield 15, 3) := by decide +kernel
theorem dX3_ringLength_4 : decode cX3_ringLength 4 = .ok (.iload_n 1, 1) := by decide +kernel
theorem dX3_ringLength_5 : decode cX3_ringLength 5 = .ok (.iaload, 1) := by decide +kernel
theorem dX3_ringLength_6 : decode cX3_ringLength 6 = .ok (.istore_n 2, 1) := by decide +kernel
theorem dX3_ringLength_7 : decode cX3_ringLength 7 = .ok (.iconst 1, 1) := by decide +kernel
theorem dX3_ringLength_8 : decode cX3_ringLength 8 = .ok (.istore_n 3, 1) := by decide +kernel
theorem dX3_ringLength_9 : decode cX3_ringLength 9 = .ok (.iload_n 2, 1) := by decide +kernel
theorem dX3_ringLength_10 : decode cX3_ringLength 10 = .ok (.iload_n 1, 1) := by decide +kernel
theorem dX3_ringLength_11 : decode cX3_ringLength 11 = .ok (.if_icmp .eq 27, 3) := by decide +kernel
theorem dX3_ringLength_14 : decode cX3_ringLength 14 = .ok (.iload_n 2, 1) := by decide +kernel
theorem dX3_ringLength_15 : decode cX3_ringLength 15 = .ok (.iconst (-1), 1) := by decide +kernel
theorem dX3_ringLength_16 : decode cX3_ringLength 16 = .ok (.if_icmp .eq 22, 3) := by decide +kernel
theorem dX3_ringLength_19 : decode cX3_ringLength 19 = .ok (.iload_n 3, 1) := by decide +kernel
theorem dX3_ringLength_20 : decode cX3_ringLength 20 = .ok (.bipush 10, 2) := by decide +kernel
theorem dX3_ringLength_22 : decode cX3_ringLength 22 = .ok (.if_icmp .ge 16, 3) := by decide +kernel
theorem dX3_ringLength_25 : decode cX3_ringLength 25 = .ok (.aload_n 0, 1) := by decide +kernel
theorem dX3_ringLength_26 : decode cX3_ringLength 26 = .ok (.getfield 15, 3) := by decide +kernel
theorem dX3_ringLength_29 : decode cX3_ringLength 29 = .ok (.iload_n 2, 1) := by decide +kernel
theorem dX3_ringLength_30 : decode cX3_ringLength 30 = .ok (.iaload, 1) := by decide +kernel
theorem dX3_ringLength_31 : decode cX3_ringLength 31 = .ok (.istore_n 2, 1) := by decide +kernel
theorem dX3_ringLength_32 : decode cX3_ringLength 32 = .ok (.iinc 3 1, 3) := by decide +kernel
theorem dX3_ringLength_35 : decode cX3_ringLength 35 = .ok (.goto (-26), 3) := by decide +kernel
theorem dX3_ringLength_38 : decode cX3_ringLength 38 = .ok (.iload_n 3, 1) := by decide +kernel
theorem dX3_ringLength_39 : decode cX3_ringLength 39 = .ok (.ireturn, 1) := by decide +kernel
theorem dX3_countRings_0 : decode cX3_countRings 0 = .ok (.aload_n 0, 1) := by decide +kernel
theorem dX3_countRings_1 : decode cX3_countRings 1 = .ok (.invokevirtual 167, 3) := by decide +kernel
theorem dX3_countRings_4 : decode cX3_countRings 4 = .ok (.ifCond .eq 5, 3) := by decide +kernel
theorem dX3_countRings_7 : decode cX3_countRings 7 = .ok (.iconst 0, 1) := by decide +kernel
theorem dX3_countRings_8 : decode cX3_countRings 8 = .ok (.ireturn, 1) := by decide +kernel
theorem dX3_countRings_9 : decode cX3_countRings 9 = .ok (.iconst 0, 1) := by decide +kernel
theorem dX3_countRings_10 : decode cX3_countRings 10 = .ok (.istore_n 1, 1) := by decide +kernel
theorem dX3_countRings_11 : decode cX3_countRings 11 = .ok (.iconst 0, 1) := by decide +kernel
theorem dX3_countRings_12 : decode cX3_countRings 12 = .ok (.istore_n 2, 1) := by decide +kernel
theorem dX3_countRings_13 : decode cX3_countRings 13 = .ok (.iload_n 2, 1) := by decide +kernel
theorem dX3_countRings_14 : decode cX3_countRings 14 = .ok (.aload_n 0, 1) := by decide +kernel
theorem dX3_countRings_15 : decode cX3_countRings 15 = .ok (.getfield 42, 3) := by decide +kernel
theorem dX3_countRings_18 : decode cX3_countRings 18 = .ok (.if_icmp .ge 30, 3) := by decide +kernel
theorem dX3_countRings_21 : decode cX3_countRings 21 = .ok (.aload_n 0, 1) := by decide +kernel
theorem dX3_countRings_22 : decode cX3_countRings 22 = .ok (.getfield 15, 3) := by decide +kernel
theorem dX3_countRings_25 : decode cX3_countRings 25 = .ok (.iload_n 2, 1) := by decide +kernel
theorem dX3_countRings_26 : decode cX3_countRings 26 = .ok (.iaload, 1) := by decide +kernel
theorem dX3_countRings_27 : decode cX3_countRings 27 = .ok (.iconst (-1), 1) := by decide +kernel
theorem dX3_countRings_28 : decode cX3_countRings 28 = .ok (.if_icmp .eq 14, 3) := by decide +kernel
theorem dX3_countRings_31 : decode cX3_countRings 31 = .ok (.aload_n 0, 1) := by decide +kernel
theorem dX3_countRings_32 : decode cX3_countRings 32 = .ok (.iload_n 2, 1) := by decide +kernel
theorem dX3_countRings_33 : decode cX3_countRings 33 = .ok (.invokevirtual 247, 3) := by decide +kernel
theorem dX3_countRings_36 : decode cX3_countRings 36 = .ok (.ifCond .eq 6, 3) := by decide +kernel
theorem dX3_countRings_39 : decode cX3_countRings 39 = .ok (.iinc 1 1, 3) := by decide +kernel
theorem dX3_countRings_42 : decode cX3_countRings 42 = .ok (.iinc 2 1, 3) := by decide +kernel
theorem dX3_countRings_45 : decode cX3_countRings 45 = .ok (.goto (-32), 3) := by decide +kernel
theorem dX3_countRings_48 : decode cX3_countRings 48 = .ok (.iload_n 1, 1) := by decide +kernel
theorem dX3_countRings_49 : decode cX3_countRings 49 = .ok (.ireturn, 1) := by decide +kernel
theorem dX3_isLeastOfRing_0 : decode cX3_isLeastOfRing 0 = .ok (.aload_n 0, 1) := by decide +kernel
theorem dX3_isLeastOfRing_1 : decode cX3_isLeastOfRing 1 = .ok (.iload_n 1, 1) := by decide +kernel
theorem dX3_isLeastOfRing_2 : decode cX3_isLeastOfRing 2 = .ok (.invokevirtual 205, 3) := by decide +kernel
theorem dX3_isLeastOfRing_5 : decode cX3_isLeastOfRing 5 = .ok (.istore_n 2, 1) := by decide +kernel
theorem dX3_isLeastOfRing_6 : decode cX3_isLeastOfRing 6 = .ok (.iload_n 1, 1) := by decide +kernel
theorem dX3_isLeastOfRing_7 : decode cX3_isLeastOfRing 7 = .ok (.istore_n 3, 1) := by decide +kernel
theorem dX3_isLeastOfRing_8 : decode cX3_isLeastOfRing 8 = .ok (.iconst 1, 1) := by decide +kernel
theorem dX3_isLeastOfRing_9 : decode cX3_isLeastOfRing 9 = .ok (.istore 4, 2) := by decide +kernel
theorem dX3_isLeastOfRing_11 : decode cX3_isLeastOfRing 11 = .ok (.iload 4, 2) := by decide +kernel
theorem dX3_isLeastOfRing_13 : decode cX3_isLeastOfRing 13 = .ok (.iload_n 2, 1) := by decide +kernel
theorem dX3_isLeastOfRing_14 : decode cX3_isLeastOfRing 14 = .ok (.if_icmp .ge 23, 3) := by decide +kernel
theorem dX3_isLeastOfRing_17 : decode cX3_isLeastOfRing 17 = .ok (.aload_n 0, 1) := by decide +kernel
theorem dX3_isLeastOfRing_18 : decode cX3_isLeastOfRing 18 = .ok (.getfield 15, 3) := by decide +kernel
theorem dX3_isLeastOfRing_21 : decode cX3_isLeastOfRing 21 = .ok (.iload_n 3, 1) := by decide +kernel
theorem dX3_isLeastOfRing_22 : decode cX3_isLeastOfRing 22 = .ok (.iaload, 1) := by decide +kernel
theorem dX3_isLeastOfRing_23 : decode cX3_isLeastOfRing 23 = .ok (.istore_n 3, 1) := by decide +kernel
theorem dX3_isLeastOfRing_24 : decode cX3_isLeastOfRing 24 = .ok (.iload_n 3, 1) := by decide +kernel
theorem dX3_isLeastOfRing_25 : decode cX3_isLeastOfRing 25 = .ok (.iload_n 1, 1) := by decide +kernel
theorem dX3_isLeastOfRing_26 : decode cX3_isLeastOfRing 26 = .ok (.if_icmp .ge 5, 3) := by decide +kernel
theorem dX3_isLeastOfRing_29 : decode cX3_isLeastOfRing 29 = .ok (.iconst 0, 1) := by decide +kernel
theorem dX3_isLeastOfRing_30 : decode cX3_isLeastOfRing 30 = .ok (.ireturn, 1) := by decide +kernel
theorem dX3_isLeastOfRing_31 : decode cX3_isLeastOfRing 31 = .ok (.iinc 4 1, 3) := by decide +kernel
theorem dX3_isLeastOfRing_34 : decode cX3_isLeastOfRing 34 = .ok (.goto (-23), 3) := by decide +kernel
theorem dX3_isLeastOfRing_37 : decode cX3_isLeastOfRing 37 = .ok (.iconst 1, 1) := by decide +kernel
theorem dX3_isLeastOfRing_38 : decode cX3_isLeastOfRing 38 = .ok (.ireturn, 1) := by decide +kernel
theorem dX3_clearPlan_0 : decode cX3_clearPlan 0 = .ok (.iconst 0, 1) := by decide +kernel
theorem dX3_clearPlan_1 : decode cX3_clearPlan 1 = .ok (.istore_n 1, 1) := by decide +kernel
theorem dX3_clearPlan_2 : decode cX3_clearPlan 2 = .ok (.iload_n 1, 1) := by decide +kernel
theorem dX3_clearPlan_3 : decode cX3_clearPlan 3 = .ok (.bipush 10, 2) := by decide +kernel
theorem dX3_clearPlan_5 : decode cX3_clearPlan 5 = .ok (.if_icmp .ge 16, 3) := by decide +kernel
theorem dX3_clearPlan_8 : decode cX3_clearPlan 8 = .ok (.aload_n 0, 1) := by decide +kernel
theorem dX3_clearPlan_9 : decode cX3_clearPlan 9 = .ok (.getfield 15, 3) := by decide +kernel
theorem dX3_clearPlan_12 : decode cX3_clearPlan 12 = .ok (.iload_n 1, 1) := by decide +kernel
theorem dX3_clearPlan_13 : decode cX3_clearPlan 13 = .ok (.iconst (-1), 1) := by decide +kernel
theorem dX3_clearPlan_14 : decode cX3_clearPlan 14 = .ok (.iastore, 1) := by decide +kernel
theorem dX3_clearPlan_15 : decode cX3_clearPlan 15 = .ok (.iinc 1 1, 3) := by decide +kernel
theorem dX3_clearPlan_18 : decode cX3_clearPlan 18 = .ok (.goto (-16), 3) := by decide +kernel
theorem dX3_clearPlan_21 : decode cX3_clearPlan 21 = .ok (.return_, 1) := by decide +kernel
theorem dX3_planRings_0 : decode cX3_planRings 0 = .ok (.aload_n 0, 1) := by decide +kernel
theorem dX3_planRings_1 : decode cX3_planRings 1 = .ok (.getfield 31, 3) := by decide +kernel
theorem dX3_planRings_4 : decode cX3_planRings 4 = .ok (.aload_n 0, 1) := by decide +kernel
theorem dX3_planRings_5 : decode cX3_planRings 5 = .ok (.getfield 42, 3) := by decide +kernel
theorem dX3_planRings_8 : decode cX3_planRings 8 = .ok (.invokevirtual 250, 3) := by decide +kernel
theorem dX3_planRings_11 : decode cX3_planRings 11 = .ok (.iconst 0, 1) := by decide +kernel
theorem dX3_planRings_12 : decode cX3_planRings 12 = .ok (.istore_n 2, 1) := by decide +kernel
theorem dX3_planRings_13 : decode cX3_planRings 13 = .ok (.iload_n 2, 1) := by decide +kernel
theorem dX3_planRings_14 : decode cX3_planRings 14 = .ok (.aload_n 0, 1) := by decide +kernel
theorem dX3_planRings_15 : decode cX3_planRings 15 = .ok (.getfield 42, 3) := by decide +kernel
theorem dX3_planRings_18 : decode cX3_planRings 18 = .ok (.if_icmp .ge 77, 3) := by decide +kernel
theorem dX3_planRings_21 : decode cX3_planRings 21 = .ok (.iconst 0, 1) := by decide +kernel
theorem dX3_planRings_22 : decode cX3_planRings 22 = .ok (.istore_n 3, 1) := by decide +kernel
theorem dX3_planRings_23 : decode cX3_planRings 23 = .ok (.iload_n 3, 1) := by decide +kernel
theorem dX3_planRings_24 : decode cX3_planRings 24 = .ok (.aload_n 0, 1) := by decide +kernel
theorem dX3_planRings_25 : decode cX3_planRings 25 = .ok (.getfield 42, 3) := by decide +kernel
theorem dX3_planRings_28 : decode cX3_planRings 28 = .ok (.if_icmp .ge 61, 3) := by decide +kernel
theorem dX3_planRings_31 : decode cX3_planRings 31 = .ok (.aload_n 0, 1) := by decide +kernel
theorem dX3_planRings_32 : decode cX3_planRings 32 = .ok (.iload_n 2, 1) := by decide +kernel
theorem dX3_planRings_33 : decode cX3_planRings 33 = .ok (.iload_n 3, 1) := by decide +kernel
theorem dX3_planRings_34 : decode cX3_planRings 34 = .ok (.invokevirtual 188, 3) := by decide +kernel
theorem dX3_planRings_37 : decode cX3_planRings 37 = .ok (.ifCond .eq 46, 3) := by decide +kernel
theorem dX3_planRings_40 : decode cX3_planRings 40 = .ok (.aload_n 0, 1) := by decide +kernel
theorem dX3_planRings_41 : decode cX3_planRings 41 = .ok (.getfield 15, 3) := by decide +kernel
theorem dX3_planRings_44 : decode cX3_planRings 44 = .ok (.iload_n 2, 1) := by decide +kernel
theorem dX3_planRings_45 : decode cX3_planRings 45 = .ok (.iaload, 1) := by decide +kernel
theorem dX3_planRings_46 : decode cX3_planRings 46 = .ok (.iload_n 3, 1) := by decide +kernel
theorem dX3_planRings_47 : decode cX3_planRings 47 = .ok (.if_icmp .ne 7, 3) := by decide +kernel
theorem dX3_planRings_50 : decode cX3_planRings 50 = .ok (.iload_n 1, 1) := by decide +kernel
theorem dX3_planRings_51 : decode cX3_planRings 51 = .ok (.goto 4, 3) := by decide +kernel
theorem dX3_planRings_54 : decode cX3_planRings 54 = .ok (.iconst 0, 1) := by decide +kernel
theorem dX3_planRings_55 : decode cX3_planRings 55 = .ok (.istore 4, 2) := by decide +kernel
theorem dX3_planRings_57 : decode cX3_planRings 57 = .ok (.aload_n 0, 1) := by decide +kernel
theorem dX3_planRings_58 : decode cX3_planRings 58 = .ok (.getfield 31, 3) := by decide +kernel
theorem dX3_planRings_61 : decode cX3_planRings 61 = .ok (.iload_n 2, 1) := by decide +kernel
theorem dX3_planRings_62 : decode cX3_planRings 62 = .ok (.iload_n 3, 1) := by decide +kernel
theorem dX3_planRings_63 : decode cX3_planRings 63 = .ok (.iload 4, 2) := by decide +kernel
theorem dX3_planRings_65 : decode cX3_planRings 65 = .ok (.bipush 100, 2) := by decide +kernel
theorem dX3_planRings_67 : decode cX3_planRings 67 = .ok (.iadd, 1) := by decide +kernel
theorem dX3_planRings_68 : decode cX3_planRings 68 = .ok (.aload_n 0, 1) := by decide +kernel
theorem dX3_planRings_69 : decode cX3_planRings 69 = .ok (.getfield 11, 3) := by decide +kernel
theorem dX3_planRings_72 : decode cX3_planRings 72 = .ok (.iload_n 2, 1) := by decide +kernel
theorem dX3_planRings_73 : decode cX3_planRings 73 = .ok (.aaload, 1) := by decide +kernel
theorem dX3_planRings_74 : decode cX3_planRings 74 = .ok (.getfield 155, 3) := by decide +kernel
theorem dX3_planRings_77 : decode cX3_planRings 77 = .ok (.iload_n 3, 1) := by decide +kernel
theorem dX3_planRings_78 : decode cX3_planRings 78 = .ok (.iaload, 1) := by decide +kernel
theorem dX3_planRings_79 : decode cX3_planRings 79 = .ok (.isub, 1) := by decide +kernel
theorem dX3_planRings_80 : decode cX3_planRings 80 = .ok (.invokevirtual 251, 3) := by decide +kernel
theorem dX3_planRings_83 : decode cX3_planRings 83 = .ok (.iinc 3 1, 3) := by decide +kernel
theorem dX3_planRings_86 : decode cX3_planRings 86 = .ok (.goto (-63), 3) := by decide +kernel
theorem dX3_planRings_89 : decode cX3_planRings 89 = .ok (.iinc 2 1, 3) := by decide +kernel
theorem dX3_planRings_92 : decode cX3_planRings 92 = .ok (.goto (-79), 3) := by decide +kernel
theorem dX3_planRings_95 : decode cX3_planRings 95 = .ok (.aload_n 0, 1) := by decide +kernel
theorem dX3_planRings_96 : decode cX3_planRings 96 = .ok (.getfield 31, 3) := by decide +kernel
theorem dX3_planRings_99 : decode cX3_planRings 99 = .ok (.aload_n 0, 1) := by decide +kernel
theorem dX3_planRings_100 : decode cX3_planRings 100 = .ok (.getfield 15, 3) := by decide +kernel
theorem dX3_planRings_103 : decode cX3_planRings 103 = .ok (.aload_n 0, 1) := by decide +kernel
theorem dX3_planRings_104 : decode cX3_planRings 104 = .ok (.getfield 55, 3) := by decide +kernel
theorem dX3_planRings_107 : decode cX3_planRings 107 = .ok (.invokevirtual 254, 3) := by decide +kernel
theorem dX3_planRings_110 : decode cX3_planRings 110 = .ok (.ireturn, 1) := by decide +kernel
theorem dX3_showHomes_0 : decode cX3_showHomes 0 = .ok (.iload_n 1, 1) := by decide +kernel
theorem dX3_showHomes_1 : decode cX3_showHomes 1 = .ok (.istore_n 2, 1) := by decide +kernel
theorem dX3_showHomes_2 : decode cX3_showHomes 2 = .ok (.iconst 0, 1) := by decide +kernel
theorem dX3_showHomes_3 : decode cX3_showHomes 3 = .ok (.istore_n 3, 1) := by decide +kernel
theorem dX3_showHomes_4 : decode cX3_showHomes 4 = .ok (.iload_n 3, 1) := by decide +kernel
theorem dX3_showHomes_5 : decode cX3_showHomes 5 = .ok (.bipush 10, 2) := by decide +kernel
theorem dX3_showHomes_7 : decode cX3_showHomes 7 = .ok (.if_icmp .ge 33, 3) := by decide +kernel
theorem dX3_showHomes_10 : decode cX3_showHomes 10 = .ok (.aload_n 0, 1) := by decide +kernel
theorem dX3_showHomes_11 : decode cX3_showHomes 11 = .ok (.iload_n 2, 1) := by decide +kernel
theorem dX3_showHomes_12 : decode cX3_showHomes 12 = .ok (.invokevirtual 258, 3) := by decide +kernel
theorem dX3_showHomes_15 : decode cX3_showHomes 15 = .ok (.istore 4, 2) := by decide +kernel
theorem dX3_showHomes_17 : decode cX3_showHomes 17 = .ok (.iload 4, 2) := by decide +kernel
theorem dX3_showHomes_19 : decode cX3_showHomes 19 = .ok (.iconst (-1), 1) := by decide +kernel
theorem dX3_showHomes_20 : decode cX3_showHomes 20 = .ok (.if_icmp .ne 5, 3) := by decide +kernel
theorem dX3_showHomes_23 : decode cX3_showHomes 23 = .ok (.iload_n 2, 1) := by decide +kernel
theorem dX3_showHomes_24 : decode cX3_showHomes 24 = .ok (.ireturn, 1) := by decide +kernel
theorem dX3_showHomes_25 : decode cX3_showHomes 25 = .ok (.iload_n 2, 1) := by decide +kernel
theorem dX3_showHomes_26 : decode cX3_showHomes 26 = .ok (.iconst 1, 1) := by decide +kernel
theorem dX3_showHomes_27 : decode cX3_showHomes 27 = .ok (.iload 4, 2) := by decide +kernel
theorem dX3_showHomes_29 : decode cX3_showHomes 29 = .ok (.ishl, 1) := by decide +kernel
theorem dX3_showHomes_30 : decode cX3_showHomes 30 = .ok (.iconst (-1), 1) := by decide +kernel
theorem dX3_showHomes_31 : decode cX3_showHomes 31 = .ok (.ixor, 1) := by decide +kernel
theorem dX3_showHomes_32 : decode cX3_showHomes 32 = .ok (.iand, 1) := by decide +kernel
theorem dX3_showHomes_33 : decode cX3_showHomes 33 = .ok (.istore_n 2, 1) := by decide +kernel
theorem dX3_showHomes_34 : decode cX3_showHomes 34 = .ok (.iinc 3 1, 3) := by decide +kernel
theorem dX3_showHomes_37 : decode cX3_showHomes 37 = .ok (.goto (-33), 3) := by decide +kernel
theorem dX3_showHomes_40 : decode cX3_showHomes 40 = .ok (.iload_n 2, 1) := by decide +kernel
theorem dX3_showHomes_41 : decode cX3_showHomes 41 = .ok (.ireturn, 1) := by decide +kernel
theorem dX3_firstWithoutHome_0 : decode cX3_firstWithoutHome 0 = .ok (.iconst 0, 1) := by decide +kernel
theorem dX3_firstWithoutHome_1 : decode cX3_firstWithoutHome 1 = .ok (.istore_n 2, 1) := by decide +kernel
theorem dX3_firstWithoutHome_2 : decode cX3_firstWithoutHome 2 = .ok (.iload_n 2, 1) := by decide +kernel
theorem dX3_firstWithoutHome_3 : decode cX3_firstWithoutHome 3 = .ok (.aload_n 0, 1) := by decide +kernel
theorem dX3_firstWithoutHome_4 : decode cX3_firstWithoutHome 4 = .ok (.getfield 42, 3) := by decide +kernel
theorem dX3_firstWithoutHome_7 : decode cX3_firstWithoutHome 7 = .ok (.if_icmp .ge 42, 3) := by decide +kernel
theorem dX3_firstWithoutHome_10 : decode cX3_firstWithoutHome 10 = .ok (.iload_n 1, 1) := by decide +kernel
theorem dX3_firstWithoutHome_11 : decode cX3_firstWithoutHome 11 = .ok (.iload_n 2, 1) := by decide +kernel
theorem dX3_firstWithoutHome_12 : decode cX3_firstWithoutHome 12 = .ok (.ishr, 1) := by decide +kernel
theorem dX3_firstWithoutHome_13 : decode cX3_firstWithoutHome 13 = .ok (.iconst 1, 1) := by decide +kernel
theorem dX3_firstWithoutHome_14 : decode cX3_firstWithoutHome 14 = .ok (.iand, 1) := by decide +kernel
theorem dX3_firstWithoutHome_15 : decode cX3_firstWithoutHome 15 = .ok (.iconst 1, 1) := by decide +kernel
theorem dX3_firstWithoutHome_16 : decode cX3_firstWithoutHome 16 = .ok (.if_icmp .ne 27, 3) := by decide +kernel
theorem dX3_firstWithoutHome_19 : decode cX3_firstWithoutHome 19 = .ok (.aload_n 0, 1) := by decide +kernel
theorem dX3_firstWithoutHome_20 : decode cX3_firstWithoutHome 20 = .ok (.getfield 25, 3) := by decide +kernel
theorem dX3_firstWithoutHome_23 : decode cX3_firstWithoutHome 23 = .ok (.iload_n 2, 1) := by decide +kernel
theorem dX3_firstWithoutHome_24 : decode cX3_firstWithoutHome 24 = .ok (.aload_n 0, 1) := by decide +kernel
theorem dX3_firstWithoutHome_25 : decode cX3_firstWithoutHome 25 = .ok (.iload_n 2, 1) := by decide +kernel
theorem dX3_firstWithoutHome_26 : decode cX3_firstWithoutHome 26 = .ok (.iload_n 1, 1) := by decide +kernel
theorem dX3_firstWithoutHome_27 : decode cX3_firstWithoutHome 27 = .ok (.invokevirtual 261, 3) := by decide +kernel
theorem dX3_firstWithoutHome_30 : decode cX3_firstWithoutHome 30 = .ok (.iastore, 1) := by decide +kernel
theorem dX3_firstWithoutHome_31 : decode cX3_firstWithoutHome 31 = .ok (.aload_n 0, 1) := by decide +kernel
theorem dX3_firstWithoutHome_32 : decode cX3_firstWithoutHome 32 = .ok (.getfield 25, 3) := by decide +kernel
theorem dX3_firstWithoutHome_35 : decode cX3_firstWithoutHome 35 = .ok (.iload_n 2, 1) := by decide +kernel
theorem dX3_firstWithoutHome_36 : decode cX3_firstWithoutHome 36 = .ok (.iaload, 1) := by decide +kernel
theorem dX3_firstWithoutHome_37 : decode cX3_firstWithoutHome 37 = .ok (.iconst (-1), 1) := by decide +kernel
theorem dX3_firstWithoutHome_38 : decode cX3_firstWithoutHome 38 = .ok (.if_icmp .ne 5, 3) := by decide +kernel
theorem dX3_firstWithoutHome_41 : decode cX3_firstWithoutHome 41 = .ok (.iload_n 2, 1) := by decide +kernel
theorem dX3_firstWithoutHome_42 : decode cX3_firstWithoutHome 42 = .ok (.ireturn, 1) := by decide +kernel
theorem dX3_firstWithoutHome_43 : decode cX3_firstWithoutHome 43 = .ok (.iinc 2 1, 3) := by decide +kernel
theorem dX3_firstWithoutHome_46 : decode cX3_firstWithoutHome 46 = .ok (.goto (-44), 3) := by decide +kernel
theorem dX3_firstWithoutHome_49 : decode cX3_firstWithoutHome 49 = .ok (.iconst (-1), 1) := by decide +kernel
theorem dX3_firstWithoutHome_50 : decode cX3_firstWithoutHome 50 = .ok (.ireturn, 1) := by decide +kernel
theorem dX3_likedMost_0 : decode cX3_likedMost 0 = .ok (.iconst (-1), 1) := by decide +kernel
theorem dX3_likedMost_1 : decode cX3_likedMost 1 = .ok (.istore_n 3, 1) := by decide +kernel
theorem dX3_likedMost_2 : decode cX3_likedMost 2 = .ok (.iconst 0, 1) := by decide +kernel
theorem dX3_likedMost_3 : decode cX3_likedMost 3 = .ok (.istore 4, 2) := by decide +kernel
theorem dX3_likedMost_5 : decode cX3_likedMost 5 = .ok (.iload 4, 2) := by decide +kernel
theorem dX3_likedMost_7 : decode cX3_likedMost 7 = .ok (.aload_n 0, 1) := by decide +kernel
theorem dX3_likedMost_8 : decode cX3_likedMost 8 = .ok (.getfield 42, 3) := by decide +kernel
theorem dX3_likedMost_11 : decode cX3_likedMost 11 = .ok (.if_icmp .ge 75, 3) := by decide +kernel
theorem dX3_likedMost_14 : decode cX3_likedMost 14 = .ok (.iload_n 2, 1) := by decide +kernel
theorem dX3_likedMost_15 : decode cX3_likedMost 15 = .ok (.iload 4, 2) := by decide +kernel
theorem dX3_likedMost_17 : decode cX3_likedMost 17 = .ok (.ishr, 1) := by decide +kernel
theorem dX3_likedMost_18 : decode cX3_likedMost 18 = .ok (.iconst 1, 1) := by decide +kernel
theorem dX3_likedMost_19 : decode cX3_likedMost 19 = .ok (.iand, 1) := by decide +kernel
theorem dX3_likedMost_20 : decode cX3_likedMost 20 = .ok (.iconst 1, 1) := by decide +kernel
theorem dX3_likedMost_21 : decode cX3_likedMost 21 = .ok (.if_icmp .ne 17, 3) := by decide +kernel
theorem dX3_likedMost_24 : decode cX3_likedMost 24 = .ok (.aload_n 0, 1) := by decide +kernel
theorem dX3_likedMost_25 : decode cX3_likedMost 25 = .ok (.iload_n 1, 1) := by decide +kernel
theorem dX3_likedMost_26 : decode cX3_likedMost 26 = .ok (.iload 4, 2) := by decide +kernel
theorem dX3_likedMost_28 : decode cX3_likedMost 28 = .ok (.invokevirtual 188, 3) := by decide +kernel
theorem dX3_likedMost_31 : decode cX3_likedMost 31 = .ok (.ifCond .eq 7, 3) := by decide +kernel
theorem dX3_likedMost_34 : decode cX3_likedMost 34 = .ok (.iconst 1, 1) := by decide +kernel
theorem dX3_likedMost_35 : decode cX3_likedMost 35 = .ok (.goto 4, 3) := by decide +kernel
theorem dX3_likedMost_38 : decode cX3_likedMost 38 = .ok (.iconst 0, 1) := by decide +kernel
theorem dX3_likedMost_39 : decode cX3_likedMost 39 = .ok (.istore 5, 2) := by decide +kernel
theorem dX3_likedMost_41 : decode cX3_likedMost 41 = .ok (.iload 5, 2) := by decide +kernel
theorem dX3_likedMost_43 : decode cX3_likedMost 43 = .ok (.ifCond .eq 37, 3) := by decide +kernel
theorem dX3_likedMost_46 : decode cX3_likedMost 46 = .ok (.iload_n 3, 1) := by decide +kernel
theorem dX3_likedMost_47 : decode cX3_likedMost 47 = .ok (.iconst (-1), 1) := by decide +kernel
theorem dX3_likedMost_48 : decode cX3_likedMost 48 = .ok (.if_icmp .eq 29, 3) := by decide +kernel
theorem dX3_likedMost_51 : decode cX3_likedMost 51 = .ok (.aload_n 0, 1) := by decide +kernel
theorem dX3_likedMost_52 : decode cX3_likedMost 52 = .ok (.getfield 11, 3) := by decide +kernel
theorem dX3_likedMost_55 : decode cX3_likedMost 55 = .ok (.iload_n 1, 1) := by decide +kernel
theorem dX3_likedMost_56 : decode cX3_likedMost 56 = .ok (.aaload, 1) := by decide +kernel
theorem dX3_likedMost_57 : decode cX3_likedMost 57 = .ok (.getfield 155, 3) := by decide +kernel
theorem dX3_likedMost_60 : decode cX3_likedMost 60 = .ok (.iload 4, 2) := by decide +kernel
theorem dX3_likedMost_62 : decode cX3_likedMost 62 = .ok (.iaload, 1) := by decide +kernel
theorem dX3_likedMost_63 : decode cX3_likedMost 63 = .ok (.aload_n 0, 1) := by decide +kernel
theorem dX3_likedMost_64 : decode cX3_likedMost 64 = .ok (.getfield 11, 3) := by decide +kernel
theorem dX3_likedMost_67 : decode cX3_likedMost 67 = .ok (.iload_n 1, 1) := by decide +kernel
theorem dX3_likedMost_68 : decode cX3_likedMost 68 = .ok (.aaload, 1) := by decide +kernel
theorem dX3_likedMost_69 : decode cX3_likedMost 69 = .ok (.getfield 155, 3) := by decide +kernel
theorem dX3_likedMost_72 : decode cX3_likedMost 72 = .ok (.iload_n 3, 1) := by decide +kernel
theorem dX3_likedMost_73 : decode cX3_likedMost 73 = .ok (.iaload, 1) := by decide +kernel
theorem dX3_likedMost_74 : decode cX3_likedMost 74 = .ok (.if_icmp .ge 6, 3) := by decide +kernel
theorem dX3_likedMost_77 : decode cX3_likedMost 77 = .ok (.iload 4, 2) := by decide +kernel
theorem dX3_likedMost_79 : decode cX3_likedMost 79 = .ok (.istore_n 3, 1) := by decide +kernel
theorem dX3_likedMost_80 : decode cX3_likedMost 80 = .ok (.iinc 4 1, 3) := by decide +kernel
theorem dX3_likedMost_83 : decode cX3_likedMost 83 = .ok (.goto (-78), 3) := by decide +kernel
theorem dX3_likedMost_86 : decode cX3_likedMost 86 = .ok (.iload_n 3, 1) := by decide +kernel
theorem dX3_likedMost_87 : decode cX3_likedMost 87 = .ok (.ireturn, 1) := by decide +kernel
theorem dX3_sendShownRing_0 : decode cX3_sendShownRing 0 = .ok (.iconst 0, 1) := by decide +kernel
theorem dX3_sendShownRing_1 : decode cX3_sendShownRing 1 = .ok (.istore_n 2, 1) := by decide +kernel
theorem dX3_sendShownRing_2 : decode cX3_sendShownRing 2 = .ok (.iload_n 2, 1) := by decide +kernel
theorem dX3_sendShownRing_3 : decode cX3_sendShownRing 3 = .ok (.aload_n 0, 1) := by decide +kernel
theorem dX3_sendShownRing_4 : decode cX3_sendShownRing 4 = .ok (.getfield 42, 3) := by decide +kernel
theorem dX3_sendShownRing_7 : decode cX3_sendShownRing 7 = .ok (.if_icmp .ge 32, 3) := by decide +kernel
theorem dX3_sendShownRing_10 : decode cX3_sendShownRing 10 = .ok (.iload_n 1, 1) := by decide +kernel
theorem dX3_sendShownRing_11 : decode cX3_sendShownRing 11 = .ok (.iload_n 2, 1) := by decide +kernel
theorem dX3_sendShownRing_12 : decode cX3_sendShownRing 12 = .ok (.ishr, 1) := by decide +kernel
theorem dX3_sendShownRing_13 : decode cX3_sendShownRing 13 = .ok (.iconst 1, 1) := by decide +kernel
theorem dX3_sendShownRing_14 : decode cX3_sendShownRing 14 = .ok (.iand, 1) := by decide +kernel
theorem dX3_sendShownRing_15 : decode cX3_sendShownRing 15 = .ok (.iconst 1, 1) := by decide +kernel
theorem dX3_sendShownRing_16 : decode cX3_sendShownRing 16 = .ok (.if_icmp .ne 17, 3) := by decide +kernel
theorem dX3_sendShownRing_19 : decode cX3_sendShownRing 19 = .ok (.aload_n 0, 1) := by decide +kernel
theorem dX3_sendShownRing_20 : decode cX3_sendShownRing 20 = .ok (.iload_n 2, 1) := by decide +kernel
theorem dX3_sendShownRing_21 : decode cX3_sendShownRing 21 = .ok (.invokevirtual 264, 3) := by decide +kernel
theorem dX3_sendShownRing_24 : decode cX3_sendShownRing 24 = .ok (.ifCond .eq 9, 3) := by decide +kernel
theorem dX3_sendShownRing_27 : decode cX3_sendShownRing 27 = .ok (.aload_n 0, 1) := by decide +kernel
theorem dX3_sendShownRing_28 : decode cX3_sendShownRing 28 = .ok (.iload_n 2, 1) := by decide +kernel
theorem dX3_sendShownRing_29 : decode cX3_sendShownRing 29 = .ok (.invokevirtual 267, 3) := by decide +kernel
theorem dX3_sendShownRing_32 : decode cX3_sendShownRing 32 = .ok (.ireturn, 1) := by decide +kernel
theorem dX3_sendShownRing_33 : decode cX3_sendShownRing 33 = .ok (.iinc 2 1, 3) := by decide +kernel
theorem dX3_sendShownRing_36 : decode cX3_sendShownRing 36 = .ok (.goto (-34), 3) := by decide +kernel
theorem dX3_sendShownRing_39 : decode cX3_sendShownRing 39 = .ok (.iconst 0, 1) := by decide +kernel
theorem dX3_sendShownRing_40 : decode cX3_sendShownRing 40 = .ok (.ireturn, 1) := by decide +kernel
theorem dX3_comesRound_0 : decode cX3_comesRound 0 = .ok (.aload_n 0, 1) := by decide +kernel
theorem dX3_comesRound_1 : decode cX3_comesRound 1 = .ok (.getfield 25, 3) := by decide +kernel
theorem dX3_comesRound_4 : decode cX3_comesRound 4 = .ok (.iload_n 1, 1) := by decide +kernel
theorem dX3_comesRound_5 : decode cX3_comesRound 5 = .ok (.iaload, 1) := by decide +kernel
theorem dX3_comesRound_6 : decode cX3_comesRound 6 = .ok (.istore_n 2, 1) := by decide +kernel
theorem dX3_comesRound_7 : decode cX3_comesRound 7 = .ok (.iconst 0, 1) := by decide +kernel
theorem dX3_comesRound_8 : decode cX3_comesRound 8 = .ok (.istore_n 3, 1) := by decide +kernel
theorem dX3_comesRound_9 : decode cX3_comesRound 9 = .ok (.iload_n 3, 1) := by decide +kernel
theorem dX3_comesRound_10 : decode cX3_comesRound 10 = .ok (.aload_n 0, 1) := by decide +kernel
theorem dX3_comesRound_11 : decode cX3_comesRound 11 = .ok (.getfield 42, 3) := by decide +kernel
theorem dX3_comesRound_14 : decode cX3_comesRound 14 = .ok (.if_icmp .ge 21, 3) := by decide +kernel
theorem dX3_comesRound_17 : decode cX3_comesRound 17 = .ok (.iload_n 2, 1) := by decide +kernel
theorem dX3_comesRound_18 : decode cX3_comesRound 18 = .ok (.iload_n 1, 1) := by decide +kernel
theorem dX3_comesRound_19 : decode cX3_comesRound 19 = .ok (.if_icmp .eq 16, 3) := by decide +kernel
theorem dX3_comesRound_22 : decode cX3_comesRound 22 = .ok (.aload_n 0, 1) := by decide +kernel
theorem dX3_comesRound_23 : decode cX3_comesRound 23 = .ok (.getfield 25, 3) := by decide +kernel
theorem dX3_comesRound_26 : decode cX3_comesRound 26 = .ok (.iload_n 2, 1) := by decide +kernel
theorem dX3_comesRound_27 : decode cX3_comesRound 27 = .ok (.iaload, 1) := by decide +kernel
theorem dX3_comesRound_28 : decode cX3_comesRound 28 = .ok (.istore_n 2, 1) := by decide +kernel
theorem dX3_comesRound_29 : decode cX3_comesRound 29 = .ok (.iinc 3 1, 3) := by decide +kernel
theorem dX3_comesRound_32 : decode cX3_comesRound 32 = .ok (.goto (-23), 3) := by decide +kernel
theorem dX3_comesRound_35 : decode cX3_comesRound 35 = .ok (.iload_n 2, 1) := by decide +kernel
theorem dX3_comesRound_36 : decode cX3_comesRound 36 = .ok (.iload_n 1, 1) := by decide +kernel
theorem dX3_comesRound_37 : decode cX3_comesRound 37 = .ok (.if_icmp .ne 7, 3) := by decide +kernel
theorem dX3_comesRound_40 : decode cX3_comesRound 40 = .ok (.iconst 1, 1) := by decide +kernel
theorem dX3_comesRound_41 : decode cX3_comesRound 41 = .ok (.goto 4, 3) := by decide +kernel
theorem dX3_comesRound_44 : decode cX3_comesRound 44 = .ok (.iconst 0, 1) := by decide +kernel
theorem dX3_comesRound_45 : decode cX3_comesRound 45 = .ok (.ireturn, 1) := by decide +kernel
theorem dX3_sendAsShown_0 : decode cX3_sendAsShown 0 = .ok (.iconst 0, 1) := by decide +kernel
theorem dX3_sendAsShown_1 : decode cX3_sendAsShown 1 = .ok (.istore_n 2, 1) := by decide +kernel
theorem dX3_sendAsShown_2 : decode cX3_sendAsShown 2 = .ok (.iload_n 1, 1) := by decide +kernel
theorem dX3_sendAsShown_3 : decode cX3_sendAsShown 3 = .ok (.istore_n 3, 1) := by decide +kernel
theorem dX3_sendAsShown_4 : decode cX3_sendAsShown 4 = .ok (.iconst 0, 1) := by decide +kernel
theorem dX3_sendAsShown_5 : decode cX3_sendAsShown 5 = .ok (.istore 4, 2) := by decide +kernel
theorem dX3_sendAsShown_7 : decode cX3_sendAsShown 7 = .ok (.iload 4, 2) := by decide +kernel
theorem dX3_sendAsShown_9 : decode cX3_sendAsShown 9 = .ok (.aload_n 0, 1) := by decide +kernel
theorem dX3_sendAsShown_10 : decode cX3_sendAsShown 10 = .ok (.getfield 42, 3) := by decide +kernel
theorem dX3_sendAsShown_13 : decode cX3_sendAsShown 13 = .ok (.if_icmp .ge 42, 3) := by decide +kernel
theorem dX3_sendAsShown_16 : decode cX3_sendAsShown 16 = .ok (.iload_n 2, 1) := by decide +kernel
theorem dX3_sendAsShown_17 : decode cX3_sendAsShown 17 = .ok (.iload_n 3, 1) := by decide +kernel
theorem dX3_sendAsShown_18 : decode cX3_sendAsShown 18 = .ok (.ishr, 1) := by decide +kernel
theorem dX3_sendAsShown_19 : decode cX3_sendAsShown 19 = .ok (.iconst 1, 1) := by decide +kernel
theorem dX3_sendAsShown_20 : decode cX3_sendAsShown 20 = .ok (.iand, 1) := by decide +kernel
theorem dX3_sendAsShown_21 : decode cX3_sendAsShown 21 = .ok (.ifCond .ne 34, 3) := by decide +kernel
theorem dX3_sendAsShown_24 : decode cX3_sendAsShown 24 = .ok (.iload_n 2, 1) := by decide +kernel
theorem dX3_sendAsShown_25 : decode cX3_sendAsShown 25 = .ok (.iconst 1, 1) := by decide +kernel
theorem dX3_sendAsShown_26 : decode cX3_sendAsShown 26 = .ok (.iload_n 3, 1) := by decide +kernel
theorem dX3_sendAsShown_27 : decode cX3_sendAsShown 27 = .ok (.ishl, 1) := by decide +kernel
theorem dX3_sendAsShown_28 : decode cX3_sendAsShown 28 = .ok (.ior, 1) := by decide +kernel
theorem dX3_sendAsShown_29 : decode cX3_sendAsShown 29 = .ok (.istore_n 2, 1) := by decide +kernel
theorem dX3_sendAsShown_30 : decode cX3_sendAsShown 30 = .ok (.aload_n 0, 1) := by decide +kernel
theorem dX3_sendAsShown_31 : decode cX3_sendAsShown 31 = .ok (.getfield 15, 3) := by decide +kernel
theorem dX3_sendAsShown_34 : decode cX3_sendAsShown 34 = .ok (.iload_n 3, 1) := by decide +kernel
theorem dX3_sendAsShown_35 : decode cX3_sendAsShown 35 = .ok (.aload_n 0, 1) := by decide +kernel
theorem dX3_sendAsShown_36 : decode cX3_sendAsShown 36 = .ok (.getfield 25, 3) := by decide +kernel
theorem dX3_sendAsShown_39 : decode cX3_sendAsShown 39 = .ok (.iload_n 3, 1) := by decide +kernel
theorem dX3_sendAsShown_40 : decode cX3_sendAsShown 40 = .ok (.iaload, 1) := by decide +kernel
theorem dX3_sendAsShown_41 : decode cX3_sendAsShown 41 = .ok (.iastore, 1) := by decide +kernel
theorem dX3_sendAsShown_42 : decode cX3_sendAsShown 42 = .ok (.aload_n 0, 1) := by decide +kernel
theorem dX3_sendAsShown_43 : decode cX3_sendAsShown 43 = .ok (.getfield 25, 3) := by decide +kernel
theorem dX3_sendAsShown_46 : decode cX3_sendAsShown 46 = .ok (.iload_n 3, 1) := by decide +kernel
theorem dX3_sendAsShown_47 : decode cX3_sendAsShown 47 = .ok (.iaload, 1) := by decide +kernel
theorem dX3_sendAsShown_48 : decode cX3_sendAsShown 48 = .ok (.istore_n 3, 1) := by decide +kernel
theorem dX3_sendAsShown_49 : decode cX3_sendAsShown 49 = .ok (.iinc 4 1, 3) := by decide +kernel
theorem dX3_sendAsShown_52 : decode cX3_sendAsShown 52 = .ok (.goto (-45), 3) := by decide +kernel
theorem dX3_sendAsShown_55 : decode cX3_sendAsShown 55 = .ok (.iload_n 2, 1) := by decide +kernel
theorem dX3_sendAsShown_56 : decode cX3_sendAsShown 56 = .ok (.ireturn, 1) := by decide +kernel
theorem dX3_addChainWaysTo_0 : decode cX3_addChainWaysTo 0 = .ok (.aload_n 0, 1) := by decide +kernel
theorem dX3_addChainWaysTo_1 : decode cX3_addChainWaysTo 1 = .ok (.getfield 11, 3) := by decide +kernel
theorem dX3_addChainWaysTo_4 : decode cX3_addChainWaysTo 4 = .ok (.iload_n 1, 1) := by decide +kernel
theorem dX3_addChainWaysTo_5 : decode cX3_addChainWaysTo 5 = .ok (.aaload, 1) := by decide +kernel
theorem dX3_addChainWaysTo_6 : decode cX3_addChainWaysTo 6 = .ok (.invokevirtual 140, 3) := by decide +kernel
theorem dX3_addChainWaysTo_9 : decode cX3_addChainWaysTo 9 = .ok (.istore_n 3, 1) := by decide +kernel
theorem dX3_addChainWaysTo_10 : decode cX3_addChainWaysTo 10 = .ok (.iconst 0, 1) := by decide +kernel
theorem dX3_addChainWaysTo_11 : decode cX3_addChainWaysTo 11 = .ok (.istore 4, 2) := by decide +kernel
theorem dX3_addChainWaysTo_13 : decode cX3_addChainWaysTo 13 = .ok (.iload 4, 2) := by decide +kernel
theorem dX3_addChainWaysTo_15 : decode cX3_addChainWaysTo 15 = .ok (.aload_n 0, 1) := by decide +kernel
theorem dX3_addChainWaysTo_16 : decode cX3_addChainWaysTo 16 = .ok (.getfield 42, 3) := by decide +kernel
theorem dX3_addChainWaysTo_19 : decode cX3_addChainWaysTo 19 = .ok (.if_icmp .ge 74, 3) := by decide +kernel
theorem dX3_addChainWaysTo_22 : decode cX3_addChainWaysTo 22 = .ok (.iload 4, 2) := by decide +kernel
theorem dX3_addChainWaysTo_24 : decode cX3_addChainWaysTo 24 = .ok (.iload_n 2, 1) := by decide +kernel
theorem dX3_addChainWaysTo_25 : decode cX3_addChainWaysTo 25 = .ok (.if_icmp .ne 7, 3) := by decide +kernel
theorem dX3_addChainWaysTo_28 : decode cX3_addChainWaysTo 28 = .ok (.iconst 0, 1) := by decide +kernel
theorem dX3_addChainWaysTo_29 : decode cX3_addChainWaysTo 29 = .ok (.goto 13, 3) := by decide +kernel
theorem dX3_addChainWaysTo_32 : decode cX3_addChainWaysTo 32 = .ok (.aload_n 0, 1) := by decide +kernel
theorem dX3_addChainWaysTo_33 : decode cX3_addChainWaysTo 33 = .ok (.getfield 11, 3) := by decide +kernel
theorem dX3_addChainWaysTo_36 : decode cX3_addChainWaysTo 36 = .ok (.iload 4, 2) := by decide +kernel
theorem dX3_addChainWaysTo_38 : decode cX3_addChainWaysTo 38 = .ok (.aaload, 1) := by decide +kernel
theorem dX3_addChainWaysTo_39 : decode cX3_addChainWaysTo 39 = .ok (.invokevirtual 140, 3) := by decide +kernel
theorem dX3_addChainWaysTo_42 : decode cX3_addChainWaysTo 42 = .ok (.istore 5, 2) := by decide +kernel
theorem dX3_addChainWaysTo_44 : decode cX3_addChainWaysTo 44 = .ok (.aload_n 0, 1) := by decide +kernel
theorem dX3_addChainWaysTo_45 : decode cX3_addChainWaysTo 45 = .ok (.iload 4, 2) := by decide +kernel
theorem dX3_addChainWaysTo_47 : decode cX3_addChainWaysTo 47 = .ok (.iload_n 1, 1) := by decide +kernel
theorem dX3_addChainWaysTo_48 : decode cX3_addChainWaysTo 48 = .ok (.invokevirtual 188, 3) := by decide +kernel
theorem dX3_addChainWaysTo_51 : decode cX3_addChainWaysTo 51 = .ok (.ifCond .eq 36, 3) := by decide +kernel
theorem dX3_addChainWaysTo_54 : decode cX3_addChainWaysTo 54 = .ok (.aload_n 0, 1) := by decide +kernel
theorem dX3_addChainWaysTo_55 : decode cX3_addChainWaysTo 55 = .ok (.getfield 11, 3) := by decide +kernel
theorem dX3_addChainWaysTo_58 : decode cX3_addChainWaysTo 58 = .ok (.iload 4, 2) := by decide +kernel
theorem dX3_addChainWaysTo_60 : decode cX3_addChainWaysTo 60 = .ok (.aaload, 1) := by decide +kernel
theorem dX3_addChainWaysTo_61 : decode cX3_addChainWaysTo 61 = .ok (.getfield 143, 3) := by decide +kernel
theorem dX3_addChainWaysTo_64 : decode cX3_addChainWaysTo 64 = .ok (.iload 5, 2) := by decide +kernel
theorem dX3_addChainWaysTo_66 : decode cX3_addChainWaysTo 66 = .ok (.iadd, 1) := by decide +kernel
theorem dX3_addChainWaysTo_67 : decode cX3_addChainWaysTo 67 = .ok (.iload_n 3, 1) := by decide +kernel
theorem dX3_addChainWaysTo_68 : decode cX3_addChainWaysTo 68 = .ok (.isub, 1) := by decide +kernel
theorem dX3_addChainWaysTo_69 : decode cX3_addChainWaysTo 69 = .ok (.aload_n 0, 1) := by decide +kernel
theorem dX3_addChainWaysTo_70 : decode cX3_addChainWaysTo 70 = .ok (.getfield 58, 3) := by decide +kernel
theorem dX3_addChainWaysTo_73 : decode cX3_addChainWaysTo 73 = .ok (.ineg, 1) := by decide +kernel
theorem dX3_addChainWaysTo_74 : decode cX3_addChainWaysTo 74 = .ok (.if_icmp .lt 13, 3) := by decide +kernel
theorem dX3_addChainWaysTo_77 : decode cX3_addChainWaysTo 77 = .ok (.aload_n 0, 1) := by decide +kernel
theorem dX3_addChainWaysTo_78 : decode cX3_addChainWaysTo 78 = .ok (.getfield 38, 3) := by decide +kernel
theorem dX3_addChainWaysTo_81 : decode cX3_addChainWaysTo 81 = .ok (.iload 4, 2) := by decide +kernel
theorem dX3_addChainWaysTo_83 : decode cX3_addChainWaysTo 83 = .ok (.iload_n 1, 1) := by decide +kernel
theorem dX3_addChainWaysTo_84 : decode cX3_addChainWaysTo 84 = .ok (.invokevirtual 194, 3) := by decide +kernel
theorem dX3_addChainWaysTo_87 : decode cX3_addChainWaysTo 87 = .ok (.iinc 4 1, 3) := by decide +kernel
theorem dX3_addChainWaysTo_90 : decode cX3_addChainWaysTo 90 = .ok (.goto (-77), 3) := by decide +kernel
theorem dX3_addChainWaysTo_93 : decode cX3_addChainWaysTo 93 = .ok (.return_, 1) := by decide +kernel
theorem dX3_pay_0 : decode cX3_pay 0 = .ok (.aload_n 0, 1) := by decide +kernel
theorem dX3_pay_1 : decode cX3_pay 1 = .ok (.getfield 11, 3) := by decide +kernel
theorem dX3_pay_4 : decode cX3_pay 4 = .ok (.iload_n 2, 1) := by decide +kernel
theorem dX3_pay_5 : decode cX3_pay 5 = .ok (.aaload, 1) := by decide +kernel
theorem dX3_pay_6 : decode cX3_pay 6 = .ok (.invokevirtual 140, 3) := by decide +kernel
theorem dX3_pay_9 : decode cX3_pay 9 = .ok (.istore 4, 2) := by decide +kernel
theorem dX3_pay_11 : decode cX3_pay 11 = .ok (.aload_n 0, 1) := by decide +kernel
theorem dX3_pay_12 : decode cX3_pay 12 = .ok (.getfield 11, 3) := by decide +kernel
theorem dX3_pay_15 : decode cX3_pay 15 = .ok (.iload_n 1, 1) := by decide +kernel
theorem dX3_pay_16 : decode cX3_pay 16 = .ok (.aaload, 1) := by decide +kernel
theorem dX3_pay_17 : decode cX3_pay 17 = .ok (.dup, 1) := by decide +kernel
theorem dX3_pay_18 : decode cX3_pay 18 = .ok (.getfield 143, 3) := by decide +kernel
theorem dX3_pay_21 : decode cX3_pay 21 = .ok (.iload_n 3, 1) := by decide +kernel
theorem dX3_pay_22 : decode cX3_pay 22 = .ok (.iload 4, 2) := by decide +kernel
theorem dX3_pay_24 : decode cX3_pay 24 = .ok (.imul, 1) := by decide +kernel
theorem dX3_pay_25 : decode cX3_pay 25 = .ok (.isub, 1) := by decide +kernel
theorem dX3_pay_26 : decode cX3_pay 26 = .ok (.putfield 143, 3) := by decide +kernel
theorem dX3_pay_29 : decode cX3_pay 29 = .ok (.aload_n 0, 1) := by decide +kernel
theorem dX3_pay_30 : decode cX3_pay 30 = .ok (.getfield 11, 3) := by decide +kernel
theorem dX3_pay_33 : decode cX3_pay 33 = .ok (.iload_n 2, 1) := by decide +kernel
theorem dX3_pay_34 : decode cX3_pay 34 = .ok (.aaload, 1) := by decide +kernel
theorem dX3_pay_35 : decode cX3_pay 35 = .ok (.dup, 1) := by decide +kernel
theorem dX3_pay_36 : decode cX3_pay 36 = .ok (.getfield 143, 3) := by decide +kernel
theorem dX3_pay_39 : decode cX3_pay 39 = .ok (.iload_n 3, 1) := by decide +kernel
theorem dX3_pay_40 : decode cX3_pay 40 = .ok (.iload 4, 2) := by decide +kernel
theorem dX3_pay_42 : decode cX3_pay 42 = .ok (.imul, 1) := by decide +kernel
theorem dX3_pay_43 : decode cX3_pay 43 = .ok (.iadd, 1) := by decide +kernel
theorem dX3_pay_44 : decode cX3_pay 44 = .ok (.putfield 143, 3) := by decide +kernel
theorem dX3_pay_47 : decode cX3_pay 47 = .ok (.return_, 1) := by decide +kernel
theorem dX3_payPlan_0 : decode cX3_payPlan 0 = .ok (.iconst 0, 1) := by decide +kernel
theorem dX3_payPlan_1 : decode cX3_payPlan 1 = .ok (.istore_n 2, 1) := by decide +kernel
theorem dX3_payPlan_2 : decode cX3_payPlan 2 = .ok (.iload_n 2, 1) := by decide +kernel
theorem dX3_payPlan_3 : decode cX3_payPlan 3 = .ok (.aload_n 0, 1) := by decide +kernel
theorem dX3_payPlan_4 : decode cX3_payPlan 4 = .ok (.getfield 42, 3) := by decide +kernel
theorem dX3_payPlan_7 : decode cX3_payPlan 7 = .ok (.if_icmp .ge 31, 3) := by decide +kernel
theorem dX3_payPlan_10 : decode cX3_payPlan 10 = .ok (.aload_n 0, 1) := by decide +kernel
theorem dX3_payPlan_11 : decode cX3_payPlan 11 = .ok (.getfield 15, 3) := by decide +kernel
theorem dX3_payPlan_14 : decode cX3_payPlan 14 = .ok (.iload_n 2, 1) := by decide +kernel
theorem dX3_payPlan_15 : decode cX3_payPlan 15 = .ok (.iaload, 1) := by decide +kernel
theorem dX3_payPlan_16 : decode cX3_payPlan 16 = .ok (.iconst (-1), 1) := by decide +kernel
theorem dX3_payPlan_17 : decode cX3_payPlan 17 = .ok (.if_icmp .eq 15, 3) := by decide +kernel
theorem dX3_payPlan_20 : decode cX3_payPlan 20 = .ok (.aload_n 0, 1) := by decide +kernel
theorem dX3_payPlan_21 : decode cX3_payPlan 21 = .ok (.iload_n 2, 1) := by decide +kernel
theorem dX3_payPlan_22 : decode cX3_payPlan 22 = .ok (.aload_n 0, 1) := by decide +kernel
theorem dX3_payPlan_23 : decode cX3_payPlan 23 = .ok (.getfield 15, 3) := by decide +kernel
theorem dX3_payPlan_26 : decode cX3_payPlan 26 = .ok (.iload_n 2, 1) := by decide +kernel
theorem dX3_payPlan_27 : decode cX3_payPlan 27 = .ok (.iaload, 1) := by decide +kernel
theorem dX3_payPlan_28 : decode cX3_payPlan 28 = .ok (.iload_n 1, 1) := by decide +kernel
theorem dX3_payPlan_29 : decode cX3_payPlan 29 = .ok (.invokevirtual 215, 3) := by decide +kernel
theorem dX3_payPlan_32 : decode cX3_payPlan 32 = .ok (.iinc 2 1, 3) := by decide +kernel
theorem dX3_payPlan_35 : decode cX3_payPlan 35 = .ok (.goto (-33), 3) := by decide +kernel
theorem dX3_payPlan_38 : decode cX3_payPlan 38 = .ok (.return_, 1) := by decide +kernel
theorem dX4_init_0 : decode cX4_init 0 = .ok (.aload_n 0, 1) := by decide +kernel
theorem dX4_init_1 : decode cX4_init 1 = .ok (.invokespecial 1, 3) := by decide +kernel
theorem dX4_init_4 : decode cX4_init 4 = .ok (.aload_n 0, 1) := by decide +kernel
theorem dX4_init_5 : decode cX4_init 5 = .ok (.bipush 10, 2) := by decide +kernel
theorem dX4_init_7 : decode cX4_init 7 = .ok (.newarray .int, 2) := by decide +kernel
theorem dX4_init_9 : decode cX4_init 9 = .ok (.putfield 9, 3) := by decide +kernel
theorem dX4_init_12 : decode cX4_init 12 = .ok (.aload_n 0, 1) := by decide +kernel
theorem dX4_init_13 : decode cX4_init 13 = .ok (.bipush 10, 2) := by decide +kernel
theorem dX4_init_15 : decode cX4_init 15 = .ok (.newarray .int, 2) := by decide +kernel
theorem dX4_init_17 : decode cX4_init 17 = .ok (.putfield 13, 3) := by decide +kernel
theorem dX4_init_20 : decode cX4_init 20 = .ok (.aload_n 0, 1) := by decide +kernel
theorem dX4_init_21 : decode cX4_init 21 = .ok (.bipush 10, 2) := by decide +kernel
theorem dX4_init_23 : decode cX4_init 23 = .ok (.newarray .int, 2) := by decide +kernel
theorem dX4_init_25 : decode cX4_init 25 = .ok (.putfield 16, 3) := by decide +kernel
theorem dX4_init_28 : decode cX4_init 28 = .ok (.aload_n 0, 1) := by decide +kernel
theorem dX4_init_29 : decode cX4_init 29 = .ok (.bipush 10, 2) := by decide +kernel
theorem dX4_init_31 : decode cX4_init 31 = .ok (.newarray .boolean, 2) := by decide +kernel
theorem dX4_init_33 : decode cX4_init 33 = .ok (.putfield 19, 3) := by decide +kernel
theorem dX4_init_36 : decode cX4_init 36 = .ok (.aload_n 0, 1) := by decide +kernel
theorem dX4_init_37 : decode cX4_init 37 = .ok (.bipush 10, 2) := by decide +kernel
theorem dX4_init_39 : decode cX4_init 39 = .ok (.newarray .int, 2) := by decide +kernel
theorem dX4_init_41 : decode cX4_init 41 = .ok (.putfield 23, 3) := by decide +kernel
theorem dX4_init_44 : decode cX4_init 44 = .ok (.aload_n 0, 1) := by decide +kernel
theorem dX4_init_45 : decode cX4_init 45 = .ok (.bipush 10, 2) := by decide +kernel
theorem dX4_init_47 : decode cX4_init 47 = .ok (.newarray .int, 2) := by decide +kernel
theorem dX4_init_49 : decode cX4_init 49 = .ok (.putfield 26, 3) := by decide +kernel
theorem dX4_init_52 : decode cX4_init 52 = .ok (.aload_n 0, 1) := by decide +kernel
theorem dX4_init_53 : decode cX4_init 53 = .ok (.bipush 10, 2) := by decide +kernel
theorem dX4_init_55 : decode cX4_init 55 = .ok (.newarray .int, 2) := by decide +kernel
theorem dX4_init_57 : decode cX4_init 57 = .ok (.putfield 29, 3) := by decide +kernel
theorem dX4_init_60 : decode cX4_init 60 = .ok (.aload_n 0, 1) := by decide +kernel
theorem dX4_init_61 : decode cX4_init 61 = .ok (.bipush 10, 2) := by decide +kernel
theorem dX4_init_63 : decode cX4_init 63 = .ok (.newarray .int, 2) := by decide +kernel
theorem dX4_init_65 : decode cX4_init 65 = .ok (.putfield 32, 3) := by decide +kernel
theorem dX4_init_68 : decode cX4_init 68 = .ok (.aload_n 0, 1) := by decide +kernel
theorem dX4_init_69 : decode cX4_init 69 = .ok (.bipush 10, 2) := by decide +kernel
theorem dX4_init_71 : decode cX4_init 71 = .ok (.newarray .int, 2) := by decide +kernel
theorem dX4_init_73 : decode cX4_init 73 = .ok (.putfield 35, 3) := by decide +kernel
theorem dX4_init_76 : decode cX4_init 76 = .ok (.aload_n 0, 1) := by decide +kernel
theorem dX4_init_77 : decode cX4_init 77 = .ok (.bipush 10, 2) := by decide +kernel
theorem dX4_init_79 : decode cX4_init 79 = .ok (.newarray .boolean, 2) := by decide +kernel
theorem dX4_init_81 : decode cX4_init 81 = .ok (.putfield 38, 3) := by decide +kernel
theorem dX4_init_84 : decode cX4_init 84 = .ok (.aload_n 0, 1) := by decide +kernel
theorem dX4_init_85 : decode cX4_init 85 = .ok (.bipush 10, 2) := by decide +kernel
theorem dX4_init_87 : decode cX4_init 87 = .ok (.newarray .int, 2) := by decide +kernel
theorem dX4_init_89 : decode cX4_init 89 = .ok (.putfield 41, 3) := by decide +kernel
theorem dX4_init_92 : decode cX4_init 92 = .ok (.aload_n 0, 1) := by decide +kernel
theorem dX4_init_93 : decode cX4_init 93 = .ok (.bipush 100, 2) := by decide +kernel
theorem dX4_init_95 : decode cX4_init 95 = .ok (.newarray .int, 2) := by decide +kernel
theorem dX4_init_97 : decode cX4_init 97 = .ok (.putfield 44, 3) := by decide +kernel
theorem dX4_init_100 : decode cX4_init 100 = .ok (.aload_n 0, 1) := by decide +kernel
theorem dX4_init_101 : decode cX4_init 101 = .ok (.bipush 100, 2) := by decide +kernel
theorem dX4_init_103 : decode cX4_init 103 = .ok (.newarray .boolean, 2) := by decide +kernel
theorem dX4_init_105 : decode cX4_init 105 = .ok (.putfield 47, 3) := by decide +kernel
theorem dX4_init_108 : decode cX4_init 108 = .ok (.aload_n 0, 1) := by decide +kernel
theorem dX4_init_109 : decode cX4_init 109 = .ok (.bipush 10, 2) := by decide +kernel
theorem dX4_init_111 : decode cX4_init 111 = .ok (.newarray .int, 2) := by decide +kernel
theorem dX4_init_113 : decode cX4_init 113 = .ok (.putfield 50, 3) := by decide +kernel
theorem dX4_init_116 : decode cX4_init 116 = .ok (.aload_n 0, 1) := by decide +kernel
theorem dX4_init_117 : decode cX4_init 117 = .ok (.iconst 2, 1) := by decide +kernel
theorem dX4_init_118 : decode cX4_init 118 = .ok (.putfield 53, 3) := by decide +kernel
theorem dX4_init_121 : decode cX4_init 121 = .ok (.aload_n 0, 1) := by decide +kernel
theorem dX4_init_122 : decode cX4_init 122 = .ok (.bipush 10, 2) := by decide +kernel
theorem dX4_init_124 : decode cX4_init 124 = .ok (.putfield 57, 3) := by decide +kernel
theorem dX4_init_127 : decode cX4_init 127 = .ok (.aload_n 0, 1) := by decide +kernel
theorem dX4_init_128 : decode cX4_init 128 = .ok (.bipush 10, 2) := by decide +kernel
theorem dX4_init_130 : decode cX4_init 130 = .ok (.newarray .int, 2) := by decide +kernel
theorem dX4_init_132 : decode cX4_init 132 = .ok (.putfield 60, 3) := by decide +kernel
theorem dX4_init_135 : decode cX4_init 135 = .ok (.aload_n 0, 1) := by decide +kernel
theorem dX4_init_136 : decode cX4_init 136 = .ok (.bipush 10, 2) := by decide +kernel
theorem dX4_init_138 : decode cX4_init 138 = .ok (.newarray .int, 2) := by decide +kernel
theorem dX4_init_140 : decode cX4_init 140 = .ok (.putfield 63, 3) := by decide +kernel
theorem dX4_init_143 : decode cX4_init 143 = .ok (.aload_n 0, 1) := by decide +kernel
theorem dX4_init_144 : decode cX4_init 144 = .ok (.bipush 10, 2) := by decide +kernel
theorem dX4_init_146 : decode cX4_init 146 = .ok (.newarray .boolean, 2) := by decide +kernel
theorem dX4_init_148 : decode cX4_init 148 = .ok (.putfield 66, 3) := by decide +kernel
theorem dX4_init_151 : decode cX4_init 151 = .ok (.aload_n 0, 1) := by decide +kernel
theorem dX4_init_152 : decode cX4_init 152 = .ok (.bipush 10, 2) := by decide +kernel
theorem dX4_init_154 : decode cX4_init 154 = .ok (.newarray .int, 2) := by decide +kernel
theorem dX4_init_156 : decode cX4_init 156 = .ok (.putfield 69, 3) := by decide +kernel
theorem dX4_init_159 : decode cX4_init 159 = .ok (.aload_n 0, 1) := by decide +kernel
theorem dX4_init_160 : decode cX4_init 160 = .ok (.bipush 10, 2) := by decide +kernel
theorem dX4_init_162 : decode cX4_init 162 = .ok (.newarray .int, 2) := by decide +kernel
theorem dX4_init_164 : decode cX4_init 164 = .ok (.putfield 72, 3) := by decide +kernel
theorem dX4_init_167 : decode cX4_init 167 = .ok (.aload_n 0, 1) := by decide +kernel
theorem dX4_init_168 : decode cX4_init 168 = .ok (.bipush 10, 2) := by decide +kernel
theorem dX4_init_170 : decode cX4_init 170 = .ok (.newarray .int, 2) := by decide +kernel
theorem dX4_init_172 : decode cX4_init 172 = .ok (.putfield 75, 3) := by decide +kernel
theorem dX4_init_175 : decode cX4_init 175 = .ok (.aload_n 0, 1) := by decide +kernel
theorem dX4_init_176 : decode cX4_init 176 = .ok (.bipush 10, 2) := by decide +kernel
theorem dX4_init_178 : decode cX4_init 178 = .ok (.newarray .int, 2) := by decide +kernel
theorem dX4_init_180 : decode cX4_init 180 = .ok (.putfield 78, 3) := by decide +kernel
theorem dX4_init_183 : decode cX4_init 183 = .ok (.aload_n 0, 1) := by decide +kernel
theorem dX4_init_184 : decode cX4_init 184 = .ok (.sipush 600, 3) := by decide +kernel
theorem dX4_init_187 : decode cX4_init 187 = .ok (.newarray .int, 2) := by decide +kernel
theorem dX4_init_189 : decode cX4_init 189 = .ok (.putfield 81, 3) := by decide +kernel
theorem dX4_init_192 : decode cX4_init 192 = .ok (.return_, 1) := by decide +kernel
theorem dX4_thrown_0 : decode cX4_thrown 0 = .ok (.aload_n 0, 1) := by decide +kernel
theorem dX4_thrown_1 : decode cX4_thrown 1 = .ok (.getfield 84, 3) := by decide +kernel
theorem dX4_thrown_4 : decode cX4_thrown 4 = .ok (.ireturn, 1) := by decide +kernel
theorem dX4_lies_0 : decode cX4_lies 0 = .ok (.lload_n 0, 1) := by decide +kernel
theorem dX4_lies_1 : decode cX4_lies 1 = .ok (.lload_n 2, 1) := by decide +kernel
theorem dX4_lies_2 : decode cX4_lies 2 = .ok (.lcmp, 1) := by decide +kernel
theorem dX4_lies_3 : decode cX4_lies 3 = .ok (.ifCond .lt 14, 3) := by decide +kernel
theorem dX4_lies_6 : decode cX4_lies 6 = .ok (.lload_n 0, 1) := by decide +kernel
theorem dX4_lies_7 : decode cX4_lies 7 = .ok (.lload 4, 2) := by decide +kernel
theorem dX4_lies_9 : decode cX4_lies 9 = .ok (.lcmp, 1) := by decide +kernel
theorem dX4_lies_10 : decode cX4_lies 10 = .ok (.ifCond .gt 7, 3) := by decide +kernel
theorem dX4_lies_13 : decode cX4_lies 13 = .ok (.iconst 1, 1) := by decide +kernel
theorem dX4_lies_14 : decode cX4_lies 14 = .ok (.goto 4, 3) := by decide +kernel
theorem dX4_lies_17 : decode cX4_lies 17 = .ok (.iconst 0, 1) := by decide +kernel
theorem dX4_lies_18 : decode cX4_lies 18 = .ok (.ireturn, 1) := by decide +kernel
theorem dX4_refuse_0 : decode cX4_refuse 0 = .ok (.aload_n 0, 1) := by decide +kernel
theorem dX4_refuse_1 : decode cX4_refuse 1 = .ok (.iconst 1, 1) := by decide +kernel
theorem dX4_refuse_2 : decode cX4_refuse 2 = .ok (.putfield 84, 3) := by decide +kernel
theorem dX4_refuse_5 : decode cX4_refuse 5 = .ok (.iconst 0, 1) := by decide +kernel
theorem dX4_refuse_6 : decode cX4_refuse 6 = .ok (.ireturn, 1) := by decide +kernel
theorem dX4_isFamily_0 : decode cX4_isFamily 0 = .ok (.iload_n 1, 1) := by decide +kernel
theorem dX4_isFamily_1 : decode cX4_isFamily 1 = .ok (.i2l, 1) := by decide +kernel
theorem dX4_isFamily_2 : decode cX4_isFamily 2 = .ok (.lconst 0, 1) := by decide +kernel
theorem dX4_isFamily_3 : decode cX4_isFamily 3 = .ok (.aload_n 0, 1) := by decide +kernel
theorem dX4_isFamily_4 : decode cX4_isFamily 4 = .ok (.getfield 87, 3) := by decide +kernel
theorem dX4_isFamily_7 : decode cX4_isFamily 7 = .ok (.iconst 1, 1) := by decide +kernel
theorem dX4_isFamily_8 : decode cX4_isFamily 8 = .ok (.isub, 1) := by decide +kernel
theorem dX4_isFamily_9 : decode cX4_isFamily 9 = .ok (.i2l, 1) := by decide +kernel
theorem dX4_isFamily_10 : decode cX4_isFamily 10 = .ok (.invokestatic 90, 3) := by decide +kernel
theorem dX4_isFamily_13 : decode cX4_isFamily 13 = .ok (.ireturn, 1) := by decide +kernel
theorem dX4_areTwo_0 : decode cX4_areTwo 0 = .ok (.aload_n 0, 1) := by decide +kernel
theorem dX4_areTwo_1 : decode cX4_areTwo 1 = .ok (.iload_n 1, 1) := by decide +kernel
theorem dX4_areTwo_2 : decode cX4_areTwo 2 = .ok (.invokevirtual 94, 3) := by decide +kernel
theorem dX4_areTwo_5 : decode cX4_areTwo 5 = .ok (.ifCond .eq 20, 3) := by decide +kernel
theorem dX4_areTwo_8 : decode cX4_areTwo 8 = .ok (.aload_n 0, 1) := by decide +kernel
theorem dX4_areTwo_9 : decode cX4_areTwo 9 = .ok (.iload_n 2, 1) := by decide +kernel
theorem dX4_areTwo_10 : decode cX4_areTwo 10 = .ok (.invokevirtual 94, 3) := by decide +kernel
theorem dX4_areTwo_13 : decode cX4_areTwo 13 = .ok (.ifCond .eq 12, 3) := by decide +kernel
theorem dX4_areTwo_16 : decode cX4_areTwo 16 = .ok (.iload_n 1, 1) := by decide +kernel
theorem dX4_areTwo_17 : decode cX4_areTwo 17 = .ok (.iload_n 2, 1) := by decide +kernel
theorem dX4_areTwo_18 : decode cX4_areTwo 18 = .ok (.if_icmp .eq 7, 3) := by decide +kernel
theorem dX4_areTwo_21 : decode cX4_areTwo 21 = .ok (.iconst 1, 1) := by decide +kernel
theorem dX4_areTwo_22 : decode cX4_areTwo 22 = .ok (.goto 4, 3) := by decide +kernel
theorem dX4_areTwo_25 : decode cX4_areTwo 25 = .ok (.iconst 0, 1) := by decide +kernel
theorem dX4_areTwo_26 : decode cX4_areTwo 26 = .ok (.ireturn, 1) := by decide +kernel
theorem dX4_family_0 : decode cX4_family 0 = .ok (.aload_n 0, 1) := by decide +kernel
theorem dX4_family_1 : decode cX4_family 1 = .ok (.iconst 0, 1) := by decide +kernel
theorem dX4_family_2 : decode cX4_family 2 = .ok (.putfield 84, 3) := by decide +kernel
theorem dX4_family_5 : decode cX4_family 5 = .ok (.aload_n 0, 1) := by decide +kernel
theorem dX4_family_6 : decode cX4_family 6 = .ok (.iconst 0, 1) := by decide +kernel
theorem dX4_family_7 : decode cX4_family 7 = .ok (.putfield 98, 3) := by decide +kernel
theorem dX4_family_10 : decode cX4_family 10 = .ok (.iload_n 1, 1) := by decide +kernel
theorem dX4_family_11 : decode cX4_family 11 = .ok (.i2l, 1) := by decide +kernel
theorem dX4_family_12 : decode cX4_family 12 = .ok (.lconst 0, 1) := by decide +kernel
theorem dX4_family_13 : decode cX4_family 13 = .ok (.ldc2_w 101, 3) := by decide +kernel
theorem dX4_family_16 : decode cX4_family 16 = .ok (.invokestatic 90, 3) := by decide +kernel
theorem dX4_family_19 : decode cX4_family 19 = .ok (.ifCond .eq 36, 3) := by decide +kernel
theorem dX4_family_22 : decode cX4_family 22 = .ok (.iload_n 2, 1) := by decide +kernel
theorem dX4_family_23 : decode cX4_family 23 = .ok (.i2l, 1) := by decide +kernel
theorem dX4_family_24 : decode cX4_family 24 = .ok (.lconst 1, 1) := by decide +kernel
theorem dX4_family_25 : decode cX4_family 25 = .ok (.ldc2_w 103, 3) := by decide +kernel
theorem dX4_family_28 : decode cX4_family 28 = .ok (.invokestatic 90, 3) := by decide +kernel
theorem dX4_family_31 : decode cX4_family 31 = .ok (.ifCond .eq 24, 3) := by decide +kernel
theorem dX4_family_34 : decode cX4_family 34 = .ok (.iload_n 3, 1) := by decide +kernel
theorem dX4_family_35 : decode cX4_family 35 = .ok (.i2l, 1) := by decide +kernel
theorem dX4_family_36 : decode cX4_family 36 = .ok (.lconst 1, 1) := by decide +kernel
theorem dX4_family_37 : decode cX4_family 37 = .ok (.ldc2_w 103, 3) := by decide +kernel
theorem dX4_family_40 : decode cX4_family 40 = .ok (.invokestatic 90, 3) := by decide +kernel
theorem dX4_family_43 : decode cX4_family 43 = .ok (.ifCond .eq 12, 3) := by decide +kernel
theorem dX4_family_46 : decode cX4_family 46 = .ok (.aload_n 0, 1) := by decide +kernel
theorem dX4_family_47 : decode cX4_family 47 = .ok (.getfield 87, 3) := by decide +kernel
theorem dX4_family_50 : decode cX4_family 50 = .ok (.bipush 10, 2) := by decide +kernel
theorem dX4_family_52 : decode cX4_family 52 = .ok (.if_icmp .ne 5, 3) := by decide +kernel
theorem dX4_family_55 : decode cX4_family 55 = .ok (.iconst (-1), 1) := by decide +kernel
theorem dX4_family_56 : decode cX4_family 56 = .ok (.ireturn, 1) := by decide +kernel
theorem dX4_family_57 : decode cX4_family 57 = .ok (.aload_n 0, 1) := by decide +kernel
theorem dX4_family_58 : decode cX4_family 58 = .ok (.getfield 87, 3) := by decide +kernel
theorem dX4_family_61 : decode cX4_family 61 = .ok (.istore 5, 2) := by decide +kernel
theorem dX4_family_63 : decode cX4_family 63 = .ok (.aload_n 0, 1) := by decide +kernel
theorem dX4_family_64 : decode cX4_family 64 = .ok (.dup, 1) := by decide +kernel
theorem dX4_family_65 : decode cX4_family 65 = .ok (.getfield 87, 3) := by decide +kernel
theorem dX4_family_68 : decode cX4_family 68 = .ok (.iconst 1, 1) := by decide +kernel
theorem dX4_family_69 : decode cX4_family 69 = .ok (.iadd, 1) := by decide +kernel
theorem dX4_family_70 : decode cX4_family 70 = .ok (.putfield 87, 3) := by decide +kernel
theorem dX4_family_73 : decode cX4_family 73 = .ok (.aload_n 0, 1) := by decide +kernel
theorem dX4_family_74 : decode cX4_family 74 = .ok (.getfield 9, 3) := by decide +kernel
theorem dX4_family_77 : decode cX4_family 77 = .ok (.iload 5, 2) := by decide +kernel
theorem dX4_family_79 : decode cX4_family 79 = .ok (.iload_n 1, 1) := by decide +kernel
theorem dX4_family_80 : decode cX4_family 80 = .ok (.iastore, 1) := by decide +kernel
theorem dX4_family_81 : decode cX4_family 81 = .ok (.aload_n 0, 1) := by decide +kernel
theorem dX4_family_82 : decode cX4_family 82 = .ok (.getfield 13, 3) := by decide +kernel
theorem dX4_family_85 : decode cX4_family 85 = .ok (.iload 5, 2) := by decide +kernel
theorem dX4_family_87 : decode cX4_family 87 = .ok (.iload_n 2, 1) := by decide +kernel
theorem dX4_family_88 : decode cX4_family 88 = .ok (.iastore, 1) := by decide +kernel
theorem dX4_family_89 : decode cX4_family 89 = .ok (.aload_n 0, 1) := by decide +kernel
theorem dX4_family_90 : decode cX4_family 90 = .ok (.getfield 16, 3) := by decide +kernel
theorem dX4_family_93 : decode cX4_family 93 = .ok (.iload 5, 2) := by decide +kernel
theorem dX4_family_95 : decode cX4_family 95 = .ok (.iload_n 3, 1) := by decide +kernel
theorem dX4_family_96 : decode cX4_family 96 = .ok (.iastore, 1) := by decide +kernel
theorem dX4_family_97 : decode cX4_family 97 = .ok (.aload_n 0, 1) := by decide +kernel
theorem dX4_family_98 : decode cX4_family 98 = .ok (.getfield 19, 3) := by decide +kernel
theorem dX4_family_101 : decode cX4_family 101 = .ok (.iload 5, 2) := by decide +kernel
theorem dX4_family_103 : decode cX4_family 103 = .ok (.iload 4, 2) := by decide +kernel
theorem dX4_family_105 : decode cX4_family 105 = .ok (.bastore, 1) := by decide +kernel
theorem dX4_family_106 : decode cX4_family 106 = .ok (.aload_n 0, 1) := by decide +kernel
theorem dX4_family_107 : decode cX4_family 107 = .ok (.getfield 23, 3) := by decide +kernel
theorem dX4_family_110 : decode cX4_family 110 = .ok (.iload 5, 2) := by decide +kernel
theorem dX4_family_112 : decode cX4_family 112 = .ok (.iconst 0, 1) := by decide +kernel
theorem dX4_family_113 : decode cX4_family 113 = .ok (.iastore, 1) := by decide +kernel
theorem dX4_family_114 : decode cX4_family 114 = .ok (.aload_n 0, 1) := by decide +kernel
theorem dX4_family_115 : decode cX4_family 115 = .ok (.getfield 26, 3) := by decide +kernel
theorem dX4_family_118 : decode cX4_family 118 = .ok (.iload 5, 2) := by decide +kernel
theorem dX4_family_120 : decode cX4_family 120 = .ok (.bipush 51, 2) := by decide +kernel
theorem dX4_family_122 : decode cX4_family 122 = .ok (.iastore, 1) := by decide +kernel
theorem dX4_family_123 : decode cX4_family 123 = .ok (.aload_n 0, 1) := by decide +kernel
theorem dX4_family_124 : decode cX4_family 124 = .ok (.getfield 29, 3) := by decide +kernel
theorem dX4_family_127 : decode cX4_family 127 = .ok (.iload 5, 2) := by decide +kernel
theorem dX4_family_129 : decode cX4_family 129 = .ok (.iconst 0, 1) := by decide +kernel
theorem dX4_family_130 : decode cX4_family 130 = .ok (.iastore, 1) := by decide +kernel
theorem dX4_family_131 : decode cX4_family 131 = .ok (.aload_n 0, 1) := by decide +kernel
theorem dX4_family_132 : decode cX4_family 132 = .ok (.getfield 32, 3) := by decide +kernel
theorem dX4_family_135 : decode cX4_family 135 = .ok (.iload 5, 2) := by decide +kernel
theorem dX4_family_137 : decode cX4_family 137 = .ok (.bipush 51, 2) := by decide +kernel
theorem dX4_family_139 : decode cX4_family 139 = .ok (.iastore, 1) := by decide +kernel
theorem dX4_family_140 : decode cX4_family 140 = .ok (.aload_n 0, 1) := by decide +kernel
theorem dX4_family_141 : decode cX4_family 141 = .ok (.getfield 38, 3) := by decide +kernel
theorem dX4_family_144 : decode cX4_family 144 = .ok (.iload 5, 2) := by decide +kernel
theorem dX4_family_146 : decode cX4_family 146 = .ok (.iconst 1, 1) := by decide +kernel
theorem dX4_family_147 : decode cX4_family 147 = .ok (.bastore, 1) := by decide +kernel
theorem dX4_family_148 : decode cX4_family 148 = .ok (.aload_n 0, 1) := by decide +kernel
theorem dX4_family_149 : decode cX4_family 149 = .ok (.getfield 50, 3) := by decide +kernel
theorem dX4_family_152 : decode cX4_family 152 = .ok (.iload 5, 2) := by decide +kernel
theorem dX4_family_154 : decode cX4_family 154 = .ok (.iconst (-1), 1) := by decide +kernel
theorem dX4_family_155 : decode cX4_family 155 = .ok (.iastore, 1) := by decide +kernel
theorem dX4_family_156 : decode cX4_family 156 = .ok (.iload 5, 2) := by decide +kernel
theorem dX4_family_158 : decode cX4_family 158 = .ok (.ireturn, 1) := by decide +kernel
theorem dX4_weeks_0 : decode cX4_weeks 0 = .ok (.aload_n 0, 1) := by decide +kernel
theorem dX4_weeks_1 : decode cX4_weeks 1 = .ok (.iconst 0, 1) := by decide +kernel
theorem dX4_weeks_2 : decode cX4_weeks 2 = .ok (.putfield 84, 3) := by decide +kernel
theorem dX4_weeks_5 : decode cX4_weeks 5 = .ok (.aload_n 0, 1) := by decide +kernel
theorem dX4_weeks_6 : decode cX4_weeks 6 = .ok (.iconst 0, 1) := by decide +kernel
theorem dX4_weeks_7 : decode cX4_weeks 7 = .ok (.putfield 98, 3) := by decide +kernel
theorem dX4_weeks_10 : decode cX4_weeks 10 = .ok (.aload_n 0, 1) := by decide +kernel
theorem dX4_weeks_11 : decode cX4_weeks 11 = .ok (.iload_n 1, 1) := by decide +kernel
theorem dX4_weeks_12 : decode cX4_weeks 12 = .ok (.invokevirtual 94, 3) := by decide +kernel
theorem dX4_weeks_15 : decode cX4_weeks 15 = .ok (.ifCond .eq 39, 3) := by decide +kernel
theorem dX4_weeks_18 : decode cX4_weeks 18 = .ok (.iload_n 2, 1) := by decide +kernel
theorem dX4_weeks_19 : decode cX4_weeks 19 = .ok (.i2l, 1) := by decide +kernel
theorem dX4_weeks_20 : decode cX4_weeks 20 = .ok (.lconst 0, 1) := by decide +kernel
theorem dX4_weeks_21 : decode cX4_weeks 21 = .ok (.lconst 1, 1) := by decide +kernel
theorem dX4_weeks_22 : decode cX4_weeks 22 = .ok (.invokestatic 90, 3) := by decide +kernel
theorem dX4_weeks_25 : decode cX4_weeks 25 = .ok (.ifCond .eq 29, 3) := by decide +kernel
theorem dX4_weeks_28 : decode cX4_weeks 28 = .ok (.iload_n 3, 1) := by decide +kernel
theorem dX4_weeks_29 : decode cX4_weeks 29 = .ok (.i2l, 1) := by decide +kernel
theorem dX4_weeks_30 : decode cX4_weeks 30 = .ok (.lconst 0, 1) := by decide +kernel
theorem dX4_weeks_31 : decode cX4_weeks 31 = .ok (.ldc2_w 105, 3) := by decide +kernel
theorem dX4_weeks_34 : decode cX4_weeks 34 = .ok (.invokestatic 90, 3) := by decide +kernel
theorem dX4_weeks_37 : decode cX4_weeks 37 = .ok (.ifCond .eq 17, 3) := by decide +kernel
theorem dX4_weeks_40 : decode cX4_weeks 40 = .ok (.iload 4, 2) := by decide +kernel
theorem dX4_weeks_42 : decode cX4_weeks 42 = .ok (.i2l, 1) := by decide +kernel
theorem dX4_weeks_43 : decode cX4_weeks 43 = .ok (.iload_n 3, 1) := by decide +kernel
theorem dX4_weeks_44 : decode cX4_weeks 44 = .ok (.i2l, 1) := by decide +kernel
theorem dX4_weeks_45 : decode cX4_weeks 45 = .ok (.ldc2_w 105, 3) := by decide +kernel
theorem dX4_weeks_48 : decode cX4_weeks 48 = .ok (.invokestatic 90, 3) := by decide +kernel
theorem dX4_weeks_51 : decode cX4_weeks 51 = .ok (.ifCond .ne 5, 3) := by decide +kernel
theorem dX4_weeks_54 : decode cX4_weeks 54 = .ok (.iconst 0, 1) := by decide +kernel
theorem dX4_weeks_55 : decode cX4_weeks 55 = .ok (.ireturn, 1) := by decide +kernel
theorem dX4_weeks_56 : decode cX4_weeks 56 = .ok (.iload_n 2, 1) := by decide +kernel
theorem dX4_weeks_57 : decode cX4_weeks 57 = .ok (.ifCond .ne 21, 3) := by decide +kernel
theorem dX4_weeks_60 : decode cX4_weeks 60 = .ok (.aload_n 0, 1) := by decide +kernel
theorem dX4_weeks_61 : decode cX4_weeks 61 = .ok (.getfield 23, 3) := by decide +kernel
theorem dX4_weeks_64 : decode cX4_weeks 64 = .ok (.iload_n 1, 1) := by decide +kernel
theorem dX4_weeks_65 : decode cX4_weeks 65 = .ok (.iload_n 3, 1) := by decide +kernel
theorem dX4_weeks_66 : decode cX4_weeks 66 = .ok (.iastore, 1) := by decide +kernel
theorem dX4_weeks_67 : decode cX4_weeks 67 = .ok (.aload_n 0, 1) := by decide +kernel
theorem dX4_weeks_68 : decode cX4_weeks 68 = .ok (.getfield 26, 3) := by decide +kernel
theorem dX4_weeks_71 : decode cX4_weeks 71 = .ok (.iload_n 1, 1) := by decide +kernel
theorem dX4_weeks_72 : decode cX4_weeks 72 = .ok (.iload 4, 2) := by decide +kernel
theorem dX4_weeks_74 : decode cX4_weeks 74 = .ok (.iastore, 1) := by decide +kernel
theorem dX4_weeks_75 : decode cX4_weeks 75 = .ok (.goto 18, 3) := by decide +kernel
theorem dX4_weeks_78 : decode cX4_weeks 78 = .ok (.aload_n 0, 1) := by decide +kernel
theorem dX4_weeks_79 : decode cX4_weeks 79 = .ok (.getfield 29, 3) := by decide +kernel
theorem dX4_weeks_82 : decode cX4_weeks 82 = .ok (.iload_n 1, 1) := by decide +kernel
theorem dX4_weeks_83 : decode cX4_weeks 83 = .ok (.iload_n 3, 1) := by decide +kernel
theorem dX4_weeks_84 : decode cX4_weeks 84 = .ok (.iastore, 1) := by decide +kernel
theorem dX4_weeks_85 : decode cX4_weeks 85 = .ok (.aload_n 0, 1) := by decide +kernel
theorem dX4_weeks_86 : decode cX4_weeks 86 = .ok (.getfield 32, 3) := by decide +kernel
theorem dX4_weeks_89 : decode cX4_weeks 89 = .ok (.iload_n 1, 1) := by decide +kernel
theorem dX4_weeks_90 : decode cX4_weeks 90 = .ok (.iload 4, 2) := by decide +kernel
theorem dX4_weeks_92 : decode cX4_weeks 92 = .ok (.iastore, 1) := by decide +kernel
theorem dX4_weeks_93 : decode cX4_weeks 93 = .ok (.iconst 1, 1) := by decide +kernel
theorem dX4_weeks_94 : decode cX4_weeks 94 = .ok (.ireturn, 1) := by decide +kernel
theorem dX4_rankOf_0 : decode cX4_rankOf 0 = .ok (.iconst 0, 1) := by decide +kernel
theorem dX4_rankOf_1 : decode cX4_rankOf 1 = .ok (.istore_n 3, 1) := by decide +kernel
theorem dX4_rankOf_2 : decode cX4_rankOf 2 = .ok (.iload_n 3, 1) := by decide +kernel
theorem dX4_rankOf_3 : decode cX4_rankOf 3 = .ok (.aload_n 0, 1) := by decide +kernel
theorem dX4_rankOf_4 : decode cX4_rankOf 4 = .ok (.getfield 41, 3) := by decide +kernel
theorem dX4_rankOf_7 : decode cX4_rankOf 7 = .ok (.iload_n 1, 1) := by decide +kernel
theorem dX4_rankOf_8 : decode cX4_rankOf 8 = .ok (.iaload, 1) := by decide +kernel
theorem dX4_rankOf_9 : decode cX4_rankOf 9 = .ok (.if_icmp .ge 28, 3) := by decide +kernel
theorem dX4_rankOf_12 : decode cX4_rankOf 12 = .ok (.aload_n 0, 1) := by decide +kernel
theorem dX4_rankOf_13 : decode cX4_rankOf 13 = .ok (.getfield 44, 3) := by decide +kernel
theorem dX4_rankOf_16 : decode cX4_rankOf 16 = .ok (.bipush 10, 2) := by decide +kernel
theorem dX4_rankOf_18 : decode cX4_rankOf 18 = .ok (.iload_n 1, 1) := by decide +kernel
theorem dX4_rankOf_19 : decode cX4_rankOf 19 = .ok (.imul, 1) := by decide +kernel
theorem dX4_rankOf_20 : decode cX4_rankOf 20 = .ok (.iload_n 3, 1) := by decide +kernel
theorem dX4_rankOf_21 : decode cX4_rankOf 21 = .ok (.iadd, 1) := by decide +kernel
theorem dX4_rankOf_22 : decode cX4_rankOf 22 = .ok (.iaload, 1) := by decide +kernel
theorem dX4_rankOf_23 : decode cX4_rankOf 23 = .ok (.iload_n 2, 1) := by decide +kernel
theorem dX4_rankOf_24 : decode cX4_rankOf 24 = .ok (.if_icmp .ne 7, 3) := by decide +kernel
theorem dX4_rankOf_27 : decode cX4_rankOf 27 = .ok (.iload_n 3, 1) := by decide +kernel
theorem dX4_rankOf_28 : decode cX4_rankOf 28 = .ok (.iconst 1, 1) := by decide +kernel
theorem dX4_rankOf_29 : decode cX4_rankOf 29 = .ok (.iadd, 1) := by decide +kernel
theorem dX4_rankOf_30 : decode cX4_rankOf 30 = .ok (.ireturn, 1) := by decide +kernel
theorem dX4_rankOf_31 : decode cX4_rankOf 31 = .ok (.iinc 3 1, 3) := by decide +kernel
theorem dX4_rankOf_34 : decode cX4_rankOf 34 = .ok (.goto (-32), 3) := by decide +kernel
theorem dX4_rankOf_37 : decode cX4_rankOf 37 = .ok (.iconst 0, 1) := by decide +kernel
theorem dX4_rankOf_38 : decode cX4_rankOf 38 = .ok (.ireturn, 1) := by decide +kernel
theorem dX4_wants_0 : decode cX4_wants 0 = .ok (.aload_n 0, 1) := by decide +kernel
theorem dX4_wants_1 : decode cX4_wants 1 = .ok (.getfield 44, 3) := by decide +kernel
theorem dX4_wants_4 : decode cX4_wants 4 = .ok (.bipush 10, 2) := by decide +kernel
theorem dX4_wants_6 : decode cX4_wants 6 = .ok (.iload_n 1, 1) := by decide +kernel
theorem dX4_wants_7 : decode cX4_wants 7 = .ok (.imul, 1) := by decide +kernel
theorem dX4_wants_8 : decode cX4_wants 8 = .ok (.aload_n 0, 1) := by decide +kernel
theorem dX4_wants_9 : decode cX4_wants 9 = .ok (.getfield 41, 3) := by decide +kernel
theorem dX4_wants_12 : decode cX4_wants 12 = .ok (.iload_n 1, 1) := by decide +kernel
theorem dX4_wants_13 : decode cX4_wants 13 = .ok (.iaload, 1) := by decide +kernel
theorem dX4_wants_14 : decode cX4_wants 14 = .ok (.iadd, 1) := by decide +kernel
theorem dX4_wants_15 : decode cX4_wants 15 = .ok (.iload_n 2, 1) := by decide +kernel
theorem dX4_wants_16 : decode cX4_wants 16 = .ok (.iastore, 1) := by decide +kernel
theorem dX4_wants_17 : decode cX4_wants 17 = .ok (.aload_n 0, 1) := by decide +kernel
theorem dX4_wants_18 : decode cX4_wants 18 = .ok (.getfield 41, 3) := by decide +kernel
theorem dX4_wants_21 : decode cX4_wants 21 = .ok (.iload_n 1, 1) := by decide +kernel
theorem dX4_wants_22 : decode cX4_wants 22 = .ok (.dup2, 1) := by decide +kernel
theorem dX4_wants_23 : decode cX4_wants 23 = .ok (.iaload, 1) := by decide +kernel
theorem dX4_wants_24 : decode cX4_wants 24 = .ok (.iconst 1, 1) := by decide +kernel
theorem dX4_wants_25 : decode cX4_wants 25 = .ok (.iadd, 1) := by decide +kernel
theorem dX4_wants_26 : decode cX4_wants 26 = .ok (.iastore, 1) := by decide +kernel
theorem dX4_wants_27 : decode cX4_wants 27 = .ok (.return_, 1) := by decide +kernel
theorem dX4_wish_0 : decode cX4_wish 0 = .ok (.aload_n 0, 1) := by decide +kernel
theorem dX4_wish_1 : decode cX4_wish 1 = .ok (.iconst 0, 1) := by decide +kernel
theorem dX4_wish_2 : decode cX4_wish 2 = .ok (.putfield 84, 3) := by decide +kernel
theorem dX4_wish_5 : decode cX4_wish 5 = .ok (.aload_n 0, 1) := by decide +kernel
theorem dX4_wish_6 : decode cX4_wish 6 = .ok (.iconst 0, 1) := by decide +kernel
theorem dX4_wish_7 : decode cX4_wish 7 = .ok (.putfield 98, 3) := by decide +kernel
theorem dX4_wish_10 : decode cX4_wish 10 = .ok (.aload_n 0, 1) := by decide +kernel
theorem dX4_wish_11 : decode cX4_wish 11 = .ok (.iload_n 1, 1) := by decide +kernel
theorem dX4_wish_12 : decode cX4_wish 12 = .ok (.iload_n 2, 1) := by decide +kernel
theorem dX4_wish_13 : decode cX4_wish 13 = .ok (.invokevirtual 107, 3) := by decide +kernel
theorem dX4_wish_16 : decode cX4_wish 16 = .ok (.ifCond .eq 12, 3) := by decide +kernel
theorem dX4_wish_19 : decode cX4_wish 19 = .ok (.aload_n 0, 1) := by decide +kernel
theorem dX4_wish_20 : decode cX4_wish 20 = .ok (.iload_n 1, 1) := by decide +kernel
theorem dX4_wish_21 : decode cX4_wish 21 = .ok (.iload_n 2, 1) := by decide +kernel
theorem dX4_wish_22 : decode cX4_wish 22 = .ok (.invokevirtual 111, 3) := by decide +kernel
theorem dX4_wish_25 : decode cX4_wish 25 = .ok (.ifCond .le 5, 3) := by decide +kernel
theorem dX4_wish_28 : decode cX4_wish 28 = .ok (.iconst (-1), 1) := by decide +kernel
theorem dX4_wish_29 : decode cX4_wish 29 = .ok (.ireturn, 1) := by decide +kernel
