theorem dX0_init_0 : decode cX0_init 0 = .ok (.aload_n 0, 1) := by decide +kernel
theorem dX0_init_1 : decode cX0_init 1 = .ok (.invokespecial 3, 3) := by decide +kernel
theorem dX0_init_4 : decode cX0_init 4 = .ok (.aload_n 0, 1) := by decide +kernel
theorem dX0_init_5 : decode cX0_init 5 = .ok (.bipush 32, 2) := by decide +kernel
theorem dX0_init_7 : decode cX0_init 7 = .ok (.newarray .int, 2) := by decide +kernel
theorem dX0_init_9 : decode cX0_init 9 = .ok (.putfield 11, 3) := by decide +kernel
theorem dX0_init_12 : decode cX0_init 12 = .ok (.return_, 1) := by decide +kernel
theorem dX0_largestSet_0 : decode cX0_largestSet 0 = .ok (.iconst 0, 1) := by decide +kernel
theorem dX0_largestSet_1 : decode cX0_largestSet 1 = .ok (.istore_n 2, 1) := by decide +kernel
theorem dX0_largestSet_2 : decode cX0_largestSet 2 = .ok (.aload_n 0, 1) := by decide +kernel
theorem dX0_largestSet_3 : decode cX0_largestSet 3 = .ok (.getfield 11, 3) := by decide +kernel
theorem dX0_largestSet_6 : decode cX0_largestSet 6 = .ok (.iconst 0, 1) := by decide +kernel
theorem dX0_largestSet_7 : decode cX0_largestSet 7 = .ok (.aload_n 1, 1) := by decide +kernel
theorem dX0_largestSet_8 : decode cX0_largestSet 8 = .ok (.getfield 15, 3) := by decide +kernel
theorem dX0_largestSet_11 : decode cX0_largestSet 11 = .ok (.ineg, 1) := by decide +kernel
theorem dX0_largestSet_12 : decode cX0_largestSet 12 = .ok (.iastore, 1) := by decide +kernel
theorem dX0_largestSet_13 : decode cX0_largestSet 13 = .ok (.iconst 1, 1) := by decide +kernel
theorem dX0_largestSet_14 : decode cX0_largestSet 14 = .ok (.istore_n 3, 1) := by decide +kernel
theorem dX0_largestSet_15 : decode cX0_largestSet 15 = .ok (.iload_n 3, 1) := by decide +kernel
theorem dX0_largestSet_16 : decode cX0_largestSet 16 = .ok (.iconst 1, 1) := by decide +kernel
theorem dX0_largestSet_17 : decode cX0_largestSet 17 = .ok (.aload_n 1, 1) := by decide +kernel
theorem dX0_largestSet_18 : decode cX0_largestSet 18 = .ok (.getfield 21, 3) := by decide +kernel
theorem dX0_largestSet_21 : decode cX0_largestSet 21 = .ok (.ishl, 1) := by decide +kernel
theorem dX0_largestSet_22 : decode cX0_largestSet 22 = .ok (.if_icmp .ge 50, 3) := by decide +kernel
theorem dX0_largestSet_25 : decode cX0_largestSet 25 = .ok (.iload_n 3, 1) := by decide +kernel
theorem dX0_largestSet_26 : decode cX0_largestSet 26 = .ok (.bipush 32, 2) := by decide +kernel
theorem dX0_largestSet_28 : decode cX0_largestSet 28 = .ok (.if_icmp .ge 44, 3) := by decide +kernel
theorem dX0_largestSet_31 : decode cX0_largestSet 31 = .ok (.aload_n 0, 1) := by decide +kernel
theorem dX0_largestSet_32 : decode cX0_largestSet 32 = .ok (.getfield 11, 3) := by decide +kernel
theorem dX0_largestSet_35 : decode cX0_largestSet 35 = .ok (.iload_n 3, 1) := by decide +kernel
theorem dX0_largestSet_36 : decode cX0_largestSet 36 = .ok (.aload_n 0, 1) := by decide +kernel
theorem dX0_largestSet_37 : decode cX0_largestSet 37 = .ok (.aload_n 1, 1) := by decide +kernel
theorem dX0_largestSet_38 : decode cX0_largestSet 38 = .ok (.iload_n 3, 1) := by decide +kernel
theorem dX0_largestSet_39 : decode cX0_largestSet 39 = .ok (.invokevirtual 24, 3) := by decide +kernel
theorem dX0_largestSet_42 : decode cX0_largestSet 42 = .ok (.iastore, 1) := by decide +kernel
theorem dX0_largestSet_43 : decode cX0_largestSet 43 = .ok (.aload_n 0, 1) := by decide +kernel
theorem dX0_largestSet_44 : decode cX0_largestSet 44 = .ok (.getfield 11, 3) := by decide +kernel
theorem dX0_largestSet_47 : decode cX0_largestSet 47 = .ok (.iload_n 3, 1) := by decide +kernel
theorem dX0_largestSet_48 : decode cX0_largestSet 48 = .ok (.iaload, 1) := by decide +kernel
theorem dX0_largestSet_49 : decode cX0_largestSet 49 = .ok (.sipush 1000, 3) := by decide +kernel
theorem dX0_largestSet_52 : decode cX0_largestSet 52 = .ok (.if_icmp .eq 14, 3) := by decide +kernel
theorem dX0_largestSet_55 : decode cX0_largestSet 55 = .ok (.aload_n 1, 1) := by decide +kernel
theorem dX0_largestSet_56 : decode cX0_largestSet 56 = .ok (.iload_n 3, 1) := by decide +kernel
theorem dX0_largestSet_57 : decode cX0_largestSet 57 = .ok (.iload_n 2, 1) := by decide +kernel
theorem dX0_largestSet_58 : decode cX0_largestSet 58 = .ok (.invokestatic 28, 3) := by decide +kernel
theorem dX0_largestSet_61 : decode cX0_largestSet 61 = .ok (.ifCond .eq 5, 3) := by decide +kernel
theorem dX0_largestSet_64 : decode cX0_largestSet 64 = .ok (.iload_n 3, 1) := by decide +kernel
theorem dX0_largestSet_65 : decode cX0_largestSet 65 = .ok (.istore_n 2, 1) := by decide +kernel
theorem dX0_largestSet_66 : decode cX0_largestSet 66 = .ok (.iinc 3 1, 3) := by decide +kernel
theorem dX0_largestSet_69 : decode cX0_largestSet 69 = .ok (.goto (-54), 3) := by decide +kernel
theorem dX0_largestSet_72 : decode cX0_largestSet 72 = .ok (.iload_n 2, 1) := by decide +kernel
theorem dX0_largestSet_73 : decode cX0_largestSet 73 = .ok (.ireturn, 1) := by decide +kernel
theorem dX0_leastEnd_0 : decode cX0_leastEnd 0 = .ok (.sipush 1000, 3) := by decide +kernel
theorem dX0_leastEnd_3 : decode cX0_leastEnd 3 = .ok (.istore_n 3, 1) := by decide +kernel
theorem dX0_leastEnd_4 : decode cX0_leastEnd 4 = .ok (.iconst 0, 1) := by decide +kernel
theorem dX0_leastEnd_5 : decode cX0_leastEnd 5 = .ok (.istore 4, 2) := by decide +kernel
theorem dX0_leastEnd_7 : decode cX0_leastEnd 7 = .ok (.iload 4, 2) := by decide +kernel
theorem dX0_leastEnd_9 : decode cX0_leastEnd 9 = .ok (.aload_n 1, 1) := by decide +kernel
theorem dX0_leastEnd_10 : decode cX0_leastEnd 10 = .ok (.getfield 21, 3) := by decide +kernel
theorem dX0_leastEnd_13 : decode cX0_leastEnd 13 = .ok (.if_icmp .ge 92, 3) := by decide +kernel
theorem dX0_leastEnd_16 : decode cX0_leastEnd 16 = .ok (.iload_n 2, 1) := by decide +kernel
theorem dX0_leastEnd_17 : decode cX0_leastEnd 17 = .ok (.iconst 1, 1) := by decide +kernel
theorem dX0_leastEnd_18 : decode cX0_leastEnd 18 = .ok (.iload 4, 2) := by decide +kernel
theorem dX0_leastEnd_20 : decode cX0_leastEnd 20 = .ok (.ishl, 1) := by decide +kernel
theorem dX0_leastEnd_21 : decode cX0_leastEnd 21 = .ok (.iconst (-1), 1) := by decide +kernel
theorem dX0_leastEnd_22 : decode cX0_leastEnd 22 = .ok (.ixor, 1) := by decide +kernel
theorem dX0_leastEnd_23 : decode cX0_leastEnd 23 = .ok (.iand, 1) := by decide +kernel
theorem dX0_leastEnd_24 : decode cX0_leastEnd 24 = .ok (.istore 5, 2) := by decide +kernel
theorem dX0_leastEnd_26 : decode cX0_leastEnd 26 = .ok (.iload 5, 2) := by decide +kernel
theorem dX0_leastEnd_28 : decode cX0_leastEnd 28 = .ok (.ifCond .lt 71, 3) := by decide +kernel
theorem dX0_leastEnd_31 : decode cX0_leastEnd 31 = .ok (.iload 5, 2) := by decide +kernel
theorem dX0_leastEnd_33 : decode cX0_leastEnd 33 = .ok (.iload_n 2, 1) := by decide +kernel
theorem dX0_leastEnd_34 : decode cX0_leastEnd 34 = .ok (.if_icmp .ge 65, 3) := by decide +kernel
theorem dX0_leastEnd_37 : decode cX0_leastEnd 37 = .ok (.iload 5, 2) := by decide +kernel
theorem dX0_leastEnd_39 : decode cX0_leastEnd 39 = .ok (.bipush 32, 2) := by decide +kernel
theorem dX0_leastEnd_41 : decode cX0_leastEnd 41 = .ok (.if_icmp .ge 58, 3) := by decide +kernel
theorem dX0_leastEnd_44 : decode cX0_leastEnd 44 = .ok (.aload_n 0, 1) := by decide +kernel
theorem dX0_leastEnd_45 : decode cX0_leastEnd 45 = .ok (.getfield 11, 3) := by decide +kernel
theorem dX0_leastEnd_48 : decode cX0_leastEnd 48 = .ok (.iload 5, 2) := by decide +kernel
theorem dX0_leastEnd_50 : decode cX0_leastEnd 50 = .ok (.iaload, 1) := by decide +kernel
theorem dX0_leastEnd_51 : decode cX0_leastEnd 51 = .ok (.sipush 1000, 3) := by decide +kernel
theorem dX0_leastEnd_54 : decode cX0_leastEnd 54 = .ok (.if_icmp .eq 45, 3) := by decide +kernel
theorem dX0_leastEnd_57 : decode cX0_leastEnd 57 = .ok (.aload_n 1, 1) := by decide +kernel
theorem dX0_leastEnd_58 : decode cX0_leastEnd 58 = .ok (.iload 4, 2) := by decide +kernel
theorem dX0_leastEnd_60 : decode cX0_leastEnd 60 = .ok (.aload_n 0, 1) := by decide +kernel
theorem dX0_leastEnd_61 : decode cX0_leastEnd 61 = .ok (.getfield 11, 3) := by decide +kernel
theorem dX0_leastEnd_64 : decode cX0_leastEnd 64 = .ok (.iload 5, 2) := by decide +kernel
theorem dX0_leastEnd_66 : decode cX0_leastEnd 66 = .ok (.iaload, 1) := by decide +kernel
theorem dX0_leastEnd_67 : decode cX0_leastEnd 67 = .ok (.aload_n 1, 1) := by decide +kernel
theorem dX0_leastEnd_68 : decode cX0_leastEnd 68 = .ok (.getfield 15, 3) := by decide +kernel
theorem dX0_leastEnd_71 : decode cX0_leastEnd 71 = .ok (.iadd, 1) := by decide +kernel
theorem dX0_leastEnd_72 : decode cX0_leastEnd 72 = .ok (.invokevirtual 32, 3) := by decide +kernel
theorem dX0_leastEnd_75 : decode cX0_leastEnd 75 = .ok (.istore 6, 2) := by decide +kernel
theorem dX0_leastEnd_77 : decode cX0_leastEnd 77 = .ok (.iload 6, 2) := by decide +kernel
theorem dX0_leastEnd_79 : decode cX0_leastEnd 79 = .ok (.bipush (-9), 2) := by decide +kernel
theorem dX0_leastEnd_81 : decode cX0_leastEnd 81 = .ok (.if_icmp .eq 18, 3) := by decide +kernel
theorem dX0_leastEnd_84 : decode cX0_leastEnd 84 = .ok (.iload_n 3, 1) := by decide +kernel
theorem dX0_leastEnd_85 : decode cX0_leastEnd 85 = .ok (.iload 6, 2) := by decide +kernel
theorem dX0_leastEnd_87 : decode cX0_leastEnd 87 = .ok (.aload_n 1, 1) := by decide +kernel
theorem dX0_leastEnd_88 : decode cX0_leastEnd 88 = .ok (.getfield 36, 3) := by decide +kernel
theorem dX0_leastEnd_91 : decode cX0_leastEnd 91 = .ok (.iload 4, 2) := by decide +kernel
theorem dX0_leastEnd_93 : decode cX0_leastEnd 93 = .ok (.iaload, 1) := by decide +kernel
theorem dX0_leastEnd_94 : decode cX0_leastEnd 94 = .ok (.iadd, 1) := by decide +kernel
theorem dX0_leastEnd_95 : decode cX0_leastEnd 95 = .ok (.invokestatic 39, 3) := by decide +kernel
theorem dX0_leastEnd_98 : decode cX0_leastEnd 98 = .ok (.istore_n 3, 1) := by decide +kernel
theorem dX0_leastEnd_99 : decode cX0_leastEnd 99 = .ok (.iinc 4 1, 3) := by decide +kernel
theorem dX0_leastEnd_102 : decode cX0_leastEnd 102 = .ok (.goto (-95), 3) := by decide +kernel
theorem dX0_leastEnd_105 : decode cX0_leastEnd 105 = .ok (.iload_n 3, 1) := by decide +kernel
theorem dX0_leastEnd_106 : decode cX0_leastEnd 106 = .ok (.ireturn, 1) := by decide +kernel
theorem dX0_isBetter_0 : decode cX0_isBetter 0 = .ok (.iload_n 1, 1) := by decide +kernel
theorem dX0_isBetter_1 : decode cX0_isBetter 1 = .ok (.invokestatic 44, 3) := by decide +kernel
theorem dX0_isBetter_4 : decode cX0_isBetter 4 = .ok (.iload_n 2, 1) := by decide +kernel
theorem dX0_isBetter_5 : decode cX0_isBetter 5 = .ok (.invokestatic 44, 3) := by decide +kernel
theorem dX0_isBetter_8 : decode cX0_isBetter 8 = .ok (.isub, 1) := by decide +kernel
theorem dX0_isBetter_9 : decode cX0_isBetter 9 = .ok (.istore_n 3, 1) := by decide +kernel
theorem dX0_isBetter_10 : decode cX0_isBetter 10 = .ok (.iload_n 3, 1) := by decide +kernel
theorem dX0_isBetter_11 : decode cX0_isBetter 11 = .ok (.ifCond .gt 20, 3) := by decide +kernel
theorem dX0_isBetter_14 : decode cX0_isBetter 14 = .ok (.iload_n 3, 1) := by decide +kernel
theorem dX0_isBetter_15 : decode cX0_isBetter 15 = .ok (.ifCond .ne 20, 3) := by decide +kernel
theorem dX0_isBetter_18 : decode cX0_isBetter 18 = .ok (.aload_n 0, 1) := by decide +kernel
theorem dX0_isBetter_19 : decode cX0_isBetter 19 = .ok (.iload_n 1, 1) := by decide +kernel
theorem dX0_isBetter_20 : decode cX0_isBetter 20 = .ok (.invokestatic 50, 3) := by decide +kernel
theorem dX0_isBetter_23 : decode cX0_isBetter 23 = .ok (.aload_n 0, 1) := by decide +kernel
theorem dX0_isBetter_24 : decode cX0_isBetter 24 = .ok (.iload_n 2, 1) := by decide +kernel
theorem dX0_isBetter_25 : decode cX0_isBetter 25 = .ok (.invokestatic 50, 3) := by decide +kernel
theorem dX0_isBetter_28 : decode cX0_isBetter 28 = .ok (.if_icmp .le 7, 3) := by decide +kernel
theorem dX0_isBetter_31 : decode cX0_isBetter 31 = .ok (.iconst 1, 1) := by decide +kernel
theorem dX0_isBetter_32 : decode cX0_isBetter 32 = .ok (.goto 4, 3) := by decide +kernel
theorem dX0_isBetter_35 : decode cX0_isBetter 35 = .ok (.iconst 0, 1) := by decide +kernel
theorem dX0_isBetter_36 : decode cX0_isBetter 36 = .ok (.ireturn, 1) := by decide +kernel
theorem dX0_weightOf_0 : decode cX0_weightOf 0 = .ok (.iconst 0, 1) := by decide +kernel
theorem dX0_weightOf_1 : decode cX0_weightOf 1 = .ok (.istore_n 2, 1) := by decide +kernel
theorem dX0_weightOf_2 : decode cX0_weightOf 2 = .ok (.iconst 0, 1) := by decide +kernel
theorem dX0_weightOf_3 : decode cX0_weightOf 3 = .ok (.istore_n 3, 1) := by decide +kernel
theorem dX0_weightOf_4 : decode cX0_weightOf 4 = .ok (.iload_n 3, 1) := by decide +kernel
theorem dX0_weightOf_5 : decode cX0_weightOf 5 = .ok (.aload_n 0, 1) := by decide +kernel
theorem dX0_weightOf_6 : decode cX0_weightOf 6 = .ok (.getfield 21, 3) := by decide +kernel
theorem dX0_weightOf_9 : decode cX0_weightOf 9 = .ok (.if_icmp .ge 26, 3) := by decide +kernel
theorem dX0_weightOf_12 : decode cX0_weightOf 12 = .ok (.iload_n 1, 1) := by decide +kernel
theorem dX0_weightOf_13 : decode cX0_weightOf 13 = .ok (.iconst 1, 1) := by decide +kernel
theorem dX0_weightOf_14 : decode cX0_weightOf 14 = .ok (.iload_n 3, 1) := by decide +kernel
theorem dX0_weightOf_15 : decode cX0_weightOf 15 = .ok (.ishl, 1) := by decide +kernel
theorem dX0_weightOf_16 : decode cX0_weightOf 16 = .ok (.iand, 1) := by decide +kernel
theorem dX0_weightOf_17 : decode cX0_weightOf 17 = .ok (.ifCond .eq 12, 3) := by decide +kernel
theorem dX0_weightOf_20 : decode cX0_weightOf 20 = .ok (.iload_n 2, 1) := by decide +kernel
theorem dX0_weightOf_21 : decode cX0_weightOf 21 = .ok (.aload_n 0, 1) := by decide +kernel
theorem dX0_weightOf_22 : decode cX0_weightOf 22 = .ok (.getfield 53, 3) := by decide +kernel
theorem dX0_weightOf_25 : decode cX0_weightOf 25 = .ok (.iload_n 3, 1) := by decide +kernel
theorem dX0_weightOf_26 : decode cX0_weightOf 26 = .ok (.iaload, 1) := by decide +kernel
theorem dX0_weightOf_27 : decode cX0_weightOf 27 = .ok (.iadd, 1) := by decide +kernel
theorem dX0_weightOf_28 : decode cX0_weightOf 28 = .ok (.istore_n 2, 1) := by decide +kernel
theorem dX0_weightOf_29 : decode cX0_weightOf 29 = .ok (.iinc 3 1, 3) := by decide +kernel
theorem dX0_weightOf_32 : decode cX0_weightOf 32 = .ok (.goto (-28), 3) := by decide +kernel
theorem dX0_weightOf_35 : decode cX0_weightOf 35 = .ok (.iload_n 2, 1) := by decide +kernel
theorem dX0_weightOf_36 : decode cX0_weightOf 36 = .ok (.ireturn, 1) := by decide +kernel
theorem dX1_init_0 : decode cX1_init 0 = .ok (.aload_n 0, 1) := by decide +kernel
theorem dX1_init_1 : decode cX1_init 1 = .ok (.invokespecial 3, 3) := by decide +kernel
theorem dX1_init_4 : decode cX1_init 4 = .ok (.aload_n 0, 1) := by decide +kernel
theorem dX1_init_5 : decode cX1_init 5 = .ok (.bipush 6, 2) := by decide +kernel
theorem dX1_init_7 : decode cX1_init 7 = .ok (.anewarray 9, 3) := by decide +kernel
theorem dX1_init_10 : decode cX1_init 10 = .ok (.putfield 11, 3) := by decide +kernel
theorem dX1_init_13 : decode cX1_init 13 = .ok (.iconst 0, 1) := by decide +kernel
theorem dX1_init_14 : decode cX1_init 14 = .ok (.istore_n 1, 1) := by decide +kernel
theorem dX1_init_15 : decode cX1_init 15 = .ok (.iload_n 1, 1) := by decide +kernel
theorem dX1_init_16 : decode cX1_init 16 = .ok (.bipush 6, 2) := by decide +kernel
theorem dX1_init_18 : decode cX1_init 18 = .ok (.if_icmp .ge 22, 3) := by decide +kernel
theorem dX1_init_21 : decode cX1_init 21 = .ok (.aload_n 0, 1) := by decide +kernel
theorem dX1_init_22 : decode cX1_init 22 = .ok (.getfield 11, 3) := by decide +kernel
theorem dX1_init_25 : decode cX1_init 25 = .ok (.iload_n 1, 1) := by decide +kernel
theorem dX1_init_26 : decode cX1_init 26 = .ok (.new 9, 3) := by decide +kernel
theorem dX1_init_29 : decode cX1_init 29 = .ok (.dup, 1) := by decide +kernel
theorem dX1_init_30 : decode cX1_init 30 = .ok (.invokespecial 17, 3) := by decide +kernel
theorem dX1_init_33 : decode cX1_init 33 = .ok (.aastore, 1) := by decide +kernel
theorem dX1_init_34 : decode cX1_init 34 = .ok (.iinc 1 1, 3) := by decide +kernel
theorem dX1_init_37 : decode cX1_init 37 = .ok (.goto (-22), 3) := by decide +kernel
theorem dX1_init_40 : decode cX1_init 40 = .ok (.return_, 1) := by decide +kernel
theorem dX1_add_0 : decode cX1_add 0 = .ok (.aload_n 0, 1) := by decide +kernel
theorem dX1_add_1 : decode cX1_add 1 = .ok (.getfield 18, 3) := by decide +kernel
theorem dX1_add_4 : decode cX1_add 4 = .ok (.bipush 6, 2) := by decide +kernel
theorem dX1_add_6 : decode cX1_add 6 = .ok (.if_icmp .lt 7, 3) := by decide +kernel
theorem dX1_add_9 : decode cX1_add 9 = .ok (.aload_n 0, 1) := by decide +kernel
theorem dX1_add_10 : decode cX1_add 10 = .ok (.invokevirtual 22, 3) := by decide +kernel
theorem dX1_add_13 : decode cX1_add 13 = .ok (.aload_n 0, 1) := by decide +kernel
theorem dX1_add_14 : decode cX1_add 14 = .ok (.getfield 11, 3) := by decide +kernel
theorem dX1_add_17 : decode cX1_add 17 = .ok (.aload_n 0, 1) := by decide +kernel
theorem dX1_add_18 : decode cX1_add 18 = .ok (.getfield 18, 3) := by decide +kernel
theorem dX1_add_21 : decode cX1_add 21 = .ok (.aaload, 1) := by decide +kernel
theorem dX1_add_22 : decode cX1_add 22 = .ok (.aload_n 1, 1) := by decide +kernel
theorem dX1_add_23 : decode cX1_add 23 = .ok (.invokevirtual 25, 3) := by decide +kernel
theorem dX1_add_26 : decode cX1_add 26 = .ok (.aload_n 0, 1) := by decide +kernel
theorem dX1_add_27 : decode cX1_add 27 = .ok (.dup, 1) := by decide +kernel
theorem dX1_add_28 : decode cX1_add 28 = .ok (.getfield 18, 3) := by decide +kernel
theorem dX1_add_31 : decode cX1_add 31 = .ok (.iconst 1, 1) := by decide +kernel
theorem dX1_add_32 : decode cX1_add 32 = .ok (.iadd, 1) := by decide +kernel
theorem dX1_add_33 : decode cX1_add 33 = .ok (.putfield 18, 3) := by decide +kernel
theorem dX1_add_36 : decode cX1_add 36 = .ok (.return_, 1) := by decide +kernel
theorem dX1_loseOldest_0 : decode cX1_loseOldest 0 = .ok (.aload_n 0, 1) := by decide +kernel
theorem dX1_loseOldest_1 : decode cX1_loseOldest 1 = .ok (.getfield 11, 3) := by decide +kernel
theorem dX1_loseOldest_4 : decode cX1_loseOldest 4 = .ok (.iconst 0, 1) := by decide +kernel
theorem dX1_loseOldest_5 : decode cX1_loseOldest 5 = .ok (.aaload, 1) := by decide +kernel
theorem dX1_loseOldest_6 : decode cX1_loseOldest 6 = .ok (.astore_n 1, 1) := by decide +kernel
theorem dX1_loseOldest_7 : decode cX1_loseOldest 7 = .ok (.iconst 1, 1) := by decide +kernel
theorem dX1_loseOldest_8 : decode cX1_loseOldest 8 = .ok (.istore_n 2, 1) := by decide +kernel
theorem dX1_loseOldest_9 : decode cX1_loseOldest 9 = .ok (.iload_n 2, 1) := by decide +kernel
theorem dX1_loseOldest_10 : decode cX1_loseOldest 10 = .ok (.bipush 6, 2) := by decide +kernel
theorem dX1_loseOldest_12 : decode cX1_loseOldest 12 = .ok (.if_icmp .ge 23, 3) := by decide +kernel
theorem dX1_loseOldest_15 : decode cX1_loseOldest 15 = .ok (.aload_n 0, 1) := by decide +kernel
theorem dX1_loseOldest_16 : decode cX1_loseOldest 16 = .ok (.getfield 11, 3) := by decide +kernel
theorem dX1_loseOldest_19 : decode cX1_loseOldest 19 = .ok (.iload_n 2, 1) := by decide +kernel
theorem dX1_loseOldest_20 : decode cX1_loseOldest 20 = .ok (.iconst 1, 1) := by decide +kernel
theorem dX1_loseOldest_21 : decode cX1_loseOldest 21 = .ok (.isub, 1) := by decide +kernel
theorem dX1_loseOldest_22 : decode cX1_loseOldest 22 = .ok (.aload_n 0, 1) := by decide +kernel
theorem dX1_loseOldest_23 : decode cX1_loseOldest 23 = .ok (.getfield 11, 3) := by decide +kernel
theorem dX1_loseOldest_26 : decode cX1_loseOldest 26 = .ok (.iload_n 2, 1) := by decide +kernel
theorem dX1_loseOldest_27 : decode cX1_loseOldest 27 = .ok (.aaload, 1) := by decide +kernel
theorem dX1_loseOldest_28 : decode cX1_loseOldest 28 = .ok (.aastore, 1) := by decide +kernel
theorem dX1_loseOldest_29 : decode cX1_loseOldest 29 = .ok (.iinc 2 1, 3) := by decide +kernel
theorem dX1_loseOldest_32 : decode cX1_loseOldest 32 = .ok (.goto (-23), 3) := by decide +kernel
theorem dX1_loseOldest_35 : decode cX1_loseOldest 35 = .ok (.aload_n 0, 1) := by decide +kernel
theorem dX1_loseOldest_36 : decode cX1_loseOldest 36 = .ok (.getfield 11, 3) := by decide +kernel
theorem dX1_loseOldest_39 : decode cX1_loseOldest 39 = .ok (.iconst 5, 1) := by decide +kernel
theorem dX1_loseOldest_40 : decode cX1_loseOldest 40 = .ok (.aload_n 1, 1) := by decide +kernel
theorem dX1_loseOldest_41 : decode cX1_loseOldest 41 = .ok (.aastore, 1) := by decide +kernel
theorem dX1_loseOldest_42 : decode cX1_loseOldest 42 = .ok (.aload_n 0, 1) := by decide +kernel
theorem dX1_loseOldest_43 : decode cX1_loseOldest 43 = .ok (.iconst 5, 1) := by decide +kernel
theorem dX1_loseOldest_44 : decode cX1_loseOldest 44 = .ok (.putfield 18, 3) := by decide +kernel
theorem dX1_loseOldest_47 : decode cX1_loseOldest 47 = .ok (.return_, 1) := by decide +kernel
theorem dX1_giveLatestTo_0 : decode cX1_giveLatestTo 0 = .ok (.aload_n 0, 1) := by decide +kernel
theorem dX1_giveLatestTo_1 : decode cX1_giveLatestTo 1 = .ok (.getfield 18, 3) := by decide +kernel
theorem dX1_giveLatestTo_4 : decode cX1_giveLatestTo 4 = .ok (.ifCond .gt 5, 3) := by decide +kernel
theorem dX1_giveLatestTo_7 : decode cX1_giveLatestTo 7 = .ok (.iconst 0, 1) := by decide +kernel
theorem dX1_giveLatestTo_8 : decode cX1_giveLatestTo 8 = .ok (.ireturn, 1) := by decide +kernel
theorem dX1_giveLatestTo_9 : decode cX1_giveLatestTo 9 = .ok (.aload_n 0, 1) := by decide +kernel
theorem dX1_giveLatestTo_10 : decode cX1_giveLatestTo 10 = .ok (.dup, 1) := by decide +kernel
theorem dX1_giveLatestTo_11 : decode cX1_giveLatestTo 11 = .ok (.getfield 18, 3) := by decide +kernel
theorem dX1_giveLatestTo_14 : decode cX1_giveLatestTo 14 = .ok (.iconst 1, 1) := by decide +kernel
theorem dX1_giveLatestTo_15 : decode cX1_giveLatestTo 15 = .ok (.isub, 1) := by decide +kernel
theorem dX1_giveLatestTo_16 : decode cX1_giveLatestTo 16 = .ok (.putfield 18, 3) := by decide +kernel
theorem dX1_giveLatestTo_19 : decode cX1_giveLatestTo 19 = .ok (.aload_n 1, 1) := by decide +kernel
theorem dX1_giveLatestTo_20 : decode cX1_giveLatestTo 20 = .ok (.aload_n 0, 1) := by decide +kernel
theorem dX1_giveLatestTo_21 : decode cX1_giveLatestTo 21 = .ok (.getfield 11, 3) := by decide +kernel
theorem dX1_giveLatestTo_24 : decode cX1_giveLatestTo 24 = .ok (.aload_n 0, 1) := by decide +kernel
theorem dX1_giveLatestTo_25 : decode cX1_giveLatestTo 25 = .ok (.getfield 18, 3) := by decide +kernel
theorem dX1_giveLatestTo_28 : decode cX1_giveLatestTo 28 = .ok (.aaload, 1) := by decide +kernel
theorem dX1_giveLatestTo_29 : decode cX1_giveLatestTo 29 = .ok (.invokevirtual 25, 3) := by decide +kernel
theorem dX1_giveLatestTo_32 : decode cX1_giveLatestTo 32 = .ok (.iconst 1, 1) := by decide +kernel
theorem dX1_giveLatestTo_33 : decode cX1_giveLatestTo 33 = .ok (.ireturn, 1) := by decide +kernel
theorem dX2_init_0 : decode cX2_init 0 = .ok (.aload_n 0, 1) := by decide +kernel
theorem dX2_init_1 : decode cX2_init 1 = .ok (.invokespecial 3, 3) := by decide +kernel
theorem dX2_init_4 : decode cX2_init 4 = .ok (.aload_n 0, 1) := by decide +kernel
theorem dX2_init_5 : decode cX2_init 5 = .ok (.new 9, 3) := by decide +kernel
theorem dX2_init_8 : decode cX2_init 8 = .ok (.dup, 1) := by decide +kernel
theorem dX2_init_9 : decode cX2_init 9 = .ok (.invokespecial 11, 3) := by decide +kernel
theorem dX2_init_12 : decode cX2_init 12 = .ok (.putfield 12, 3) := by decide +kernel
theorem dX2_init_15 : decode cX2_init 15 = .ok (.return_, 1) := by decide +kernel
theorem dX2_readInto_0 : decode cX2_readInto 0 = .ok (.aload_n 0, 1) := by decide +kernel
theorem dX2_readInto_1 : decode cX2_readInto 1 = .ok (.getfield 12, 3) := by decide +kernel
theorem dX2_readInto_4 : decode cX2_readInto 4 = .ok (.aload_n 2, 1) := by decide +kernel
theorem dX2_readInto_5 : decode cX2_readInto 5 = .ok (.iload_n 3, 1) := by decide +kernel
theorem dX2_readInto_6 : decode cX2_readInto 6 = .ok (.invokevirtual 18, 3) := by decide +kernel
theorem dX2_readInto_9 : decode cX2_readInto 9 = .ok (.aload_n 0, 1) := by decide +kernel
theorem dX2_readInto_10 : decode cX2_readInto 10 = .ok (.iconst 0, 1) := by decide +kernel
theorem dX2_readInto_11 : decode cX2_readInto 11 = .ok (.putfield 22, 3) := by decide +kernel
theorem dX2_readInto_14 : decode cX2_readInto 14 = .ok (.aload_n 0, 1) := by decide +kernel
theorem dX2_readInto_15 : decode cX2_readInto 15 = .ok (.iconst 0, 1) := by decide +kernel
theorem dX2_readInto_16 : decode cX2_readInto 16 = .ok (.putfield 26, 3) := by decide +kernel
theorem dX2_readInto_19 : decode cX2_readInto 19 = .ok (.aload_n 1, 1) := by decide +kernel
theorem dX2_readInto_20 : decode cX2_readInto 20 = .ok (.invokevirtual 30, 3) := by decide +kernel
theorem dX2_readInto_23 : decode cX2_readInto 23 = .ok (.iconst 0, 1) := by decide +kernel
theorem dX2_readInto_24 : decode cX2_readInto 24 = .ok (.istore 4, 2) := by decide +kernel
theorem dX2_readInto_26 : decode cX2_readInto 26 = .ok (.iload 4, 2) := by decide +kernel
theorem dX2_readInto_28 : decode cX2_readInto 28 = .ok (.bipush 120, 2) := by decide +kernel
theorem dX2_readInto_30 : decode cX2_readInto 30 = .ok (.if_icmp .gt 41, 3) := by decide +kernel
theorem dX2_readInto_33 : decode cX2_readInto 33 = .ok (.aload_n 0, 1) := by decide +kernel
theorem dX2_readInto_34 : decode cX2_readInto 34 = .ok (.invokevirtual 35, 3) := by decide +kernel
theorem dX2_readInto_37 : decode cX2_readInto 37 = .ok (.aload_n 0, 1) := by decide +kernel
theorem dX2_readInto_38 : decode cX2_readInto 38 = .ok (.getfield 38, 3) := by decide +kernel
theorem dX2_readInto_41 : decode cX2_readInto 41 = .ok (.ifCond .ne 6, 3) := by decide +kernel
theorem dX2_readInto_44 : decode cX2_readInto 44 = .ok (.iload 4, 2) := by decide +kernel
theorem dX2_readInto_46 : decode cX2_readInto 46 = .ok (.ireturn, 1) := by decide +kernel
theorem dX2_readInto_47 : decode cX2_readInto 47 = .ok (.aload_n 0, 1) := by decide +kernel
theorem dX2_readInto_48 : decode cX2_readInto 48 = .ok (.aload_n 1, 1) := by decide +kernel
theorem dX2_readInto_49 : decode cX2_readInto 49 = .ok (.invokevirtual 41, 3) := by decide +kernel
theorem dX2_readInto_52 : decode cX2_readInto 52 = .ok (.ifCond .eq 19, 3) := by decide +kernel
theorem dX2_readInto_55 : decode cX2_readInto 55 = .ok (.aload_n 0, 1) := by decide +kernel
theorem dX2_readInto_56 : decode cX2_readInto 56 = .ok (.invokevirtual 45, 3) := by decide +kernel
theorem dX2_readInto_59 : decode cX2_readInto 59 = .ok (.ifCond .ne 6, 3) := by decide +kernel
theorem dX2_readInto_62 : decode cX2_readInto 62 = .ok (.goto 9, 3) := by decide +kernel
theorem dX2_readInto_65 : decode cX2_readInto 65 = .ok (.iinc 4 1, 3) := by decide +kernel
theorem dX2_readInto_68 : decode cX2_readInto 68 = .ok (.goto (-42), 3) := by decide +kernel
theorem dX2_readInto_71 : decode cX2_readInto 71 = .ok (.bipush (-10), 2) := by decide +kernel
theorem dX2_readInto_73 : decode cX2_readInto 73 = .ok (.aload_n 0, 1) := by decide +kernel
theorem dX2_readInto_74 : decode cX2_readInto 74 = .ok (.getfield 49, 3) := by decide +kernel
theorem dX2_readInto_77 : decode cX2_readInto 77 = .ok (.isub, 1) := by decide +kernel
theorem dX2_readInto_78 : decode cX2_readInto 78 = .ok (.ireturn, 1) := by decide +kernel
theorem dX2_readToken_0 : decode cX2_readToken 0 = .ok (.aload_n 0, 1) := by decide +kernel
theorem dX2_readToken_1 : decode cX2_readToken 1 = .ok (.getfield 22, 3) := by decide +kernel
theorem dX2_readToken_4 : decode cX2_readToken 4 = .ok (.ifCond .lt 75, 3) := by decide +kernel
theorem dX2_readToken_7 : decode cX2_readToken 7 = .ok (.aload_n 0, 1) := by decide +kernel
theorem dX2_readToken_8 : decode cX2_readToken 8 = .ok (.getfield 22, 3) := by decide +kernel
theorem dX2_readToken_11 : decode cX2_readToken 11 = .ok (.aload_n 0, 1) := by decide +kernel
theorem dX2_readToken_12 : decode cX2_readToken 12 = .ok (.getfield 12, 3) := by decide +kernel
theorem dX2_readToken_15 : decode cX2_readToken 15 = .ok (.getfield 52, 3) := by decide +kernel
theorem dX2_readToken_18 : decode cX2_readToken 18 = .ok (.if_icmp .ge 61, 3) := by decide +kernel
theorem dX2_readToken_21 : decode cX2_readToken 21 = .ok (.aload_n 0, 1) := by decide +kernel
theorem dX2_readToken_22 : decode cX2_readToken 22 = .ok (.aload_n 0, 1) := by decide +kernel
theorem dX2_readToken_23 : decode cX2_readToken 23 = .ok (.getfield 12, 3) := by decide +kernel
theorem dX2_readToken_26 : decode cX2_readToken 26 = .ok (.getfield 55, 3) := by decide +kernel
theorem dX2_readToken_29 : decode cX2_readToken 29 = .ok (.aload_n 0, 1) := by decide +kernel
theorem dX2_readToken_30 : decode cX2_readToken 30 = .ok (.getfield 22, 3) := by decide +kernel
theorem dX2_readToken_33 : decode cX2_readToken 33 = .ok (.iaload, 1) := by decide +kernel
theorem dX2_readToken_34 : decode cX2_readToken 34 = .ok (.putfield 38, 3) := by decide +kernel
theorem dX2_readToken_37 : decode cX2_readToken 37 = .ok (.aload_n 0, 1) := by decide +kernel
theorem dX2_readToken_38 : decode cX2_readToken 38 = .ok (.aload_n 0, 1) := by decide +kernel
theorem dX2_readToken_39 : decode cX2_readToken 39 = .ok (.getfield 12, 3) := by decide +kernel
theorem dX2_readToken_42 : decode cX2_readToken 42 = .ok (.getfield 59, 3) := by decide +kernel
theorem dX2_readToken_45 : decode cX2_readToken 45 = .ok (.aload_n 0, 1) := by decide +kernel
theorem dX2_readToken_46 : decode cX2_readToken 46 = .ok (.getfield 22, 3) := by decide +kernel
theorem dX2_readToken_49 : decode cX2_readToken 49 = .ok (.iaload, 1) := by decide +kernel
theorem dX2_readToken_50 : decode cX2_readToken 50 = .ok (.putfield 49, 3) := by decide +kernel
theorem dX2_readToken_53 : decode cX2_readToken 53 = .ok (.aload_n 0, 1) := by decide +kernel
theorem dX2_readToken_54 : decode cX2_readToken 54 = .ok (.aload_n 0, 1) := by decide +kernel
theorem dX2_readToken_55 : decode cX2_readToken 55 = .ok (.getfield 12, 3) := by decide +kernel
theorem dX2_readToken_58 : decode cX2_readToken 58 = .ok (.getfield 62, 3) := by decide +kernel
theorem dX2_readToken_61 : decode cX2_readToken 61 = .ok (.aload_n 0, 1) := by decide +kernel
theorem dX2_readToken_62 : decode cX2_readToken 62 = .ok (.getfield 22, 3) := by decide +kernel
theorem dX2_readToken_65 : decode cX2_readToken 65 = .ok (.iaload, 1) := by decide +kernel
theorem dX2_readToken_66 : decode cX2_readToken 66 = .ok (.putfield 65, 3) := by decide +kernel
theorem dX2_readToken_69 : decode cX2_readToken 69 = .ok (.aload_n 0, 1) := by decide +kernel
theorem dX2_readToken_70 : decode cX2_readToken 70 = .ok (.dup, 1) := by decide +kernel
theorem dX2_readToken_71 : decode cX2_readToken 71 = .ok (.getfield 22, 3) := by decide +kernel
theorem dX2_readToken_74 : decode cX2_readToken 74 = .ok (.iconst 1, 1) := by decide +kernel
theorem dX2_readToken_75 : decode cX2_readToken 75 = .ok (.iadd, 1) := by decide +kernel
theorem dX2_readToken_76 : decode cX2_readToken 76 = .ok (.putfield 22, 3) := by decide +kernel
theorem dX2_readToken_79 : decode cX2_readToken 79 = .ok (.return_, 1) := by decide +kernel
theorem dX2_readSemicolon_0 : decode cX2_readSemicolon 0 = .ok (.aload_n 0, 1) := by decide +kernel
theorem dX2_readSemicolon_1 : decode cX2_readSemicolon 1 = .ok (.invokevirtual 35, 3) := by decide +kernel
theorem dX2_readSemicolon_4 : decode cX2_readSemicolon 4 = .ok (.aload_n 0, 1) := by decide +kernel
theorem dX2_readSemicolon_5 : decode cX2_readSemicolon 5 = .ok (.getfield 38, 3) := by decide +kernel
theorem dX2_readSemicolon_8 : decode cX2_readSemicolon 8 = .ok (.iconst 3, 1) := by decide +kernel
theorem dX2_readSemicolon_9 : decode cX2_readSemicolon 9 = .ok (.if_icmp .ne 7, 3) := by decide +kernel
theorem dX2_readSemicolon_12 : decode cX2_readSemicolon 12 = .ok (.iconst 1, 1) := by decide +kernel
theorem dX2_readSemicolon_13 : decode cX2_readSemicolon 13 = .ok (.goto 4, 3) := by decide +kernel
theorem dX2_readSemicolon_16 : decode cX2_readSemicolon 16 = .ok (.iconst 0, 1) := by decide +kernel
theorem dX2_readSemicolon_17 : decode cX2_readSemicolon 17 = .ok (.ireturn, 1) := by decide +kernel
theorem dX2_readNumber_0 : decode cX2_readNumber 0 = .ok (.aload_n 0, 1) := by decide +kernel
theorem dX2_readNumber_1 : decode cX2_readNumber 1 = .ok (.invokevirtual 35, 3) := by decide +kernel
theorem dX2_readNumber_4 : decode cX2_readNumber 4 = .ok (.aload_n 0, 1) := by decide +kernel
theorem dX2_readNumber_5 : decode cX2_readNumber 5 = .ok (.getfield 38, 3) := by decide +kernel
theorem dX2_readNumber_8 : decode cX2_readNumber 8 = .ok (.iconst 2, 1) := by decide +kernel
theorem dX2_readNumber_9 : decode cX2_readNumber 9 = .ok (.if_icmp .ne 23, 3) := by decide +kernel
theorem dX2_readNumber_12 : decode cX2_readNumber 12 = .ok (.aload_n 0, 1) := by decide +kernel
theorem dX2_readNumber_13 : decode cX2_readNumber 13 = .ok (.getfield 65, 3) := by decide +kernel
theorem dX2_readNumber_16 : decode cX2_readNumber 16 = .ok (.iload_n 1, 1) := by decide +kernel
theorem dX2_readNumber_17 : decode cX2_readNumber 17 = .ok (.if_icmp .lt 15, 3) := by decide +kernel
theorem dX2_readNumber_20 : decode cX2_readNumber 20 = .ok (.aload_n 0, 1) := by decide +kernel
theorem dX2_readNumber_21 : decode cX2_readNumber 21 = .ok (.getfield 65, 3) := by decide +kernel
theorem dX2_readNumber_24 : decode cX2_readNumber 24 = .ok (.iload_n 2, 1) := by decide +kernel
theorem dX2_readNumber_25 : decode cX2_readNumber 25 = .ok (.if_icmp .gt 7, 3) := by decide +kernel
theorem dX2_readNumber_28 : decode cX2_readNumber 28 = .ok (.iconst 1, 1) := by decide +kernel
theorem dX2_readNumber_29 : decode cX2_readNumber 29 = .ok (.goto 4, 3) := by decide +kernel
theorem dX2_readNumber_32 : decode cX2_readNumber 32 = .ok (.iconst 0, 1) := by decide +kernel
theorem dX2_readNumber_33 : decode cX2_readNumber 33 = .ok (.ireturn, 1) := by decide +kernel
theorem dX2_readItem_0 : decode cX2_readItem 0 = .ok (.aload_n 0, 1) := by decide +kernel
theorem dX2_readItem_1 : decode cX2_readItem 1 = .ok (.getfield 38, 3) := by decide +kernel
theorem dX2_readItem_4 : decode cX2_readItem 4 = .ok (.tableswitch 120 4 7 #[32, 53, 75, 97], 32) := by decide +kernel
theorem dX2_readItem_36 : decode cX2_readItem 36 = .ok (.aload_n 0, 1) := by decide +kernel
theorem dX2_readItem_37 : decode cX2_readItem 37 = .ok (.getfield 26, 3) := by decide +kernel
theorem dX2_readItem_40 : decode cX2_readItem 40 = .ok (.ifCond .ne 15, 3) := by decide +kernel
theorem dX2_readItem_43 : decode cX2_readItem 43 = .ok (.aload_n 0, 1) := by decide +kernel
theorem dX2_readItem_44 : decode cX2_readItem 44 = .ok (.aload_n 1, 1) := by decide +kernel
theorem dX2_readItem_45 : decode cX2_readItem 45 = .ok (.invokevirtual 68, 3) := by decide +kernel
theorem dX2_readItem_48 : decode cX2_readItem 48 = .ok (.ifCond .eq 7, 3) := by decide +kernel
theorem dX2_readItem_51 : decode cX2_readItem 51 = .ok (.iconst 1, 1) := by decide +kernel
theorem dX2_readItem_52 : decode cX2_readItem 52 = .ok (.goto 4, 3) := by decide +kernel
theorem dX2_readItem_55 : decode cX2_readItem 55 = .ok (.iconst 0, 1) := by decide +kernel
theorem dX2_readItem_56 : decode cX2_readItem 56 = .ok (.ireturn, 1) := by decide +kernel
theorem dX2_readItem_57 : decode cX2_readItem 57 = .ok (.aload_n 1, 1) := by decide +kernel
theorem dX2_readItem_58 : decode cX2_readItem 58 = .ok (.getfield 71, 3) := by decide +kernel
theorem dX2_readItem_61 : decode cX2_readItem 61 = .ok (.iconst 5, 1) := by decide +kernel
theorem dX2_readItem_62 : decode cX2_readItem 62 = .ok (.if_icmp .ge 15, 3) := by decide +kernel
theorem dX2_readItem_65 : decode cX2_readItem 65 = .ok (.aload_n 0, 1) := by decide +kernel
theorem dX2_readItem_66 : decode cX2_readItem 66 = .ok (.aload_n 1, 1) := by decide +kernel
theorem dX2_readItem_67 : decode cX2_readItem 67 = .ok (.invokevirtual 74, 3) := by decide +kernel
theorem dX2_readItem_70 : decode cX2_readItem 70 = .ok (.ifCond .eq 7, 3) := by decide +kernel
theorem dX2_readItem_73 : decode cX2_readItem 73 = .ok (.iconst 1, 1) := by decide +kernel
theorem dX2_readItem_74 : decode cX2_readItem 74 = .ok (.goto 4, 3) := by decide +kernel
theorem dX2_readItem_77 : decode cX2_readItem 77 = .ok (.iconst 0, 1) := by decide +kernel
theorem dX2_readItem_78 : decode cX2_readItem 78 = .ok (.ireturn, 1) := by decide +kernel
theorem dX2_readItem_79 : decode cX2_readItem 79 = .ok (.aload_n 1, 1) := by decide +kernel
theorem dX2_readItem_80 : decode cX2_readItem 80 = .ok (.getfield 77, 3) := by decide +kernel
theorem dX2_readItem_83 : decode cX2_readItem 83 = .ok (.iconst 3, 1) := by decide +kernel
theorem dX2_readItem_84 : decode cX2_readItem 84 = .ok (.if_icmp .ge 15, 3) := by decide +kernel
theorem dX2_readItem_87 : decode cX2_readItem 87 = .ok (.aload_n 0, 1) := by decide +kernel
theorem dX2_readItem_88 : decode cX2_readItem 88 = .ok (.aload_n 1, 1) := by decide +kernel
theorem dX2_readItem_89 : decode cX2_readItem 89 = .ok (.invokevirtual 80, 3) := by decide +kernel
theorem dX2_readItem_92 : decode cX2_readItem 92 = .ok (.ifCond .eq 7, 3) := by decide +kernel
theorem dX2_readItem_95 : decode cX2_readItem 95 = .ok (.iconst 1, 1) := by decide +kernel
theorem dX2_readItem_96 : decode cX2_readItem 96 = .ok (.goto 4, 3) := by decide +kernel
theorem dX2_readItem_99 : decode cX2_readItem 99 = .ok (.iconst 0, 1) := by decide +kernel
theorem dX2_readItem_100 : decode cX2_readItem 100 = .ok (.ireturn, 1) := by decide +kernel
theorem dX2_readItem_101 : decode cX2_readItem 101 = .ok (.aload_n 1, 1) := by decide +kernel
theorem dX2_readItem_102 : decode cX2_readItem 102 = .ok (.getfield 83, 3) := by decide +kernel
theorem dX2_readItem_105 : decode cX2_readItem 105 = .ok (.bipush 16, 2) := by decide +kernel
theorem dX2_readItem_107 : decode cX2_readItem 107 = .ok (.if_icmp .ge 15, 3) := by decide +kernel
theorem dX2_readItem_110 : decode cX2_readItem 110 = .ok (.aload_n 0, 1) := by decide +kernel
theorem dX2_readItem_111 : decode cX2_readItem 111 = .ok (.aload_n 1, 1) := by decide +kernel
theorem dX2_readItem_112 : decode cX2_readItem 112 = .ok (.invokevirtual 86, 3) := by decide +kernel
theorem dX2_readItem_115 : decode cX2_readItem 115 = .ok (.ifCond .eq 7, 3) := by decide +kernel
theorem dX2_readItem_118 : decode cX2_readItem 118 = .ok (.iconst 1, 1) := by decide +kernel
theorem dX2_readItem_119 : decode cX2_readItem 119 = .ok (.goto 4, 3) := by decide +kernel
theorem dX2_readItem_122 : decode cX2_readItem 122 = .ok (.iconst 0, 1) := by decide +kernel
theorem dX2_readItem_123 : decode cX2_readItem 123 = .ok (.ireturn, 1) := by decide +kernel
theorem dX2_readItem_124 : decode cX2_readItem 124 = .ok (.iconst 0, 1) := by decide +kernel
theorem dX2_readItem_125 : decode cX2_readItem 125 = .ok (.ireturn, 1) := by decide +kernel
theorem dX2_readWall_0 : decode cX2_readWall 0 = .ok (.aload_n 0, 1) := by decide +kernel
theorem dX2_readWall_1 : decode cX2_readWall 1 = .ok (.iconst 1, 1) := by decide +kernel
theorem dX2_readWall_2 : decode cX2_readWall 2 = .ok (.putfield 26, 3) := by decide +kernel
theorem dX2_readWall_5 : decode cX2_readWall 5 = .ok (.aload_n 0, 1) := by decide +kernel
theorem dX2_readWall_6 : decode cX2_readWall 6 = .ok (.bipush 10, 2) := by decide +kernel
theorem dX2_readWall_8 : decode cX2_readWall 8 = .ok (.bipush 40, 2) := by decide +kernel
theorem dX2_readWall_10 : decode cX2_readWall 10 = .ok (.invokevirtual 89, 3) := by decide +kernel
theorem dX2_readWall_13 : decode cX2_readWall 13 = .ok (.ifCond .ne 5, 3) := by decide +kernel
theorem dX2_readWall_16 : decode cX2_readWall 16 = .ok (.iconst 0, 1) := by decide +kernel
theorem dX2_readWall_17 : decode cX2_readWall 17 = .ok (.ireturn, 1) := by decide +kernel
theorem dX2_readWall_18 : decode cX2_readWall 18 = .ok (.aload_n 1, 1) := by decide +kernel
theorem dX2_readWall_19 : decode cX2_readWall 19 = .ok (.aload_n 0, 1) := by decide +kernel
theorem dX2_readWall_20 : decode cX2_readWall 20 = .ok (.getfield 65, 3) := by decide +kernel
theorem dX2_readWall_23 : decode cX2_readWall 23 = .ok (.putfield 93, 3) := by decide +kernel
theorem dX2_readWall_26 : decode cX2_readWall 26 = .ok (.aload_n 0, 1) := by decide +kernel
theorem dX2_readWall_27 : decode cX2_readWall 27 = .ok (.iconst 5, 1) := by decide +kernel
theorem dX2_readWall_28 : decode cX2_readWall 28 = .ok (.bipush 20, 2) := by decide +kernel
theorem dX2_readWall_30 : decode cX2_readWall 30 = .ok (.invokevirtual 89, 3) := by decide +kernel
theorem dX2_readWall_33 : decode cX2_readWall 33 = .ok (.ifCond .ne 5, 3) := by decide +kernel
theorem dX2_readWall_36 : decode cX2_readWall 36 = .ok (.iconst 0, 1) := by decide +kernel
theorem dX2_readWall_37 : decode cX2_readWall 37 = .ok (.ireturn, 1) := by decide +kernel
theorem dX2_readWall_38 : decode cX2_readWall 38 = .ok (.aload_n 1, 1) := by decide +kernel
theorem dX2_readWall_39 : decode cX2_readWall 39 = .ok (.aload_n 0, 1) := by decide +kernel
theorem dX2_readWall_40 : decode cX2_readWall 40 = .ok (.getfield 65, 3) := by decide +kernel
theorem dX2_readWall_43 : decode cX2_readWall 43 = .ok (.putfield 96, 3) := by decide +kernel
theorem dX2_readWall_46 : decode cX2_readWall 46 = .ok (.aload_n 0, 1) := by decide +kernel
theorem dX2_readWall_47 : decode cX2_readWall 47 = .ok (.iconst 0, 1) := by decide +kernel
theorem dX2_readWall_48 : decode cX2_readWall 48 = .ok (.bipush 9, 2) := by decide +kernel
theorem dX2_readWall_50 : decode cX2_readWall 50 = .ok (.invokevirtual 89, 3) := by decide +kernel
theorem dX2_readWall_53 : decode cX2_readWall 53 = .ok (.ifCond .ne 5, 3) := by decide +kernel
theorem dX2_readWall_56 : decode cX2_readWall 56 = .ok (.iconst 0, 1) := by decide +kernel
theorem dX2_readWall_57 : decode cX2_readWall 57 = .ok (.ireturn, 1) := by decide +kernel
theorem dX2_readWall_58 : decode cX2_readWall 58 = .ok (.aload_n 1, 1) := by decide +kernel
theorem dX2_readWall_59 : decode cX2_readWall 59 = .ok (.aload_n 0, 1) := by decide +kernel
theorem dX2_readWall_60 : decode cX2_readWall 60 = .ok (.getfield 65, 3) := by decide +kernel
theorem dX2_readWall_63 : decode cX2_readWall 63 = .ok (.putfield 99, 3) := by decide +kernel
theorem dX2_readWall_66 : decode cX2_readWall 66 = .ok (.iconst 1, 1) := by decide +kernel
theorem dX2_readWall_67 : decode cX2_readWall 67 = .ok (.ireturn, 1) := by decide +kernel
theorem dX2_readPicture_0 : decode cX2_readPicture 0 = .ok (.aload_n 0, 1) := by decide +kernel
theorem dX2_readPicture_1 : decode cX2_readPicture 1 = .ok (.iconst 1, 1) := by decide +kernel
theorem dX2_readPicture_2 : decode cX2_readPicture 2 = .ok (.bipush 9, 2) := by decide +kernel
theorem dX2_readPicture_4 : decode cX2_readPicture 4 = .ok (.invokevirtual 89, 3) := by decide +kernel
theorem dX2_readPicture_7 : decode cX2_readPicture 7 = .ok (.ifCond .ne 5, 3) := by decide +kernel
theorem dX2_readPicture_10 : decode cX2_readPicture 10 = .ok (.iconst 0, 1) := by decide +kernel
theorem dX2_readPicture_11 : decode cX2_readPicture 11 = .ok (.ireturn, 1) := by decide +kernel
theorem dX2_readPicture_12 : decode cX2_readPicture 12 = .ok (.aload_n 0, 1) := by decide +kernel
theorem dX2_readPicture_13 : decode cX2_readPicture 13 = .ok (.getfield 65, 3) := by decide +kernel
theorem dX2_readPicture_16 : decode cX2_readPicture 16 = .ok (.istore_n 2, 1) := by decide +kernel
theorem dX2_readPicture_17 : decode cX2_readPicture 17 = .ok (.aload_n 0, 1) := by decide +kernel
theorem dX2_readPicture_18 : decode cX2_readPicture 18 = .ok (.iconst 1, 1) := by decide +kernel
theorem dX2_readPicture_19 : decode cX2_readPicture 19 = .ok (.bipush 9, 2) := by decide +kernel
theorem dX2_readPicture_21 : decode cX2_readPicture 21 = .ok (.invokevirtual 89, 3) := by decide +kernel
theorem dX2_readPicture_24 : decode cX2_readPicture 24 = .ok (.ifCond .ne 5, 3) := by decide +kernel
theorem dX2_readPicture_27 : decode cX2_readPicture 27 = .ok (.iconst 0, 1) := by decide +kernel
theorem dX2_readPicture_28 : decode cX2_readPicture 28 = .ok (.ireturn, 1) := by decide +kernel
theorem dX2_readPicture_29 : decode cX2_readPicture 29 = .ok (.aload_n 0, 1) := by decide +kernel
theorem dX2_readPicture_30 : decode cX2_readPicture 30 = .ok (.getfield 65, 3) := by decide +kernel
theorem dX2_readPicture_33 : decode cX2_readPicture 33 = .ok (.istore_n 3, 1) := by decide +kernel
theorem dX2_readPicture_34 : decode cX2_readPicture 34 = .ok (.aload_n 0, 1) := by decide +kernel
theorem dX2_readPicture_35 : decode cX2_readPicture 35 = .ok (.iconst 0, 1) := by decide +kernel
theorem dX2_readPicture_36 : decode cX2_readPicture 36 = .ok (.iload_n 3, 1) := by decide +kernel
theorem dX2_readPicture_37 : decode cX2_readPicture 37 = .ok (.invokevirtual 89, 3) := by decide +kernel
theorem dX2_readPicture_40 : decode cX2_readPicture 40 = .ok (.ifCond .ne 5, 3) := by decide +kernel
theorem dX2_readPicture_43 : decode cX2_readPicture 43 = .ok (.iconst 0, 1) := by decide +kernel
theorem dX2_readPicture_44 : decode cX2_readPicture 44 = .ok (.ireturn, 1) := by decide +kernel
theorem dX2_readPicture_45 : decode cX2_readPicture 45 = .ok (.aload_n 0, 1) := by decide +kernel
theorem dX2_readPicture_46 : decode cX2_readPicture 46 = .ok (.getfield 65, 3) := by decide +kernel
theorem dX2_readPicture_49 : decode cX2_readPicture 49 = .ok (.istore 4, 2) := by decide +kernel
theorem dX2_readPicture_51 : decode cX2_readPicture 51 = .ok (.aload_n 0, 1) := by decide +kernel
theorem dX2_readPicture_52 : decode cX2_readPicture 52 = .ok (.iconst 1, 1) := by decide +kernel
theorem dX2_readPicture_53 : decode cX2_readPicture 53 = .ok (.bipush 9, 2) := by decide +kernel
theorem dX2_readPicture_55 : decode cX2_readPicture 55 = .ok (.invokevirtual 89, 3) := by decide +kernel
theorem dX2_readPicture_58 : decode cX2_readPicture 58 = .ok (.ifCond .ne 5, 3) := by decide +kernel
theorem dX2_readPicture_61 : decode cX2_readPicture 61 = .ok (.iconst 0, 1) := by decide +kernel
theorem dX2_readPicture_62 : decode cX2_readPicture 62 = .ok (.ireturn, 1) := by decide +kernel
theorem dX2_readPicture_63 : decode cX2_readPicture 63 = .ok (.aload_n 1, 1) := by decide +kernel
theorem dX2_readPicture_64 : decode cX2_readPicture 64 = .ok (.iload_n 2, 1) := by decide +kernel
theorem dX2_readPicture_65 : decode cX2_readPicture 65 = .ok (.iload_n 3, 1) := by decide +kernel
theorem dX2_readPicture_66 : decode cX2_readPicture 66 = .ok (.iload 4, 2) := by decide +kernel
theorem dX2_readPicture_68 : decode cX2_readPicture 68 = .ok (.aload_n 0, 1) := by decide +kernel
theorem dX2_readPicture_69 : decode cX2_readPicture 69 = .ok (.getfield 65, 3) := by decide +kernel
theorem dX2_readPicture_72 : decode cX2_readPicture 72 = .ok (.invokevirtual 102, 3) := by decide +kernel
theorem dX2_readPicture_75 : decode cX2_readPicture 75 = .ok (.iconst 1, 1) := by decide +kernel
theorem dX2_readPicture_76 : decode cX2_readPicture 76 = .ok (.ireturn, 1) := by decide +kernel
theorem dX2_readDoor_0 : decode cX2_readDoor 0 = .ok (.aload_n 0, 1) := by decide +kernel
theorem dX2_readDoor_1 : decode cX2_readDoor 1 = .ok (.iconst 0, 1) := by decide +kernel
theorem dX2_readDoor_2 : decode cX2_readDoor 2 = .ok (.bipush 39, 2) := by decide +kernel
theorem dX2_readDoor_4 : decode cX2_readDoor 4 = .ok (.invokevirtual 89, 3) := by decide +kernel
theorem dX2_readDoor_7 : decode cX2_readDoor 7 = .ok (.ifCond .ne 5, 3) := by decide +kernel
theorem dX2_readDoor_10 : decode cX2_readDoor 10 = .ok (.iconst 0, 1) := by decide +kernel
theorem dX2_readDoor_11 : decode cX2_readDoor 11 = .ok (.ireturn, 1) := by decide +kernel
theorem dX2_readDoor_12 : decode cX2_readDoor 12 = .ok (.aload_n 0, 1) := by decide +kernel
theorem dX2_readDoor_13 : decode cX2_readDoor 13 = .ok (.getfield 65, 3) := by decide +kernel
theorem dX2_readDoor_16 : decode cX2_readDoor 16 = .ok (.istore_n 2, 1) := by decide +kernel
theorem dX2_readDoor_17 : decode cX2_readDoor 17 = .ok (.aload_n 0, 1) := by decide +kernel
theorem dX2_readDoor_18 : decode cX2_readDoor 18 = .ok (.iload_n 2, 1) := by decide +kernel
theorem dX2_readDoor_19 : decode cX2_readDoor 19 = .ok (.iconst 1, 1) := by decide +kernel
theorem dX2_readDoor_20 : decode cX2_readDoor 20 = .ok (.iadd, 1) := by decide +kernel
theorem dX2_readDoor_21 : decode cX2_readDoor 21 = .ok (.bipush 40, 2) := by decide +kernel
theorem dX2_readDoor_23 : decode cX2_readDoor 23 = .ok (.invokevirtual 89, 3) := by decide +kernel
theorem dX2_readDoor_26 : decode cX2_readDoor 26 = .ok (.ifCond .ne 5, 3) := by decide +kernel
theorem dX2_readDoor_29 : decode cX2_readDoor 29 = .ok (.iconst 0, 1) := by decide +kernel
theorem dX2_readDoor_30 : decode cX2_readDoor 30 = .ok (.ireturn, 1) := by decide +kernel
theorem dX2_readDoor_31 : decode cX2_readDoor 31 = .ok (.aload_n 1, 1) := by decide +kernel
theorem dX2_readDoor_32 : decode cX2_readDoor 32 = .ok (.iload_n 2, 1) := by decide +kernel
theorem dX2_readDoor_33 : decode cX2_readDoor 33 = .ok (.aload_n 0, 1) := by decide +kernel
theorem dX2_readDoor_34 : decode cX2_readDoor 34 = .ok (.getfield 65, 3) := by decide +kernel
theorem dX2_readDoor_37 : decode cX2_readDoor 37 = .ok (.invokevirtual 106, 3) := by decide +kernel
theorem dX2_readDoor_40 : decode cX2_readDoor 40 = .ok (.iconst 1, 1) := by decide +kernel
theorem dX2_readDoor_41 : decode cX2_readDoor 41 = .ok (.ireturn, 1) := by decide +kernel
theorem dX2_readHole_0 : decode cX2_readHole 0 = .ok (.aload_n 0, 1) := by decide +kernel
theorem dX2_readHole_1 : decode cX2_readHole 1 = .ok (.iconst 0, 1) := by decide +kernel
theorem dX2_readHole_2 : decode cX2_readHole 2 = .ok (.bipush 80, 2) := by decide +kernel
theorem dX2_readHole_4 : decode cX2_readHole 4 = .ok (.invokevirtual 89, 3) := by decide +kernel
theorem dX2_readHole_7 : decode cX2_readHole 7 = .ok (.ifCond .ne 5, 3) := by decide +kernel
theorem dX2_readHole_10 : decode cX2_readHole 10 = .ok (.iconst 0, 1) := by decide +kernel
theorem dX2_readHole_11 : decode cX2_readHole 11 = .ok (.ireturn, 1) := by decide +kernel
theorem dX2_readHole_12 : decode cX2_readHole 12 = .ok (.aload_n 0, 1) := by decide +kernel
theorem dX2_readHole_13 : decode cX2_readHole 13 = .ok (.getfield 65, 3) := by decide +kernel
theorem dX2_readHole_16 : decode cX2_readHole 16 = .ok (.istore_n 2, 1) := by decide +kernel
theorem dX2_readHole_17 : decode cX2_readHole 17 = .ok (.aload_n 0, 1) := by decide +kernel
theorem dX2_readHole_18 : decode cX2_readHole 18 = .ok (.iconst 0, 1) := by decide +kernel
theorem dX2_readHole_19 : decode cX2_readHole 19 = .ok (.bipush 60, 2) := by decide +kernel
theorem dX2_readHole_21 : decode cX2_readHole 21 = .ok (.invokevirtual 89, 3) := by decide +kernel
theorem dX2_readHole_24 : decode cX2_readHole 24 = .ok (.ifCond .eq 15, 3) := by decide +kernel
theorem dX2_readHole_27 : decode cX2_readHole 27 = .ok (.aload_n 1, 1) := by decide +kernel
theorem dX2_readHole_28 : decode cX2_readHole 28 = .ok (.iload_n 2, 1) := by decide +kernel
theorem dX2_readHole_29 : decode cX2_readHole 29 = .ok (.aload_n 0, 1) := by decide +kernel
theorem dX2_readHole_30 : decode cX2_readHole 30 = .ok (.getfield 65, 3) := by decide +kernel
theorem dX2_readHole_33 : decode cX2_readHole 33 = .ok (.invokevirtual 110, 3) := by decide +kernel
theorem dX2_readHole_36 : decode cX2_readHole 36 = .ok (.ifCond .lt 5, 3) := by decide +kernel
theorem dX2_readHole_39 : decode cX2_readHole 39 = .ok (.iconst 0, 1) := by decide +kernel
theorem dX2_readHole_40 : decode cX2_readHole 40 = .ok (.ireturn, 1) := by decide +kernel
theorem dX2_readHole_41 : decode cX2_readHole 41 = .ok (.aload_n 1, 1) := by decide +kernel
theorem dX2_readHole_42 : decode cX2_readHole 42 = .ok (.iload_n 2, 1) := by decide +kernel
theorem dX2_readHole_43 : decode cX2_readHole 43 = .ok (.aload_n 0, 1) := by decide +kernel
theorem dX2_readHole_44 : decode cX2_readHole 44 = .ok (.getfield 65, 3) := by decide +kernel
theorem dX2_readHole_47 : decode cX2_readHole 47 = .ok (.invokevirtual 114, 3) := by decide +kernel
theorem dX2_readHole_50 : decode cX2_readHole 50 = .ok (.iconst 1, 1) := by decide +kernel
theorem dX2_readHole_51 : decode cX2_readHole 51 = .ok (.ireturn, 1) := by decide +kernel
theorem dX3_init_0 : decode cX3_init 0 = .ok (.aload_n 0, 1) := by decide +kernel
theorem dX3_init_1 : decode cX3_init 1 = .ok (.invokespecial 3, 3) := by decide +kernel
theorem dX3_init_4 : decode cX3_init 4 = .ok (.aload_n 0, 1) := by decide +kernel
theorem dX3_init_5 : decode cX3_init 5 = .ok (.iconst 5, 1) := by decide +kernel
theorem dX3_init_6 : decode cX3_init 6 = .ok (.newarray .long, 2) := by decide +kernel
theorem dX3_init_8 : decode cX3_init 8 = .ok (.putfield 9, 3) := by decide +kernel
theorem dX3_init_11 : decode cX3_init 11 = .ok (.aload_n 0, 1) := by decide +kernel
theorem dX3_init_12 : decode cX3_init 12 = .ok (.iconst 5, 1) := by decide +kernel
theorem dX3_init_13 : decode cX3_init 13 = .ok (.newarray .long, 2) := by decide +kernel
theorem dX3_init_15 : decode cX3_init 15 = .ok (.putfield 15, 3) := by decide +kernel
theorem dX3_init_18 : decode cX3_init 18 = .ok (.aload_n 0, 1) := by decide +kernel
theorem dX3_init_19 : decode cX3_init 19 = .ok (.iconst 5, 1) := by decide +kernel
theorem dX3_init_20 : decode cX3_init 20 = .ok (.newarray .int, 2) := by decide +kernel
theorem dX3_init_22 : decode cX3_init 22 = .ok (.putfield 18, 3) := by decide +kernel
theorem dX3_init_25 : decode cX3_init 25 = .ok (.aload_n 0, 1) := by decide +kernel
theorem dX3_init_26 : decode cX3_init 26 = .ok (.iconst 5, 1) := by decide +kernel
theorem dX3_init_27 : decode cX3_init 27 = .ok (.newarray .int, 2) := by decide +kernel
theorem dX3_init_29 : decode cX3_init 29 = .ok (.putfield 22, 3) := by decide +kernel
theorem dX3_init_32 : decode cX3_init 32 = .ok (.return_, 1) := by decide +kernel
theorem dX3_answer_0 : decode cX3_answer 0 = .ok (.aload_n 0, 1) := by decide +kernel
theorem dX3_answer_1 : decode cX3_answer 1 = .ok (.getfield 25, 3) := by decide +kernel
theorem dX3_answer_4 : decode cX3_answer 4 = .ok (.ifCond .ne 6, 3) := by decide +kernel
theorem dX3_answer_7 : decode cX3_answer 7 = .ok (.bipush (-9), 2) := by decide +kernel
theorem dX3_answer_9 : decode cX3_answer 9 = .ok (.ireturn, 1) := by decide +kernel
theorem dX3_answer_10 : decode cX3_answer 10 = .ok (.iload_n 1, 1) := by decide +kernel
theorem dX3_answer_11 : decode cX3_answer 11 = .ok (.tableswitch 49 0 3 #[29, 34, 39, 44], 29) := by decide +kernel
theorem dX3_answer_40 : decode cX3_answer 40 = .ok (.aload_n 0, 1) := by decide +kernel
theorem dX3_answer_41 : decode cX3_answer 41 = .ok (.getfield 29, 3) := by decide +kernel
theorem dX3_answer_44 : decode cX3_answer 44 = .ok (.ireturn, 1) := by decide +kernel
theorem dX3_answer_45 : decode cX3_answer 45 = .ok (.aload_n 0, 1) := by decide +kernel
theorem dX3_answer_46 : decode cX3_answer 46 = .ok (.getfield 33, 3) := by decide +kernel
theorem dX3_answer_49 : decode cX3_answer 49 = .ok (.ireturn, 1) := by decide +kernel
theorem dX3_answer_50 : decode cX3_answer 50 = .ok (.aload_n 0, 1) := by decide +kernel
theorem dX3_answer_51 : decode cX3_answer 51 = .ok (.getfield 36, 3) := by decide +kernel
theorem dX3_answer_54 : decode cX3_answer 54 = .ok (.ireturn, 1) := by decide +kernel
theorem dX3_answer_55 : decode cX3_answer 55 = .ok (.aload_n 0, 1) := by decide +kernel
theorem dX3_answer_56 : decode cX3_answer 56 = .ok (.getfield 39, 3) := by decide +kernel
theorem dX3_answer_59 : decode cX3_answer 59 = .ok (.ireturn, 1) := by decide +kernel
theorem dX3_answer_60 : decode cX3_answer 60 = .ok (.aload_n 0, 1) := by decide +kernel
theorem dX3_answer_61 : decode cX3_answer 61 = .ok (.iload_n 1, 1) := by decide +kernel
theorem dX3_answer_62 : decode cX3_answer 62 = .ok (.iconst 4, 1) := by decide +kernel
theorem dX3_answer_63 : decode cX3_answer 63 = .ok (.isub, 1) := by decide +kernel
theorem dX3_answer_64 : decode cX3_answer 64 = .ok (.invokevirtual 42, 3) := by decide +kernel
theorem dX3_answer_67 : decode cX3_answer 67 = .ok (.ireturn, 1) := by decide +kernel
theorem dX3_pictureAt_0 : decode cX3_pictureAt 0 = .ok (.iload_n 1, 1) := by decide +kernel
theorem dX3_pictureAt_1 : decode cX3_pictureAt 1 = .ok (.ifCond .lt 20, 3) := by decide +kernel
theorem dX3_pictureAt_4 : decode cX3_pictureAt 4 = .ok (.iload_n 1, 1) := by decide +kernel
theorem dX3_pictureAt_5 : decode cX3_pictureAt 5 = .ok (.aload_n 0, 1) := by decide +kernel
theorem dX3_pictureAt_6 : decode cX3_pictureAt 6 = .ok (.getfield 46, 3) := by decide +kernel
theorem dX3_pictureAt_9 : decode cX3_pictureAt 9 = .ok (.if_icmp .ge 12, 3) := by decide +kernel
theorem dX3_pictureAt_12 : decode cX3_pictureAt 12 = .ok (.aload_n 0, 1) := by decide +kernel
theorem dX3_pictureAt_13 : decode cX3_pictureAt 13 = .ok (.getfield 22, 3) := by decide +kernel
theorem dX3_pictureAt_16 : decode cX3_pictureAt 16 = .ok (.iload_n 1, 1) := by decide +kernel
theorem dX3_pictureAt_17 : decode cX3_pictureAt 17 = .ok (.iaload, 1) := by decide +kernel
theorem dX3_pictureAt_18 : decode cX3_pictureAt 18 = .ok (.goto 5, 3) := by decide +kernel
theorem dX3_pictureAt_21 : decode cX3_pictureAt 21 = .ok (.bipush (-9), 2) := by decide +kernel
theorem dX3_pictureAt_23 : decode cX3_pictureAt 23 = .ok (.ireturn, 1) := by decide +kernel
theorem dX3_search_0 : decode cX3_search 0 = .ok (.aload_n 0, 1) := by decide +kernel
theorem dX3_search_1 : decode cX3_search 1 = .ok (.iconst 0, 1) := by decide +kernel
theorem dX3_search_2 : decode cX3_search 2 = .ok (.putfield 25, 3) := by decide +kernel
theorem dX3_search_5 : decode cX3_search 5 = .ok (.aload_n 0, 1) := by decide +kernel
theorem dX3_search_6 : decode cX3_search 6 = .ok (.aload_n 1, 1) := by decide +kernel
theorem dX3_search_7 : decode cX3_search 7 = .ok (.getfield 49, 3) := by decide +kernel
theorem dX3_search_10 : decode cX3_search 10 = .ok (.putfield 46, 3) := by decide +kernel
theorem dX3_search_13 : decode cX3_search 13 = .ok (.aload_n 0, 1) := by decide +kernel
theorem dX3_search_14 : decode cX3_search 14 = .ok (.iconst 0, 1) := by decide +kernel
theorem dX3_search_15 : decode cX3_search 15 = .ok (.putfield 54, 3) := by decide +kernel
theorem dX3_search_18 : decode cX3_search 18 = .ok (.aload_n 0, 1) := by decide +kernel
theorem dX3_search_19 : decode cX3_search 19 = .ok (.iconst 0, 1) := by decide +kernel
theorem dX3_search_20 : decode cX3_search 20 = .ok (.putfield 57, 3) := by decide +kernel
theorem dX3_search_23 : decode cX3_search 23 = .ok (.aload_n 1, 1) := by decide +kernel
theorem dX3_search_24 : decode cX3_search 24 = .ok (.getfield 60, 3) := by decide +kernel
theorem dX3_search_27 : decode cX3_search 27 = .ok (.istore_n 2, 1) := by decide +kernel
theorem dX3_search_28 : decode cX3_search 28 = .ok (.iconst 0, 1) := by decide +kernel
theorem dX3_search_29 : decode cX3_search 29 = .ok (.istore_n 3, 1) := by decide +kernel
theorem dX3_search_30 : decode cX3_search 30 = .ok (.iload_n 3, 1) := by decide +kernel
theorem dX3_search_31 : decode cX3_search 31 = .ok (.aload_n 0, 1) := by decide +kernel
theorem dX3_search_32 : decode cX3_search 32 = .ok (.getfield 46, 3) := by decide +kernel
theorem dX3_search_35 : decode cX3_search 35 = .ok (.if_icmp .ge 66, 3) := by decide +kernel
theorem dX3_search_38 : decode cX3_search 38 = .ok (.aload_n 0, 1) := by decide +kernel
theorem dX3_search_39 : decode cX3_search 39 = .ok (.aload_n 1, 1) := by decide +kernel
theorem dX3_search_40 : decode cX3_search 40 = .ok (.iload_n 3, 1) := by decide +kernel
theorem dX3_search_41 : decode cX3_search 41 = .ok (.invokevirtual 63, 3) := by decide +kernel
theorem dX3_search_44 : decode cX3_search 44 = .ok (.iload_n 2, 1) := by decide +kernel
theorem dX3_search_45 : decode cX3_search 45 = .ok (.aload_n 1, 1) := by decide +kernel
theorem dX3_search_46 : decode cX3_search 46 = .ok (.getfield 67, 3) := by decide +kernel
theorem dX3_search_49 : decode cX3_search 49 = .ok (.iload_n 3, 1) := by decide +kernel
theorem dX3_search_50 : decode cX3_search 50 = .ok (.iaload, 1) := by decide +kernel
theorem dX3_search_51 : decode cX3_search 51 = .ok (.isub, 1) := by decide +kernel
theorem dX3_search_52 : decode cX3_search 52 = .ok (.istore_n 2, 1) := by decide +kernel
theorem dX3_search_53 : decode cX3_search 53 = .ok (.aload_n 0, 1) := by decide +kernel
theorem dX3_search_54 : decode cX3_search 54 = .ok (.dup, 1) := by decide +kernel
theorem dX3_search_55 : decode cX3_search 55 = .ok (.getfield 54, 3) := by decide +kernel
theorem dX3_search_58 : decode cX3_search 58 = .ok (.aload_n 0, 1) := by decide +kernel
theorem dX3_search_59 : decode cX3_search 59 = .ok (.getfield 15, 3) := by decide +kernel
theorem dX3_search_62 : decode cX3_search 62 = .ok (.iload_n 3, 1) := by decide +kernel
theorem dX3_search_63 : decode cX3_search 63 = .ok (.laload, 1) := by decide +kernel
theorem dX3_search_64 : decode cX3_search 64 = .ok (.lconst 0, 1) := by decide +kernel
theorem dX3_search_65 : decode cX3_search 65 = .ok (.lcmp, 1) := by decide +kernel
theorem dX3_search_66 : decode cX3_search 66 = .ok (.ifCond .ne 7, 3) := by decide +kernel
theorem dX3_search_69 : decode cX3_search 69 = .ok (.iconst 1, 1) := by decide +kernel
theorem dX3_search_70 : decode cX3_search 70 = .ok (.goto 4, 3) := by decide +kernel
theorem dX3_search_73 : decode cX3_search 73 = .ok (.iconst 0, 1) := by decide +kernel
theorem dX3_search_74 : decode cX3_search 74 = .ok (.iadd, 1) := by decide +kernel
theorem dX3_search_75 : decode cX3_search 75 = .ok (.putfield 54, 3) := by decide +kernel
theorem dX3_search_78 : decode cX3_search 78 = .ok (.aload_n 0, 1) := by decide +kernel
theorem dX3_search_79 : decode cX3_search 79 = .ok (.dup, 1) := by decide +kernel
theorem dX3_search_80 : decode cX3_search 80 = .ok (.getfield 57, 3) := by decide +kernel
theorem dX3_search_83 : decode cX3_search 83 = .ok (.aload_n 1, 1) := by decide +kernel
theorem dX3_search_84 : decode cX3_search 84 = .ok (.iload_n 3, 1) := by decide +kernel
theorem dX3_search_85 : decode cX3_search 85 = .ok (.iconst 0, 1) := by decide +kernel
theorem dX3_search_86 : decode cX3_search 86 = .ok (.invokevirtual 70, 3) := by decide +kernel
theorem dX3_search_89 : decode cX3_search 89 = .ok (.iconst 1, 1) := by decide +kernel
theorem dX3_search_90 : decode cX3_search 90 = .ok (.iand, 1) := by decide +kernel
theorem dX3_search_91 : decode cX3_search 91 = .ok (.ixor, 1) := by decide +kernel
theorem dX3_search_92 : decode cX3_search 92 = .ok (.putfield 57, 3) := by decide +kernel
theorem dX3_search_95 : decode cX3_search 95 = .ok (.iinc 3 1, 3) := by decide +kernel
theorem dX3_search_98 : decode cX3_search 98 = .ok (.goto (-68), 3) := by decide +kernel
theorem dX3_search_101 : decode cX3_search 101 = .ok (.aload_n 0, 1) := by decide +kernel
theorem dX3_search_102 : decode cX3_search 102 = .ok (.getfield 46, 3) := by decide +kernel
theorem dX3_search_105 : decode cX3_search 105 = .ok (.ifCond .le 9, 3) := by decide +kernel
theorem dX3_search_108 : decode cX3_search 108 = .ok (.aload_n 0, 1) := by decide +kernel
theorem dX3_search_109 : decode cX3_search 109 = .ok (.aload_n 1, 1) := by decide +kernel
theorem dX3_search_110 : decode cX3_search 110 = .ok (.iload_n 2, 1) := by decide +kernel
theorem dX3_search_111 : decode cX3_search 111 = .ok (.invokevirtual 74, 3) := by decide +kernel
theorem dX3_search_114 : decode cX3_search 114 = .ok (.return_, 1) := by decide +kernel
theorem dX3_markPlaces_0 : decode cX3_markPlaces 0 = .ok (.aload_n 1, 1) := by decide +kernel
theorem dX3_markPlaces_1 : decode cX3_markPlaces 1 = .ok (.iload_n 2, 1) := by decide +kernel
theorem dX3_markPlaces_2 : decode cX3_markPlaces 2 = .ok (.invokevirtual 77, 3) := by decide +kernel
theorem dX3_markPlaces_5 : decode cX3_markPlaces 5 = .ok (.ifCond .ne 4, 3) := by decide +kernel
theorem dX3_markPlaces_8 : decode cX3_markPlaces 8 = .ok (.return_, 1) := by decide +kernel
theorem dX3_markPlaces_9 : decode cX3_markPlaces 9 = .ok (.aload_n 0, 1) := by decide +kernel
theorem dX3_markPlaces_10 : decode cX3_markPlaces 10 = .ok (.getfield 9, 3) := by decide +kernel
theorem dX3_markPlaces_13 : decode cX3_markPlaces 13 = .ok (.iload_n 2, 1) := by decide +kernel
theorem dX3_markPlaces_14 : decode cX3_markPlaces 14 = .ok (.lconst 0, 1) := by decide +kernel
theorem dX3_markPlaces_15 : decode cX3_markPlaces 15 = .ok (.lastore, 1) := by decide +kernel
theorem dX3_markPlaces_16 : decode cX3_markPlaces 16 = .ok (.aload_n 0, 1) := by decide +kernel
theorem dX3_markPlaces_17 : decode cX3_markPlaces 17 = .ok (.getfield 15, 3) := by decide +kernel
theorem dX3_markPlaces_20 : decode cX3_markPlaces 20 = .ok (.iload_n 2, 1) := by decide +kernel
theorem dX3_markPlaces_21 : decode cX3_markPlaces 21 = .ok (.lconst 0, 1) := by decide +kernel
theorem dX3_markPlaces_22 : decode cX3_markPlaces 22 = .ok (.lastore, 1) := by decide +kernel
theorem dX3_markPlaces_23 : decode cX3_markPlaces 23 = .ok (.iconst 0, 1) := by decide +kernel
theorem dX3_markPlaces_24 : decode cX3_markPlaces 24 = .ok (.istore_n 3, 1) := by decide +kernel
theorem dX3_markPlaces_25 : decode cX3_markPlaces 25 = .ok (.iload_n 3, 1) := by decide +kernel
theorem dX3_markPlaces_26 : decode cX3_markPlaces 26 = .ok (.aload_n 1, 1) := by decide +kernel
theorem dX3_markPlaces_27 : decode cX3_markPlaces 27 = .ok (.getfield 60, 3) := by decide +kernel
theorem dX3_markPlaces_30 : decode cX3_markPlaces 30 = .ok (.if_icmp .ge 51, 3) := by decide +kernel
theorem dX3_markPlaces_33 : decode cX3_markPlaces 33 = .ok (.aload_n 1, 1) := by decide +kernel
theorem dX3_markPlaces_34 : decode cX3_markPlaces 34 = .ok (.iload_n 2, 1) := by decide +kernel
theorem dX3_markPlaces_35 : decode cX3_markPlaces 35 = .ok (.iload_n 3, 1) := by decide +kernel
theorem dX3_markPlaces_36 : decode cX3_markPlaces 36 = .ok (.invokevirtual 81, 3) := by decide +kernel
theorem dX3_markPlaces_39 : decode cX3_markPlaces 39 = .ok (.ifCond .eq 36, 3) := by decide +kernel
theorem dX3_markPlaces_42 : decode cX3_markPlaces 42 = .ok (.aload_n 0, 1) := by decide +kernel
theorem dX3_markPlaces_43 : decode cX3_markPlaces 43 = .ok (.getfield 9, 3) := by decide +kernel
theorem dX3_markPlaces_46 : decode cX3_markPlaces 46 = .ok (.iload_n 2, 1) := by decide +kernel
theorem dX3_markPlaces_47 : decode cX3_markPlaces 47 = .ok (.dup2, 1) := by decide +kernel
theorem dX3_markPlaces_48 : decode cX3_markPlaces 48 = .ok (.laload, 1) := by decide +kernel
theorem dX3_markPlaces_49 : decode cX3_markPlaces 49 = .ok (.lconst 1, 1) := by decide +kernel
theorem dX3_markPlaces_50 : decode cX3_markPlaces 50 = .ok (.iload_n 3, 1) := by decide +kernel
theorem dX3_markPlaces_51 : decode cX3_markPlaces 51 = .ok (.lshl, 1) := by decide +kernel
theorem dX3_markPlaces_52 : decode cX3_markPlaces 52 = .ok (.lor, 1) := by decide +kernel
theorem dX3_markPlaces_53 : decode cX3_markPlaces 53 = .ok (.lastore, 1) := by decide +kernel
theorem dX3_markPlaces_54 : decode cX3_markPlaces 54 = .ok (.aload_n 1, 1) := by decide +kernel
theorem dX3_markPlaces_55 : decode cX3_markPlaces 55 = .ok (.iload_n 2, 1) := by decide +kernel
theorem dX3_markPlaces_56 : decode cX3_markPlaces 56 = .ok (.iload_n 3, 1) := by decide +kernel
theorem dX3_markPlaces_57 : decode cX3_markPlaces 57 = .ok (.invokevirtual 85, 3) := by decide +kernel
theorem dX3_markPlaces_60 : decode cX3_markPlaces 60 = .ok (.ifCond .eq 15, 3) := by decide +kernel
theorem dX3_markPlaces_63 : decode cX3_markPlaces 63 = .ok (.aload_n 0, 1) := by decide +kernel
theorem dX3_markPlaces_64 : decode cX3_markPlaces 64 = .ok (.getfield 15, 3) := by decide +kernel
theorem dX3_markPlaces_67 : decode cX3_markPlaces 67 = .ok (.iload_n 2, 1) := by decide +kernel
theorem dX3_markPlaces_68 : decode cX3_markPlaces 68 = .ok (.dup2, 1) := by decide +kernel
theorem dX3_markPlaces_69 : decode cX3_markPlaces 69 = .ok (.laload, 1) := by decide +kernel
theorem dX3_markPlaces_70 : decode cX3_markPlaces 70 = .ok (.lconst 1, 1) := by decide +kernel
theorem dX3_markPlaces_71 : decode cX3_markPlaces 71 = .ok (.iload_n 3, 1) := by decide +kernel
theorem dX3_markPlaces_72 : decode cX3_markPlaces 72 = .ok (.lshl, 1) := by decide +kernel
theorem dX3_markPlaces_73 : decode cX3_markPlaces 73 = .ok (.lor, 1) := by decide +kernel
theorem dX3_markPlaces_74 : decode cX3_markPlaces 74 = .ok (.lastore, 1) := by decide +kernel
theorem dX3_markPlaces_75 : decode cX3_markPlaces 75 = .ok (.iinc 3 1, 3) := by decide +kernel
theorem dX3_markPlaces_78 : decode cX3_markPlaces 78 = .ok (.goto (-53), 3) := by decide +kernel
theorem dX3_markPlaces_81 : decode cX3_markPlaces 81 = .ok (.return_, 1) := by decide +kernel
theorem dX3_tryAllGaps_0 : decode cX3_tryAllGaps 0 = .ok (.aload_n 1, 1) := by decide +kernel
theorem dX3_tryAllGaps_1 : decode cX3_tryAllGaps 1 = .ok (.getfield 88, 3) := by decide +kernel
theorem dX3_tryAllGaps_4 : decode cX3_tryAllGaps 4 = .ok (.istore_n 3, 1) := by decide +kernel
theorem dX3_tryAllGaps_5 : decode cX3_tryAllGaps 5 = .ok (.iload_n 3, 1) := by decide +kernel
theorem dX3_tryAllGaps_6 : decode cX3_tryAllGaps 6 = .ok (.bipush 20, 2) := by decide +kernel
theorem dX3_tryAllGaps_8 : decode cX3_tryAllGaps 8 = .ok (.if_icmp .gt 85, 3) := by decide +kernel
theorem dX3_tryAllGaps_11 : decode cX3_tryAllGaps 11 = .ok (.iconst 0, 1) := by decide +kernel
theorem dX3_tryAllGaps_12 : decode cX3_tryAllGaps 12 = .ok (.istore 4, 2) := by decide +kernel
theorem dX3_tryAllGaps_14 : decode cX3_tryAllGaps 14 = .ok (.iload 4, 2) := by decide +kernel
theorem dX3_tryAllGaps_16 : decode cX3_tryAllGaps 16 = .ok (.iload_n 2, 1) := by decide +kernel
theorem dX3_tryAllGaps_17 : decode cX3_tryAllGaps 17 = .ok (.iload_n 3, 1) := by decide +kernel
theorem dX3_tryAllGaps_18 : decode cX3_tryAllGaps 18 = .ok (.aload_n 0, 1) := by decide +kernel
theorem dX3_tryAllGaps_19 : decode cX3_tryAllGaps 19 = .ok (.getfield 46, 3) := by decide +kernel
theorem dX3_tryAllGaps_22 : decode cX3_tryAllGaps 22 = .ok (.iconst 1, 1) := by decide +kernel
theorem dX3_tryAllGaps_23 : decode cX3_tryAllGaps 23 = .ok (.isub, 1) := by decide +kernel
theorem dX3_tryAllGaps_24 : decode cX3_tryAllGaps 24 = .ok (.imul, 1) := by decide +kernel
theorem dX3_tryAllGaps_25 : decode cX3_tryAllGaps 25 = .ok (.isub, 1) := by decide +kernel
theorem dX3_tryAllGaps_26 : decode cX3_tryAllGaps 26 = .ok (.if_icmp .gt 61, 3) := by decide +kernel
theorem dX3_tryAllGaps_29 : decode cX3_tryAllGaps 29 = .ok (.aload_n 0, 1) := by decide +kernel
theorem dX3_tryAllGaps_30 : decode cX3_tryAllGaps 30 = .ok (.getfield 25, 3) := by decide +kernel
theorem dX3_tryAllGaps_33 : decode cX3_tryAllGaps 33 = .ok (.ifCond .eq 26, 3) := by decide +kernel
theorem dX3_tryAllGaps_36 : decode cX3_tryAllGaps 36 = .ok (.aload_n 0, 1) := by decide +kernel
theorem dX3_tryAllGaps_37 : decode cX3_tryAllGaps 37 = .ok (.getfield 29, 3) := by decide +kernel
theorem dX3_tryAllGaps_40 : decode cX3_tryAllGaps 40 = .ok (.aload_n 0, 1) := by decide +kernel
theorem dX3_tryAllGaps_41 : decode cX3_tryAllGaps 41 = .ok (.getfield 54, 3) := by decide +kernel
theorem dX3_tryAllGaps_44 : decode cX3_tryAllGaps 44 = .ok (.if_icmp .ne 15, 3) := by decide +kernel
theorem dX3_tryAllGaps_47 : decode cX3_tryAllGaps 47 = .ok (.aload_n 0, 1) := by decide +kernel
theorem dX3_tryAllGaps_48 : decode cX3_tryAllGaps 48 = .ok (.getfield 33, 3) := by decide +kernel
theorem dX3_tryAllGaps_51 : decode cX3_tryAllGaps 51 = .ok (.aload_n 0, 1) := by decide +kernel
theorem dX3_tryAllGaps_52 : decode cX3_tryAllGaps 52 = .ok (.getfield 57, 3) := by decide +kernel
theorem dX3_tryAllGaps_55 : decode cX3_tryAllGaps 55 = .ok (.if_icmp .ne 4, 3) := by decide +kernel
theorem dX3_tryAllGaps_58 : decode cX3_tryAllGaps 58 = .ok (.return_, 1) := by decide +kernel
theorem dX3_tryAllGaps_59 : decode cX3_tryAllGaps 59 = .ok (.aload_n 0, 1) := by decide +kernel
theorem dX3_tryAllGaps_60 : decode cX3_tryAllGaps 60 = .ok (.iload_n 3, 1) := by decide +kernel
theorem dX3_tryAllGaps_61 : decode cX3_tryAllGaps 61 = .ok (.putfield 89, 3) := by decide +kernel
theorem dX3_tryAllGaps_64 : decode cX3_tryAllGaps 64 = .ok (.aload_n 0, 1) := by decide +kernel
theorem dX3_tryAllGaps_65 : decode cX3_tryAllGaps 65 = .ok (.iload 4, 2) := by decide +kernel
theorem dX3_tryAllGaps_67 : decode cX3_tryAllGaps 67 = .ok (.putfield 92, 3) := by decide +kernel
theorem dX3_tryAllGaps_70 : decode cX3_tryAllGaps 70 = .ok (.aload_n 0, 1) := by decide +kernel
theorem dX3_tryAllGaps_71 : decode cX3_tryAllGaps 71 = .ok (.aload_n 1, 1) := by decide +kernel
theorem dX3_tryAllGaps_72 : decode cX3_tryAllGaps 72 = .ok (.iconst 0, 1) := by decide +kernel
theorem dX3_tryAllGaps_73 : decode cX3_tryAllGaps 73 = .ok (.iload 4, 2) := by decide +kernel
theorem dX3_tryAllGaps_75 : decode cX3_tryAllGaps 75 = .ok (.iconst 0, 1) := by decide +kernel
theorem dX3_tryAllGaps_76 : decode cX3_tryAllGaps 76 = .ok (.iconst 0, 1) := by decide +kernel
theorem dX3_tryAllGaps_77 : decode cX3_tryAllGaps 77 = .ok (.iconst 0, 1) := by decide +kernel
theorem dX3_tryAllGaps_78 : decode cX3_tryAllGaps 78 = .ok (.invokestatic 95, 3) := by decide +kernel
theorem dX3_tryAllGaps_81 : decode cX3_tryAllGaps 81 = .ok (.iinc 4 1, 3) := by decide +kernel
theorem dX3_tryAllGaps_84 : decode cX3_tryAllGaps 84 = .ok (.goto (-70), 3) := by decide +kernel
theorem dX3_tryAllGaps_87 : decode cX3_tryAllGaps 87 = .ok (.iinc 3 1, 3) := by decide +kernel
theorem dX3_tryAllGaps_90 : decode cX3_tryAllGaps 90 = .ok (.goto (-85), 3) := by decide +kernel
theorem dX3_tryAllGaps_93 : decode cX3_tryAllGaps 93 = .ok (.return_, 1) := by decide +kernel
theorem dX3_tryOrders_0 : decode cX3_tryOrders 0 = .ok (.aload_n 0, 1) := by decide +kernel
theorem dX3_tryOrders_1 : decode cX3_tryOrders 1 = .ok (.getfield 25, 3) := by decide +kernel
theorem dX3_tryOrders_4 : decode cX3_tryOrders 4 = .ok (.ifCond .eq 13, 3) := by decide +kernel
theorem dX3_tryOrders_7 : decode cX3_tryOrders 7 = .ok (.iload 5, 2) := by decide +kernel
theorem dX3_tryOrders_9 : decode cX3_tryOrders 9 = .ok (.aload_n 0, 1) := by decide +kernel
theorem dX3_tryOrders_10 : decode cX3_tryOrders 10 = .ok (.getfield 29, 3) := by decide +kernel
theorem dX3_tryOrders_13 : decode cX3_tryOrders 13 = .ok (.if_icmp .le 4, 3) := by decide +kernel
theorem dX3_tryOrders_16 : decode cX3_tryOrders 16 = .ok (.return_, 1) := by decide +kernel
theorem dX3_tryOrders_17 : decode cX3_tryOrders 17 = .ok (.iload_n 2, 1) := by decide +kernel
theorem dX3_tryOrders_18 : decode cX3_tryOrders 18 = .ok (.aload_n 0, 1) := by decide +kernel
theorem dX3_tryOrders_19 : decode cX3_tryOrders 19 = .ok (.getfield 46, 3) := by decide +kernel
theorem dX3_tryOrders_22 : decode cX3_tryOrders 22 = .ok (.if_icmp .lt 15, 3) := by decide +kernel
theorem dX3_tryOrders_25 : decode cX3_tryOrders 25 = .ok (.aload_n 0, 1) := by decide +kernel
theorem dX3_tryOrders_26 : decode cX3_tryOrders 26 = .ok (.iload 5, 2) := by decide +kernel
theorem dX3_tryOrders_28 : decode cX3_tryOrders 28 = .ok (.iload 6, 2) := by decide +kernel
theorem dX3_tryOrders_30 : decode cX3_tryOrders 30 = .ok (.invokestatic 99, 3) := by decide +kernel
theorem dX3_tryOrders_33 : decode cX3_tryOrders 33 = .ok (.invokevirtual 104, 3) := by decide +kernel
theorem dX3_tryOrders_36 : decode cX3_tryOrders 36 = .ok (.return_, 1) := by decide +kernel
theorem dX3_tryOrders_37 : decode cX3_tryOrders 37 = .ok (.iconst 0, 1) := by decide +kernel
theorem dX3_tryOrders_38 : decode cX3_tryOrders 38 = .ok (.istore 7, 2) := by decide +kernel
theorem dX3_tryOrders_40 : decode cX3_tryOrders 40 = .ok (.iload 7, 2) := by decide +kernel
theorem dX3_tryOrders_42 : decode cX3_tryOrders 42 = .ok (.aload_n 0, 1) := by decide +kernel
theorem dX3_tryOrders_43 : decode cX3_tryOrders 43 = .ok (.getfield 46, 3) := by decide +kernel
theorem dX3_tryOrders_46 : decode cX3_tryOrders 46 = .ok (.if_icmp .ge 103, 3) := by decide +kernel
theorem dX3_tryOrders_49 : decode cX3_tryOrders 49 = .ok (.iload 4, 2) := by decide +kernel
theorem dX3_tryOrders_51 : decode cX3_tryOrders 51 = .ok (.iconst 1, 1) := by decide +kernel
theorem dX3_tryOrders_52 : decode cX3_tryOrders 52 = .ok (.iload 7, 2) := by decide +kernel
theorem dX3_tryOrders_54 : decode cX3_tryOrders 54 = .ok (.ishl, 1) := by decide +kernel
theorem dX3_tryOrders_55 : decode cX3_tryOrders 55 = .ok (.iand, 1) := by decide +kernel
theorem dX3_tryOrders_56 : decode cX3_tryOrders 56 = .ok (.ifCond .ne 87, 3) := by decide +kernel
theorem dX3_tryOrders_59 : decode cX3_tryOrders 59 = .ok (.aload_n 0, 1) := by decide +kernel
theorem dX3_tryOrders_60 : decode cX3_tryOrders 60 = .ok (.getfield 9, 3) := by decide +kernel
theorem dX3_tryOrders_63 : decode cX3_tryOrders 63 = .ok (.iload 7, 2) := by decide +kernel
theorem dX3_tryOrders_65 : decode cX3_tryOrders 65 = .ok (.laload, 1) := by decide +kernel
theorem dX3_tryOrders_66 : decode cX3_tryOrders 66 = .ok (.iload_n 3, 1) := by decide +kernel
theorem dX3_tryOrders_67 : decode cX3_tryOrders 67 = .ok (.invokestatic 108, 3) := by decide +kernel
theorem dX3_tryOrders_70 : decode cX3_tryOrders 70 = .ok (.ifCond .eq 73, 3) := by decide +kernel
theorem dX3_tryOrders_73 : decode cX3_tryOrders 73 = .ok (.aload_n 0, 1) := by decide +kernel
theorem dX3_tryOrders_74 : decode cX3_tryOrders 74 = .ok (.getfield 18, 3) := by decide +kernel
theorem dX3_tryOrders_77 : decode cX3_tryOrders 77 = .ok (.iload_n 2, 1) := by decide +kernel
theorem dX3_tryOrders_78 : decode cX3_tryOrders 78 = .ok (.iload 7, 2) := by decide +kernel
theorem dX3_tryOrders_80 : decode cX3_tryOrders 80 = .ok (.iastore, 1) := by decide +kernel
theorem dX3_tryOrders_81 : decode cX3_tryOrders 81 = .ok (.aload_n 0, 1) := by decide +kernel
theorem dX3_tryOrders_82 : decode cX3_tryOrders 82 = .ok (.aload_n 1, 1) := by decide +kernel
theorem dX3_tryOrders_83 : decode cX3_tryOrders 83 = .ok (.iload_n 2, 1) := by decide +kernel
theorem dX3_tryOrders_84 : decode cX3_tryOrders 84 = .ok (.iconst 1, 1) := by decide +kernel
theorem dX3_tryOrders_85 : decode cX3_tryOrders 85 = .ok (.iadd, 1) := by decide +kernel
theorem dX3_tryOrders_86 : decode cX3_tryOrders 86 = .ok (.iload_n 3, 1) := by decide +kernel
theorem dX3_tryOrders_87 : decode cX3_tryOrders 87 = .ok (.aload_n 1, 1) := by decide +kernel
theorem dX3_tryOrders_88 : decode cX3_tryOrders 88 = .ok (.getfield 67, 3) := by decide +kernel
theorem dX3_tryOrders_91 : decode cX3_tryOrders 91 = .ok (.iload 7, 2) := by decide +kernel
theorem dX3_tryOrders_93 : decode cX3_tryOrders 93 = .ok (.iaload, 1) := by decide +kernel
theorem dX3_tryOrders_94 : decode cX3_tryOrders 94 = .ok (.iadd, 1) := by decide +kernel
theorem dX3_tryOrders_95 : decode cX3_tryOrders 95 = .ok (.aload_n 0, 1) := by decide +kernel
theorem dX3_tryOrders_96 : decode cX3_tryOrders 96 = .ok (.getfield 89, 3) := by decide +kernel
theorem dX3_tryOrders_99 : decode cX3_tryOrders 99 = .ok (.iadd, 1) := by decide +kernel
theorem dX3_tryOrders_100 : decode cX3_tryOrders 100 = .ok (.iload 4, 2) := by decide +kernel
theorem dX3_tryOrders_102 : decode cX3_tryOrders 102 = .ok (.iconst 1, 1) := by decide +kernel
theorem dX3_tryOrders_103 : decode cX3_tryOrders 103 = .ok (.iload 7, 2) := by decide +kernel
theorem dX3_tryOrders_105 : decode cX3_tryOrders 105 = .ok (.ishl, 1) := by decide +kernel
theorem dX3_tryOrders_106 : decode cX3_tryOrders 106 = .ok (.ior, 1) := by decide +kernel
theorem dX3_tryOrders_107 : decode cX3_tryOrders 107 = .ok (.aload_n 0, 1) := by decide +kernel
theorem dX3_tryOrders_108 : decode cX3_tryOrders 108 = .ok (.getfield 15, 3) := by decide +kernel
theorem dX3_tryOrders_111 : decode cX3_tryOrders 111 = .ok (.iload 7, 2) := by decide +kernel
theorem dX3_tryOrders_113 : decode cX3_tryOrders 113 = .ok (.laload, 1) := by decide +kernel
theorem dX3_tryOrders_114 : decode cX3_tryOrders 114 = .ok (.iload_n 3, 1) := by decide +kernel
theorem dX3_tryOrders_115 : decode cX3_tryOrders 115 = .ok (.invokestatic 108, 3) := by decide +kernel
theorem dX3_tryOrders_118 : decode cX3_tryOrders 118 = .ok (.ifCond .eq 8, 3) := by decide +kernel
theorem dX3_tryOrders_121 : decode cX3_tryOrders 121 = .ok (.iload 5, 2) := by decide +kernel
theorem dX3_tryOrders_123 : decode cX3_tryOrders 123 = .ok (.goto 7, 3) := by decide +kernel
theorem dX3_tryOrders_126 : decode cX3_tryOrders 126 = .ok (.iload 5, 2) := by decide +kernel
theorem dX3_tryOrders_128 : decode cX3_tryOrders 128 = .ok (.iconst 1, 1) := by decide +kernel
theorem dX3_tryOrders_129 : decode cX3_tryOrders 129 = .ok (.iadd, 1) := by decide +kernel
theorem dX3_tryOrders_130 : decode cX3_tryOrders 130 = .ok (.iload 6, 2) := by decide +kernel
theorem dX3_tryOrders_132 : decode cX3_tryOrders 132 = .ok (.aload_n 1, 1) := by decide +kernel
theorem dX3_tryOrders_133 : decode cX3_tryOrders 133 = .ok (.iload 7, 2) := by decide +kernel
theorem dX3_tryOrders_135 : decode cX3_tryOrders 135 = .ok (.iload_n 3, 1) := by decide +kernel
theorem dX3_tryOrders_136 : decode cX3_tryOrders 136 = .ok (.invokevirtual 70, 3) := by decide +kernel
theorem dX3_tryOrders_139 : decode cX3_tryOrders 139 = .ok (.iadd, 1) := by decide +kernel
theorem dX3_tryOrders_140 : decode cX3_tryOrders 140 = .ok (.invokestatic 95, 3) := by decide +kernel
theorem dX3_tryOrders_143 : decode cX3_tryOrders 143 = .ok (.iinc 7 1, 3) := by decide +kernel
theorem dX3_tryOrders_146 : decode cX3_tryOrders 146 = .ok (.goto (-106), 3) := by decide +kernel
theorem dX3_tryOrders_149 : decode cX3_tryOrders 149 = .ok (.return_, 1) := by decide +kernel
theorem dX3_takeIfBetter_0 : decode cX3_takeIfBetter 0 = .ok (.aload_n 0, 1) := by decide +kernel
theorem dX3_takeIfBetter_1 : decode cX3_takeIfBetter 1 = .ok (.getfield 25, 3) := by decide +kernel
theorem dX3_takeIfBetter_4 : decode cX3_takeIfBetter 4 = .ok (.ifCond .eq 27, 3) := by decide +kernel
theorem dX3_takeIfBetter_7 : decode cX3_takeIfBetter 7 = .ok (.iload_n 1, 1) := by decide +kernel
theorem dX3_takeIfBetter_8 : decode cX3_takeIfBetter 8 = .ok (.aload_n 0, 1) := by decide +kernel
theorem dX3_takeIfBetter_9 : decode cX3_takeIfBetter 9 = .ok (.getfield 29, 3) := by decide +kernel
theorem dX3_takeIfBetter_12 : decode cX3_takeIfBetter 12 = .ok (.if_icmp .lt 19, 3) := by decide +kernel
theorem dX3_takeIfBetter_15 : decode cX3_takeIfBetter 15 = .ok (.iload_n 1, 1) := by decide +kernel
theorem dX3_takeIfBetter_16 : decode cX3_takeIfBetter 16 = .ok (.aload_n 0, 1) := by decide +kernel
theorem dX3_takeIfBetter_17 : decode cX3_takeIfBetter 17 = .ok (.getfield 29, 3) := by decide +kernel
theorem dX3_takeIfBetter_20 : decode cX3_takeIfBetter 20 = .ok (.if_icmp .ne 56, 3) := by decide +kernel
theorem dX3_takeIfBetter_23 : decode cX3_takeIfBetter 23 = .ok (.iload_n 2, 1) := by decide +kernel
theorem dX3_takeIfBetter_24 : decode cX3_takeIfBetter 24 = .ok (.aload_n 0, 1) := by decide +kernel
theorem dX3_takeIfBetter_25 : decode cX3_takeIfBetter 25 = .ok (.getfield 33, 3) := by decide +kernel
theorem dX3_takeIfBetter_28 : decode cX3_takeIfBetter 28 = .ok (.if_icmp .ge 48, 3) := by decide +kernel
theorem dX3_takeIfBetter_31 : decode cX3_takeIfBetter 31 = .ok (.aload_n 0, 1) := by decide +kernel
theorem dX3_takeIfBetter_32 : decode cX3_takeIfBetter 32 = .ok (.iconst 1, 1) := by decide +kernel
theorem dX3_takeIfBetter_33 : decode cX3_takeIfBetter 33 = .ok (.putfield 25, 3) := by decide +kernel
theorem dX3_takeIfBetter_36 : decode cX3_takeIfBetter 36 = .ok (.aload_n 0, 1) := by decide +kernel
theorem dX3_takeIfBetter_37 : decode cX3_takeIfBetter 37 = .ok (.iload_n 1, 1) := by decide +kernel
theorem dX3_takeIfBetter_38 : decode cX3_takeIfBetter 38 = .ok (.putfield 29, 3) := by decide +kernel
theorem dX3_takeIfBetter_41 : decode cX3_takeIfBetter 41 = .ok (.aload_n 0, 1) := by decide +kernel
theorem dX3_takeIfBetter_42 : decode cX3_takeIfBetter 42 = .ok (.iload_n 2, 1) := by decide +kernel
theorem dX3_takeIfBetter_43 : decode cX3_takeIfBetter 43 = .ok (.putfield 33, 3) := by decide +kernel
theorem dX3_takeIfBetter_46 : decode cX3_takeIfBetter 46 = .ok (.aload_n 0, 1) := by decide +kernel
theorem dX3_takeIfBetter_47 : decode cX3_takeIfBetter 47 = .ok (.aload_n 0, 1) := by decide +kernel
theorem dX3_takeIfBetter_48 : decode cX3_takeIfBetter 48 = .ok (.getfield 89, 3) := by decide +kernel
theorem dX3_takeIfBetter_51 : decode cX3_takeIfBetter 51 = .ok (.putfield 36, 3) := by decide +kernel
theorem dX3_takeIfBetter_54 : decode cX3_takeIfBetter 54 = .ok (.aload_n 0, 1) := by decide +kernel
theorem dX3_takeIfBetter_55 : decode cX3_takeIfBetter 55 = .ok (.aload_n 0, 1) := by decide +kernel
theorem dX3_takeIfBetter_56 : decode cX3_takeIfBetter 56 = .ok (.getfield 92, 3) := by decide +kernel
theorem dX3_takeIfBetter_59 : decode cX3_takeIfBetter 59 = .ok (.putfield 39, 3) := by decide +kernel
theorem dX3_takeIfBetter_62 : decode cX3_takeIfBetter 62 = .ok (.aload_n 0, 1) := by decide +kernel
theorem dX3_takeIfBetter_63 : decode cX3_takeIfBetter 63 = .ok (.getfield 18, 3) := by decide +kernel
theorem dX3_takeIfBetter_66 : decode cX3_takeIfBetter 66 = .ok (.iconst 0, 1) := by decide +kernel
theorem dX3_takeIfBetter_67 : decode cX3_takeIfBetter 67 = .ok (.aload_n 0, 1) := by decide +kernel
theorem dX3_takeIfBetter_68 : decode cX3_takeIfBetter 68 = .ok (.getfield 22, 3) := by decide +kernel
theorem dX3_takeIfBetter_71 : decode cX3_takeIfBetter 71 = .ok (.iconst 0, 1) := by decide +kernel
theorem dX3_takeIfBetter_72 : decode cX3_takeIfBetter 72 = .ok (.iconst 5, 1) := by decide +kernel
theorem dX3_takeIfBetter_73 : decode cX3_takeIfBetter 73 = .ok (.invokestatic 112, 3) := by decide +kernel
theorem dX3_takeIfBetter_76 : decode cX3_takeIfBetter 76 = .ok (.return_, 1) := by decide +kernel
theorem dX3_isMarked_0 : decode cX3_isMarked 0 = .ok (.iload_n 2, 1) := by decide +kernel
theorem dX3_isMarked_1 : decode cX3_isMarked 1 = .ok (.ifCond .lt 23, 3) := by decide +kernel
theorem dX3_isMarked_4 : decode cX3_isMarked 4 = .ok (.iload_n 2, 1) := by decide +kernel
theorem dX3_isMarked_5 : decode cX3_isMarked 5 = .ok (.bipush 40, 2) := by decide +kernel
theorem dX3_isMarked_7 : decode cX3_isMarked 7 = .ok (.if_icmp .ge 17, 3) := by decide +kernel
theorem dX3_isMarked_10 : decode cX3_isMarked 10 = .ok (.lload_n 0, 1) := by decide +kernel
theorem dX3_isMarked_11 : decode cX3_isMarked 11 = .ok (.iload_n 2, 1) := by decide +kernel
theorem dX3_isMarked_12 : decode cX3_isMarked 12 = .ok (.lushr, 1) := by decide +kernel
theorem dX3_isMarked_13 : decode cX3_isMarked 13 = .ok (.lconst 1, 1) := by decide +kernel
theorem dX3_isMarked_14 : decode cX3_isMarked 14 = .ok (.land, 1) := by decide +kernel
theorem dX3_isMarked_15 : decode cX3_isMarked 15 = .ok (.lconst 0, 1) := by decide +kernel
theorem dX3_isMarked_16 : decode cX3_isMarked 16 = .ok (.lcmp, 1) := by decide +kernel
theorem dX3_isMarked_17 : decode cX3_isMarked 17 = .ok (.ifCond .eq 7, 3) := by decide +kernel
theorem dX3_isMarked_20 : decode cX3_isMarked 20 = .ok (.iconst 1, 1) := by decide +kernel
theorem dX3_isMarked_21 : decode cX3_isMarked 21 = .ok (.goto 4, 3) := by decide +kernel
theorem dX3_isMarked_24 : decode cX3_isMarked 24 = .ok (.iconst 0, 1) := by decide +kernel
theorem dX3_isMarked_25 : decode cX3_isMarked 25 = .ok (.ireturn, 1) := by decide +kernel
theorem dX4_init_0 : decode cX4_init 0 = .ok (.aload_n 0, 1) := by decide +kernel
theorem dX4_init_1 : decode cX4_init 1 = .ok (.invokespecial 3, 3) := by decide +kernel
theorem dX4_init_4 : decode cX4_init 4 = .ok (.aload_n 0, 1) := by decide +kernel
theorem dX4_init_5 : decode cX4_init 5 = .ok (.bipush 6, 2) := by decide +kernel
theorem dX4_init_7 : decode cX4_init 7 = .ok (.newarray .int, 2) := by decide +kernel
theorem dX4_init_9 : decode cX4_init 9 = .ok (.putfield 9, 3) := by decide +kernel
theorem dX4_init_12 : decode cX4_init 12 = .ok (.aload_n 0, 1) := by decide +kernel
theorem dX4_init_13 : decode cX4_init 13 = .ok (.bipush 6, 2) := by decide +kernel
theorem dX4_init_15 : decode cX4_init 15 = .ok (.newarray .int, 2) := by decide +kernel
theorem dX4_init_17 : decode cX4_init 17 = .ok (.putfield 15, 3) := by decide +kernel
theorem dX4_init_20 : decode cX4_init 20 = .ok (.return_, 1) := by decide +kernel
theorem dX4_add_0 : decode cX4_add 0 = .ok (.aload_n 0, 1) := by decide +kernel
theorem dX4_add_1 : decode cX4_add 1 = .ok (.getfield 18, 3) := by decide +kernel
theorem dX4_add_4 : decode cX4_add 4 = .ok (.bipush 6, 2) := by decide +kernel
theorem dX4_add_6 : decode cX4_add 6 = .ok (.if_icmp .ge 33, 3) := by decide +kernel
theorem dX4_add_9 : decode cX4_add 9 = .ok (.aload_n 0, 1) := by decide +kernel
theorem dX4_add_10 : decode cX4_add 10 = .ok (.getfield 9, 3) := by decide +kernel
theorem dX4_add_13 : decode cX4_add 13 = .ok (.aload_n 0, 1) := by decide +kernel
theorem dX4_add_14 : decode cX4_add 14 = .ok (.getfield 18, 3) := by decide +kernel
theorem dX4_add_17 : decode cX4_add 17 = .ok (.iload_n 1, 1) := by decide +kernel
theorem dX4_add_18 : decode cX4_add 18 = .ok (.iastore, 1) := by decide +kernel
theorem dX4_add_19 : decode cX4_add 19 = .ok (.aload_n 0, 1) := by decide +kernel
theorem dX4_add_20 : decode cX4_add 20 = .ok (.getfield 15, 3) := by decide +kernel
theorem dX4_add_23 : decode cX4_add 23 = .ok (.aload_n 0, 1) := by decide +kernel
theorem dX4_add_24 : decode cX4_add 24 = .ok (.getfield 18, 3) := by decide +kernel
theorem dX4_add_27 : decode cX4_add 27 = .ok (.iload_n 2, 1) := by decide +kernel
theorem dX4_add_28 : decode cX4_add 28 = .ok (.iastore, 1) := by decide +kernel
theorem dX4_add_29 : decode cX4_add 29 = .ok (.aload_n 0, 1) := by decide +kernel
theorem dX4_add_30 : decode cX4_add 30 = .ok (.dup, 1) := by decide +kernel
theorem dX4_add_31 : decode cX4_add 31 = .ok (.getfield 18, 3) := by decide +kernel
theorem dX4_add_34 : decode cX4_add 34 = .ok (.iconst 1, 1) := by decide +kernel
theorem dX4_add_35 : decode cX4_add 35 = .ok (.iadd, 1) := by decide +kernel
theorem dX4_add_36 : decode cX4_add 36 = .ok (.putfield 18, 3) := by decide +kernel
theorem dX4_add_39 : decode cX4_add 39 = .ok (.return_, 1) := by decide +kernel
theorem dX4_countMatches_0 : decode cX4_countMatches 0 = .ok (.iconst 0, 1) := by decide +kernel
theorem dX4_countMatches_1 : decode cX4_countMatches 1 = .ok (.istore_n 2, 1) := by decide +kernel
theorem dX4_countMatches_2 : decode cX4_countMatches 2 = .ok (.iconst 0, 1) := by decide +kernel
theorem dX4_countMatches_3 : decode cX4_countMatches 3 = .ok (.istore_n 3, 1) := by decide +kernel
theorem dX4_countMatches_4 : decode cX4_countMatches 4 = .ok (.iload_n 3, 1) := by decide +kernel
theorem dX4_countMatches_5 : decode cX4_countMatches 5 = .ok (.aload_n 1, 1) := by decide +kernel
theorem dX4_countMatches_6 : decode cX4_countMatches 6 = .ok (.getfield 22, 3) := by decide +kernel
theorem dX4_countMatches_9 : decode cX4_countMatches 9 = .ok (.if_icmp .ge 21, 3) := by decide +kernel
theorem dX4_countMatches_12 : decode cX4_countMatches 12 = .ok (.aload_n 0, 1) := by decide +kernel
theorem dX4_countMatches_13 : decode cX4_countMatches 13 = .ok (.aload_n 1, 1) := by decide +kernel
theorem dX4_countMatches_14 : decode cX4_countMatches 14 = .ok (.iload_n 3, 1) := by decide +kernel
theorem dX4_countMatches_15 : decode cX4_countMatches 15 = .ok (.invokevirtual 27, 3) := by decide +kernel
theorem dX4_countMatches_18 : decode cX4_countMatches 18 = .ok (.ifCond .eq 6, 3) := by decide +kernel
theorem dX4_countMatches_21 : decode cX4_countMatches 21 = .ok (.iinc 2 1, 3) := by decide +kernel
theorem dX4_countMatches_24 : decode cX4_countMatches 24 = .ok (.iinc 3 1, 3) := by decide +kernel
theorem dX4_countMatches_27 : decode cX4_countMatches 27 = .ok (.goto (-23), 3) := by decide +kernel
theorem dX4_countMatches_30 : decode cX4_countMatches 30 = .ok (.iload_n 2, 1) := by decide +kernel
theorem dX4_countMatches_31 : decode cX4_countMatches 31 = .ok (.ireturn, 1) := by decide +kernel
theorem dX4_leastMatch_0 : decode cX4_leastMatch 0 = .ok (.iconst 0, 1) := by decide +kernel
theorem dX4_leastMatch_1 : decode cX4_leastMatch 1 = .ok (.istore_n 2, 1) := by decide +kernel
theorem dX4_leastMatch_2 : decode cX4_leastMatch 2 = .ok (.iload_n 2, 1) := by decide +kernel
theorem dX4_leastMatch_3 : decode cX4_leastMatch 3 = .ok (.aload_n 1, 1) := by decide +kernel
theorem dX4_leastMatch_4 : decode cX4_leastMatch 4 = .ok (.getfield 22, 3) := by decide +kernel
theorem dX4_leastMatch_7 : decode cX4_leastMatch 7 = .ok (.if_icmp .ge 20, 3) := by decide +kernel
theorem dX4_leastMatch_10 : decode cX4_leastMatch 10 = .ok (.aload_n 0, 1) := by decide +kernel
theorem dX4_leastMatch_11 : decode cX4_leastMatch 11 = .ok (.aload_n 1, 1) := by decide +kernel
theorem dX4_leastMatch_12 : decode cX4_leastMatch 12 = .ok (.iload_n 2, 1) := by decide +kernel
theorem dX4_leastMatch_13 : decode cX4_leastMatch 13 = .ok (.invokevirtual 27, 3) := by decide +kernel
theorem dX4_leastMatch_16 : decode cX4_leastMatch 16 = .ok (.ifCond .eq 5, 3) := by decide +kernel
theorem dX4_leastMatch_19 : decode cX4_leastMatch 19 = .ok (.iload_n 2, 1) := by decide +kernel
theorem dX4_leastMatch_20 : decode cX4_leastMatch 20 = .ok (.ireturn, 1) := by decide +kernel
theorem dX4_leastMatch_21 : decode cX4_leastMatch 21 = .ok (.iinc 2 1, 3) := by decide +kernel
theorem dX4_leastMatch_24 : decode cX4_leastMatch 24 = .ok (.goto (-22), 3) := by decide +kernel
theorem dX4_leastMatch_27 : decode cX4_leastMatch 27 = .ok (.bipush (-9), 2) := by decide +kernel
theorem dX4_leastMatch_29 : decode cX4_leastMatch 29 = .ok (.ireturn, 1) := by decide +kernel
theorem dX4_matches_0 : decode cX4_matches 0 = .ok (.iconst 0, 1) := by decide +kernel
theorem dX4_matches_1 : decode cX4_matches 1 = .ok (.istore_n 3, 1) := by decide +kernel
theorem dX4_matches_2 : decode cX4_matches 2 = .ok (.iload_n 3, 1) := by decide +kernel
theorem dX4_matches_3 : decode cX4_matches 3 = .ok (.aload_n 0, 1) := by decide +kernel
