theorem dX4_matches_4 : decode cX4_matches 4 = .ok (.getfield 18, 3) := by decide +kernel
theorem dX4_matches_7 : decode cX4_matches 7 = .ok (.if_icmp .ge 31, 3) := by decide +kernel
theorem dX4_matches_10 : decode cX4_matches 10 = .ok (.aload_n 1, 1) := by decide +kernel
theorem dX4_matches_11 : decode cX4_matches 11 = .ok (.iload_n 2, 1) := by decide +kernel
theorem dX4_matches_12 : decode cX4_matches 12 = .ok (.aload_n 0, 1) := by decide +kernel
theorem dX4_matches_13 : decode cX4_matches 13 = .ok (.getfield 9, 3) := by decide +kernel
theorem dX4_matches_16 : decode cX4_matches 16 = .ok (.iload_n 3, 1) := by decide +kernel
theorem dX4_matches_17 : decode cX4_matches 17 = .ok (.iaload, 1) := by decide +kernel
theorem dX4_matches_18 : decode cX4_matches 18 = .ok (.invokestatic 31, 3) := by decide +kernel
theorem dX4_matches_21 : decode cX4_matches 21 = .ok (.aload_n 0, 1) := by decide +kernel
theorem dX4_matches_22 : decode cX4_matches 22 = .ok (.getfield 15, 3) := by decide +kernel
theorem dX4_matches_25 : decode cX4_matches 25 = .ok (.iload_n 3, 1) := by decide +kernel
theorem dX4_matches_26 : decode cX4_matches 26 = .ok (.iaload, 1) := by decide +kernel
theorem dX4_matches_27 : decode cX4_matches 27 = .ok (.if_icmp .eq 5, 3) := by decide +kernel
theorem dX4_matches_30 : decode cX4_matches 30 = .ok (.iconst 0, 1) := by decide +kernel
theorem dX4_matches_31 : decode cX4_matches 31 = .ok (.ireturn, 1) := by decide +kernel
theorem dX4_matches_32 : decode cX4_matches 32 = .ok (.iinc 3 1, 3) := by decide +kernel
theorem dX4_matches_35 : decode cX4_matches 35 = .ok (.goto (-33), 3) := by decide +kernel
theorem dX4_matches_38 : decode cX4_matches 38 = .ok (.iconst 1, 1) := by decide +kernel
theorem dX4_matches_39 : decode cX4_matches 39 = .ok (.ireturn, 1) := by decide +kernel
theorem dX4_measured_0 : decode cX4_measured 0 = .ok (.aload_n 0, 1) := by decide +kernel
theorem dX4_measured_1 : decode cX4_measured 1 = .ok (.iload_n 1, 1) := by decide +kernel
theorem dX4_measured_2 : decode cX4_measured 2 = .ok (.invokevirtual 35, 3) := by decide +kernel
theorem dX4_measured_5 : decode cX4_measured 5 = .ok (.ifCond .ne 6, 3) := by decide +kernel
theorem dX4_measured_8 : decode cX4_measured 8 = .ok (.ldc 39, 2) := by decide +kernel
theorem dX4_measured_10 : decode cX4_measured 10 = .ok (.ireturn, 1) := by decide +kernel
theorem dX4_measured_11 : decode cX4_measured 11 = .ok (.iload_n 2, 1) := by decide +kernel
theorem dX4_measured_12 : decode cX4_measured 12 = .ok (.tableswitch 49 0 2 #[28, 35, 42], 28) := by decide +kernel
theorem dX4_measured_40 : decode cX4_measured 40 = .ok (.aload_n 0, 1) := by decide +kernel
theorem dX4_measured_41 : decode cX4_measured 41 = .ok (.getfield 40, 3) := by decide +kernel
theorem dX4_measured_44 : decode cX4_measured 44 = .ok (.iload_n 1, 1) := by decide +kernel
theorem dX4_measured_45 : decode cX4_measured 45 = .ok (.iaload, 1) := by decide +kernel
theorem dX4_measured_46 : decode cX4_measured 46 = .ok (.ireturn, 1) := by decide +kernel
theorem dX4_measured_47 : decode cX4_measured 47 = .ok (.aload_n 0, 1) := by decide +kernel
theorem dX4_measured_48 : decode cX4_measured 48 = .ok (.getfield 43, 3) := by decide +kernel
theorem dX4_measured_51 : decode cX4_measured 51 = .ok (.iload_n 1, 1) := by decide +kernel
theorem dX4_measured_52 : decode cX4_measured 52 = .ok (.iaload, 1) := by decide +kernel
theorem dX4_measured_53 : decode cX4_measured 53 = .ok (.ireturn, 1) := by decide +kernel
theorem dX4_measured_54 : decode cX4_measured 54 = .ok (.aload_n 0, 1) := by decide +kernel
theorem dX4_measured_55 : decode cX4_measured 55 = .ok (.getfield 46, 3) := by decide +kernel
theorem dX4_measured_58 : decode cX4_measured 58 = .ok (.iload_n 1, 1) := by decide +kernel
theorem dX4_measured_59 : decode cX4_measured 59 = .ok (.iaload, 1) := by decide +kernel
theorem dX4_measured_60 : decode cX4_measured 60 = .ok (.ireturn, 1) := by decide +kernel
theorem dX4_measured_61 : decode cX4_measured 61 = .ok (.aload_n 0, 1) := by decide +kernel
theorem dX4_measured_62 : decode cX4_measured 62 = .ok (.iload_n 1, 1) := by decide +kernel
theorem dX4_measured_63 : decode cX4_measured 63 = .ok (.invokevirtual 49, 3) := by decide +kernel
theorem dX4_measured_66 : decode cX4_measured 66 = .ok (.ireturn, 1) := by decide +kernel
theorem dX5_init_0 : decode cX5_init 0 = .ok (.aload_n 0, 1) := by decide +kernel
theorem dX5_init_1 : decode cX5_init 1 = .ok (.invokespecial 3, 3) := by decide +kernel
theorem dX5_init_4 : decode cX5_init 4 = .ok (.aload_n 0, 1) := by decide +kernel
theorem dX5_init_5 : decode cX5_init 5 = .ok (.bipush 121, 2) := by decide +kernel
theorem dX5_init_7 : decode cX5_init 7 = .ok (.newarray .int, 2) := by decide +kernel
theorem dX5_init_9 : decode cX5_init 9 = .ok (.putfield 11, 3) := by decide +kernel
theorem dX5_init_12 : decode cX5_init 12 = .ok (.aload_n 0, 1) := by decide +kernel
theorem dX5_init_13 : decode cX5_init 13 = .ok (.bipush 121, 2) := by decide +kernel
theorem dX5_init_15 : decode cX5_init 15 = .ok (.newarray .int, 2) := by decide +kernel
theorem dX5_init_17 : decode cX5_init 17 = .ok (.putfield 15, 3) := by decide +kernel
theorem dX5_init_20 : decode cX5_init 20 = .ok (.aload_n 0, 1) := by decide +kernel
theorem dX5_init_21 : decode cX5_init 21 = .ok (.bipush 121, 2) := by decide +kernel
theorem dX5_init_23 : decode cX5_init 23 = .ok (.newarray .int, 2) := by decide +kernel
theorem dX5_init_25 : decode cX5_init 25 = .ok (.putfield 18, 3) := by decide +kernel
theorem dX5_init_28 : decode cX5_init 28 = .ok (.return_, 1) := by decide +kernel
theorem dX5_cut_0 : decode cX5_cut 0 = .ok (.aload_n 0, 1) := by decide +kernel
theorem dX5_cut_1 : decode cX5_cut 1 = .ok (.iconst 0, 1) := by decide +kernel
theorem dX5_cut_2 : decode cX5_cut 2 = .ok (.putfield 21, 3) := by decide +kernel
theorem dX5_cut_5 : decode cX5_cut 5 = .ok (.iconst 0, 1) := by decide +kernel
theorem dX5_cut_6 : decode cX5_cut 6 = .ok (.istore_n 3, 1) := by decide +kernel
theorem dX5_cut_7 : decode cX5_cut 7 = .ok (.iload_n 3, 1) := by decide +kernel
theorem dX5_cut_8 : decode cX5_cut 8 = .ok (.iload_n 2, 1) := by decide +kernel
theorem dX5_cut_9 : decode cX5_cut 9 = .ok (.if_icmp .ge 56, 3) := by decide +kernel
theorem dX5_cut_12 : decode cX5_cut 12 = .ok (.iload_n 3, 1) := by decide +kernel
theorem dX5_cut_13 : decode cX5_cut 13 = .ok (.aload_n 1, 1) := by decide +kernel
theorem dX5_cut_14 : decode cX5_cut 14 = .ok (.arraylength, 1) := by decide +kernel
theorem dX5_cut_15 : decode cX5_cut 15 = .ok (.if_icmp .ge 50, 3) := by decide +kernel
theorem dX5_cut_18 : decode cX5_cut 18 = .ok (.aload_n 1, 1) := by decide +kernel
theorem dX5_cut_19 : decode cX5_cut 19 = .ok (.iload_n 2, 1) := by decide +kernel
theorem dX5_cut_20 : decode cX5_cut 20 = .ok (.iload_n 3, 1) := by decide +kernel
theorem dX5_cut_21 : decode cX5_cut 21 = .ok (.invokestatic 25, 3) := by decide +kernel
theorem dX5_cut_24 : decode cX5_cut 24 = .ok (.istore 4, 2) := by decide +kernel
theorem dX5_cut_26 : decode cX5_cut 26 = .ok (.aload_n 1, 1) := by decide +kernel
theorem dX5_cut_27 : decode cX5_cut 27 = .ok (.iload_n 3, 1) := by decide +kernel
theorem dX5_cut_28 : decode cX5_cut 28 = .ok (.iaload, 1) := by decide +kernel
theorem dX5_cut_29 : decode cX5_cut 29 = .ok (.bipush 32, 2) := by decide +kernel
theorem dX5_cut_31 : decode cX5_cut 31 = .ok (.if_icmp .eq 22, 3) := by decide +kernel
theorem dX5_cut_34 : decode cX5_cut 34 = .ok (.aload_n 0, 1) := by decide +kernel
theorem dX5_cut_35 : decode cX5_cut 35 = .ok (.aload_n 1, 1) := by decide +kernel
theorem dX5_cut_36 : decode cX5_cut 36 = .ok (.iload_n 3, 1) := by decide +kernel
theorem dX5_cut_37 : decode cX5_cut 37 = .ok (.iload 4, 2) := by decide +kernel
theorem dX5_cut_39 : decode cX5_cut 39 = .ok (.invokestatic 29, 3) := by decide +kernel
theorem dX5_cut_42 : decode cX5_cut 42 = .ok (.iload_n 3, 1) := by decide +kernel
theorem dX5_cut_43 : decode cX5_cut 43 = .ok (.aload_n 1, 1) := by decide +kernel
theorem dX5_cut_44 : decode cX5_cut 44 = .ok (.iload_n 3, 1) := by decide +kernel
theorem dX5_cut_45 : decode cX5_cut 45 = .ok (.iload 4, 2) := by decide +kernel
theorem dX5_cut_47 : decode cX5_cut 47 = .ok (.invokestatic 32, 3) := by decide +kernel
theorem dX5_cut_50 : decode cX5_cut 50 = .ok (.invokevirtual 35, 3) := by decide +kernel
theorem dX5_cut_53 : decode cX5_cut 53 = .ok (.iload 4, 2) := by decide +kernel
theorem dX5_cut_55 : decode cX5_cut 55 = .ok (.iload_n 3, 1) := by decide +kernel
theorem dX5_cut_56 : decode cX5_cut 56 = .ok (.iconst 1, 1) := by decide +kernel
theorem dX5_cut_57 : decode cX5_cut 57 = .ok (.iadd, 1) := by decide +kernel
theorem dX5_cut_58 : decode cX5_cut 58 = .ok (.invokestatic 39, 3) := by decide +kernel
theorem dX5_cut_61 : decode cX5_cut 61 = .ok (.istore_n 3, 1) := by decide +kernel
theorem dX5_cut_62 : decode cX5_cut 62 = .ok (.goto (-55), 3) := by decide +kernel
theorem dX5_cut_65 : decode cX5_cut 65 = .ok (.aload_n 0, 1) := by decide +kernel
theorem dX5_cut_66 : decode cX5_cut 66 = .ok (.iconst 0, 1) := by decide +kernel
theorem dX5_cut_67 : decode cX5_cut 67 = .ok (.iload_n 2, 1) := by decide +kernel
theorem dX5_cut_68 : decode cX5_cut 68 = .ok (.iconst 0, 1) := by decide +kernel
theorem dX5_cut_69 : decode cX5_cut 69 = .ok (.invokevirtual 35, 3) := by decide +kernel
theorem dX5_cut_72 : decode cX5_cut 72 = .ok (.return_, 1) := by decide +kernel
theorem dX5_add_0 : decode cX5_add 0 = .ok (.aload_n 0, 1) := by decide +kernel
theorem dX5_add_1 : decode cX5_add 1 = .ok (.getfield 21, 3) := by decide +kernel
theorem dX5_add_4 : decode cX5_add 4 = .ok (.bipush 121, 2) := by decide +kernel
theorem dX5_add_6 : decode cX5_add 6 = .ok (.if_icmp .ge 43, 3) := by decide +kernel
theorem dX5_add_9 : decode cX5_add 9 = .ok (.aload_n 0, 1) := by decide +kernel
theorem dX5_add_10 : decode cX5_add 10 = .ok (.getfield 11, 3) := by decide +kernel
theorem dX5_add_13 : decode cX5_add 13 = .ok (.aload_n 0, 1) := by decide +kernel
theorem dX5_add_14 : decode cX5_add 14 = .ok (.getfield 21, 3) := by decide +kernel
theorem dX5_add_17 : decode cX5_add 17 = .ok (.iload_n 1, 1) := by decide +kernel
theorem dX5_add_18 : decode cX5_add 18 = .ok (.iastore, 1) := by decide +kernel
theorem dX5_add_19 : decode cX5_add 19 = .ok (.aload_n 0, 1) := by decide +kernel
theorem dX5_add_20 : decode cX5_add 20 = .ok (.getfield 15, 3) := by decide +kernel
theorem dX5_add_23 : decode cX5_add 23 = .ok (.aload_n 0, 1) := by decide +kernel
theorem dX5_add_24 : decode cX5_add 24 = .ok (.getfield 21, 3) := by decide +kernel
theorem dX5_add_27 : decode cX5_add 27 = .ok (.iload_n 2, 1) := by decide +kernel
theorem dX5_add_28 : decode cX5_add 28 = .ok (.iastore, 1) := by decide +kernel
theorem dX5_add_29 : decode cX5_add 29 = .ok (.aload_n 0, 1) := by decide +kernel
theorem dX5_add_30 : decode cX5_add 30 = .ok (.getfield 18, 3) := by decide +kernel
theorem dX5_add_33 : decode cX5_add 33 = .ok (.aload_n 0, 1) := by decide +kernel
theorem dX5_add_34 : decode cX5_add 34 = .ok (.getfield 21, 3) := by decide +kernel
theorem dX5_add_37 : decode cX5_add 37 = .ok (.iload_n 3, 1) := by decide +kernel
theorem dX5_add_38 : decode cX5_add 38 = .ok (.iastore, 1) := by decide +kernel
theorem dX5_add_39 : decode cX5_add 39 = .ok (.aload_n 0, 1) := by decide +kernel
theorem dX5_add_40 : decode cX5_add 40 = .ok (.dup, 1) := by decide +kernel
theorem dX5_add_41 : decode cX5_add 41 = .ok (.getfield 21, 3) := by decide +kernel
theorem dX5_add_44 : decode cX5_add 44 = .ok (.iconst 1, 1) := by decide +kernel
theorem dX5_add_45 : decode cX5_add 45 = .ok (.iadd, 1) := by decide +kernel
theorem dX5_add_46 : decode cX5_add 46 = .ok (.putfield 21, 3) := by decide +kernel
theorem dX5_add_49 : decode cX5_add 49 = .ok (.return_, 1) := by decide +kernel
theorem dX5_endOfToken_0 : decode cX5_endOfToken 0 = .ok (.aload_n 0, 1) := by decide +kernel
theorem dX5_endOfToken_1 : decode cX5_endOfToken 1 = .ok (.iload_n 2, 1) := by decide +kernel
theorem dX5_endOfToken_2 : decode cX5_endOfToken 2 = .ok (.invokestatic 45, 3) := by decide +kernel
theorem dX5_endOfToken_5 : decode cX5_endOfToken 5 = .ok (.istore_n 3, 1) := by decide +kernel
theorem dX5_endOfToken_6 : decode cX5_endOfToken 6 = .ok (.iload_n 2, 1) := by decide +kernel
theorem dX5_endOfToken_7 : decode cX5_endOfToken 7 = .ok (.iconst 1, 1) := by decide +kernel
theorem dX5_endOfToken_8 : decode cX5_endOfToken 8 = .ok (.iadd, 1) := by decide +kernel
theorem dX5_endOfToken_9 : decode cX5_endOfToken 9 = .ok (.istore 4, 2) := by decide +kernel
theorem dX5_endOfToken_11 : decode cX5_endOfToken 11 = .ok (.iload_n 3, 1) := by decide +kernel
theorem dX5_endOfToken_12 : decode cX5_endOfToken 12 = .ok (.iconst 1, 1) := by decide +kernel
theorem dX5_endOfToken_13 : decode cX5_endOfToken 13 = .ok (.if_icmp .eq 25, 3) := by decide +kernel
theorem dX5_endOfToken_16 : decode cX5_endOfToken 16 = .ok (.iload 4, 2) := by decide +kernel
theorem dX5_endOfToken_18 : decode cX5_endOfToken 18 = .ok (.iload_n 1, 1) := by decide +kernel
theorem dX5_endOfToken_19 : decode cX5_endOfToken 19 = .ok (.if_icmp .ge 19, 3) := by decide +kernel
theorem dX5_endOfToken_22 : decode cX5_endOfToken 22 = .ok (.aload_n 0, 1) := by decide +kernel
theorem dX5_endOfToken_23 : decode cX5_endOfToken 23 = .ok (.iload 4, 2) := by decide +kernel
theorem dX5_endOfToken_25 : decode cX5_endOfToken 25 = .ok (.invokestatic 45, 3) := by decide +kernel
theorem dX5_endOfToken_28 : decode cX5_endOfToken 28 = .ok (.iload_n 3, 1) := by decide +kernel
theorem dX5_endOfToken_29 : decode cX5_endOfToken 29 = .ok (.if_icmp .ne 9, 3) := by decide +kernel
theorem dX5_endOfToken_32 : decode cX5_endOfToken 32 = .ok (.iinc 4 1, 3) := by decide +kernel
theorem dX5_endOfToken_35 : decode cX5_endOfToken 35 = .ok (.goto (-24), 3) := by decide +kernel
theorem dX5_endOfToken_38 : decode cX5_endOfToken 38 = .ok (.iload 4, 2) := by decide +kernel
theorem dX5_endOfToken_40 : decode cX5_endOfToken 40 = .ok (.ireturn, 1) := by decide +kernel
theorem dX5_sortAt_0 : decode cX5_sortAt 0 = .ok (.iload_n 1, 1) := by decide +kernel
theorem dX5_sortAt_1 : decode cX5_sortAt 1 = .ok (.ifCond .lt 15, 3) := by decide +kernel
theorem dX5_sortAt_4 : decode cX5_sortAt 4 = .ok (.iload_n 1, 1) := by decide +kernel
theorem dX5_sortAt_5 : decode cX5_sortAt 5 = .ok (.aload_n 0, 1) := by decide +kernel
theorem dX5_sortAt_6 : decode cX5_sortAt 6 = .ok (.arraylength, 1) := by decide +kernel
theorem dX5_sortAt_7 : decode cX5_sortAt 7 = .ok (.if_icmp .ge 9, 3) := by decide +kernel
theorem dX5_sortAt_10 : decode cX5_sortAt 10 = .ok (.aload_n 0, 1) := by decide +kernel
theorem dX5_sortAt_11 : decode cX5_sortAt 11 = .ok (.iload_n 1, 1) := by decide +kernel
theorem dX5_sortAt_12 : decode cX5_sortAt 12 = .ok (.iaload, 1) := by decide +kernel
theorem dX5_sortAt_13 : decode cX5_sortAt 13 = .ok (.goto 5, 3) := by decide +kernel
theorem dX5_sortAt_16 : decode cX5_sortAt 16 = .ok (.bipush (-9), 2) := by decide +kernel
theorem dX5_sortAt_18 : decode cX5_sortAt 18 = .ok (.istore_n 2, 1) := by decide +kernel
theorem dX5_sortAt_19 : decode cX5_sortAt 19 = .ok (.iload_n 2, 1) := by decide +kernel
theorem dX5_sortAt_20 : decode cX5_sortAt 20 = .ok (.bipush 97, 2) := by decide +kernel
theorem dX5_sortAt_22 : decode cX5_sortAt 22 = .ok (.if_icmp .lt 11, 3) := by decide +kernel
theorem dX5_sortAt_25 : decode cX5_sortAt 25 = .ok (.iload_n 2, 1) := by decide +kernel
theorem dX5_sortAt_26 : decode cX5_sortAt 26 = .ok (.bipush 122, 2) := by decide +kernel
theorem dX5_sortAt_28 : decode cX5_sortAt 28 = .ok (.if_icmp .gt 5, 3) := by decide +kernel
theorem dX5_sortAt_31 : decode cX5_sortAt 31 = .ok (.iconst 5, 1) := by decide +kernel
theorem dX5_sortAt_32 : decode cX5_sortAt 32 = .ok (.ireturn, 1) := by decide +kernel
theorem dX5_sortAt_33 : decode cX5_sortAt 33 = .ok (.iload_n 2, 1) := by decide +kernel
theorem dX5_sortAt_34 : decode cX5_sortAt 34 = .ok (.bipush 48, 2) := by decide +kernel
theorem dX5_sortAt_36 : decode cX5_sortAt 36 = .ok (.if_icmp .lt 13, 3) := by decide +kernel
theorem dX5_sortAt_39 : decode cX5_sortAt 39 = .ok (.iload_n 2, 1) := by decide +kernel
theorem dX5_sortAt_40 : decode cX5_sortAt 40 = .ok (.bipush 57, 2) := by decide +kernel
theorem dX5_sortAt_42 : decode cX5_sortAt 42 = .ok (.if_icmp .gt 7, 3) := by decide +kernel
theorem dX5_sortAt_45 : decode cX5_sortAt 45 = .ok (.iconst 2, 1) := by decide +kernel
theorem dX5_sortAt_46 : decode cX5_sortAt 46 = .ok (.goto 4, 3) := by decide +kernel
theorem dX5_sortAt_49 : decode cX5_sortAt 49 = .ok (.iconst 1, 1) := by decide +kernel
theorem dX5_sortAt_50 : decode cX5_sortAt 50 = .ok (.ireturn, 1) := by decide +kernel
theorem dX5_kindOf_0 : decode cX5_kindOf 0 = .ok (.aload_n 0, 1) := by decide +kernel
theorem dX5_kindOf_1 : decode cX5_kindOf 1 = .ok (.iload_n 1, 1) := by decide +kernel
theorem dX5_kindOf_2 : decode cX5_kindOf 2 = .ok (.invokestatic 45, 3) := by decide +kernel
theorem dX5_kindOf_5 : decode cX5_kindOf 5 = .ok (.lookupswitch 41 #[(2, 27), (5, 34)], 27) := by decide +kernel
theorem dX5_kindOf_32 : decode cX5_kindOf 32 = .ok (.aload_n 0, 1) := by decide +kernel
theorem dX5_kindOf_33 : decode cX5_kindOf 33 = .ok (.iload_n 1, 1) := by decide +kernel
theorem dX5_kindOf_34 : decode cX5_kindOf 34 = .ok (.iload_n 2, 1) := by decide +kernel
theorem dX5_kindOf_35 : decode cX5_kindOf 35 = .ok (.invokestatic 49, 3) := by decide +kernel
theorem dX5_kindOf_38 : decode cX5_kindOf 38 = .ok (.ireturn, 1) := by decide +kernel
theorem dX5_kindOf_39 : decode cX5_kindOf 39 = .ok (.aload_n 0, 1) := by decide +kernel
theorem dX5_kindOf_40 : decode cX5_kindOf 40 = .ok (.iload_n 1, 1) := by decide +kernel
theorem dX5_kindOf_41 : decode cX5_kindOf 41 = .ok (.iload_n 2, 1) := by decide +kernel
theorem dX5_kindOf_42 : decode cX5_kindOf 42 = .ok (.invokestatic 52, 3) := by decide +kernel
theorem dX5_kindOf_45 : decode cX5_kindOf 45 = .ok (.ireturn, 1) := by decide +kernel
theorem dX5_kindOf_46 : decode cX5_kindOf 46 = .ok (.aload_n 0, 1) := by decide +kernel
theorem dX5_kindOf_47 : decode cX5_kindOf 47 = .ok (.iload_n 1, 1) := by decide +kernel
theorem dX5_kindOf_48 : decode cX5_kindOf 48 = .ok (.iload_n 2, 1) := by decide +kernel
theorem dX5_kindOf_49 : decode cX5_kindOf 49 = .ok (.ldc 55, 2) := by decide +kernel
theorem dX5_kindOf_51 : decode cX5_kindOf 51 = .ok (.invokestatic 57, 3) := by decide +kernel
theorem dX5_kindOf_54 : decode cX5_kindOf 54 = .ok (.ifCond .eq 7, 3) := by decide +kernel
theorem dX5_kindOf_57 : decode cX5_kindOf 57 = .ok (.iconst 3, 1) := by decide +kernel
theorem dX5_kindOf_58 : decode cX5_kindOf 58 = .ok (.goto 4, 3) := by decide +kernel
theorem dX5_kindOf_61 : decode cX5_kindOf 61 = .ok (.iconst 1, 1) := by decide +kernel
theorem dX5_kindOf_62 : decode cX5_kindOf 62 = .ok (.ireturn, 1) := by decide +kernel
theorem dX5_kindOfFigures_0 : decode cX5_kindOfFigures 0 = .ok (.iload_n 2, 1) := by decide +kernel
theorem dX5_kindOfFigures_1 : decode cX5_kindOfFigures 1 = .ok (.iload_n 1, 1) := by decide +kernel
theorem dX5_kindOfFigures_2 : decode cX5_kindOfFigures 2 = .ok (.isub, 1) := by decide +kernel
theorem dX5_kindOfFigures_3 : decode cX5_kindOfFigures 3 = .ok (.iconst 1, 1) := by decide +kernel
theorem dX5_kindOfFigures_4 : decode cX5_kindOfFigures 4 = .ok (.if_icmp .le 20, 3) := by decide +kernel
theorem dX5_kindOfFigures_7 : decode cX5_kindOfFigures 7 = .ok (.aload_n 0, 1) := by decide +kernel
theorem dX5_kindOfFigures_8 : decode cX5_kindOfFigures 8 = .ok (.iload_n 1, 1) := by decide +kernel
theorem dX5_kindOfFigures_9 : decode cX5_kindOfFigures 9 = .ok (.iload_n 1, 1) := by decide +kernel
theorem dX5_kindOfFigures_10 : decode cX5_kindOfFigures 10 = .ok (.iconst 1, 1) := by decide +kernel
theorem dX5_kindOfFigures_11 : decode cX5_kindOfFigures 11 = .ok (.iadd, 1) := by decide +kernel
theorem dX5_kindOfFigures_12 : decode cX5_kindOfFigures 12 = .ok (.ldc 61, 2) := by decide +kernel
theorem dX5_kindOfFigures_14 : decode cX5_kindOfFigures 14 = .ok (.invokestatic 57, 3) := by decide +kernel
theorem dX5_kindOfFigures_17 : decode cX5_kindOfFigures 17 = .ok (.ifCond .eq 7, 3) := by decide +kernel
theorem dX5_kindOfFigures_20 : decode cX5_kindOfFigures 20 = .ok (.iconst 1, 1) := by decide +kernel
theorem dX5_kindOfFigures_21 : decode cX5_kindOfFigures 21 = .ok (.goto 4, 3) := by decide +kernel
theorem dX5_kindOfFigures_24 : decode cX5_kindOfFigures 24 = .ok (.iconst 0, 1) := by decide +kernel
theorem dX5_kindOfFigures_25 : decode cX5_kindOfFigures 25 = .ok (.istore_n 3, 1) := by decide +kernel
theorem dX5_kindOfFigures_26 : decode cX5_kindOfFigures 26 = .ok (.iload_n 3, 1) := by decide +kernel
theorem dX5_kindOfFigures_27 : decode cX5_kindOfFigures 27 = .ok (.ifCond .ne 14, 3) := by decide +kernel
theorem dX5_kindOfFigures_30 : decode cX5_kindOfFigures 30 = .ok (.aload_n 0, 1) := by decide +kernel
theorem dX5_kindOfFigures_31 : decode cX5_kindOfFigures 31 = .ok (.iload_n 1, 1) := by decide +kernel
theorem dX5_kindOfFigures_32 : decode cX5_kindOfFigures 32 = .ok (.iload_n 2, 1) := by decide +kernel
theorem dX5_kindOfFigures_33 : decode cX5_kindOfFigures 33 = .ok (.invokestatic 32, 3) := by decide +kernel
theorem dX5_kindOfFigures_36 : decode cX5_kindOfFigures 36 = .ok (.bipush 99, 2) := by decide +kernel
theorem dX5_kindOfFigures_38 : decode cX5_kindOfFigures 38 = .ok (.if_icmp .le 7, 3) := by decide +kernel
theorem dX5_kindOfFigures_41 : decode cX5_kindOfFigures 41 = .ok (.iconst 1, 1) := by decide +kernel
theorem dX5_kindOfFigures_42 : decode cX5_kindOfFigures 42 = .ok (.goto 4, 3) := by decide +kernel
theorem dX5_kindOfFigures_45 : decode cX5_kindOfFigures 45 = .ok (.iconst 2, 1) := by decide +kernel
theorem dX5_kindOfFigures_46 : decode cX5_kindOfFigures 46 = .ok (.ireturn, 1) := by decide +kernel
theorem dX5_kindOfWord_0 : decode cX5_kindOfWord 0 = .ok (.aload_n 0, 1) := by decide +kernel
theorem dX5_kindOfWord_1 : decode cX5_kindOfWord 1 = .ok (.iload_n 1, 1) := by decide +kernel
theorem dX5_kindOfWord_2 : decode cX5_kindOfWord 2 = .ok (.iload_n 2, 1) := by decide +kernel
theorem dX5_kindOfWord_3 : decode cX5_kindOfWord 3 = .ok (.ldc 63, 2) := by decide +kernel
theorem dX5_kindOfWord_5 : decode cX5_kindOfWord 5 = .ok (.invokestatic 57, 3) := by decide +kernel
theorem dX5_kindOfWord_8 : decode cX5_kindOfWord 8 = .ok (.ifCond .eq 5, 3) := by decide +kernel
theorem dX5_kindOfWord_11 : decode cX5_kindOfWord 11 = .ok (.iconst 4, 1) := by decide +kernel
theorem dX5_kindOfWord_12 : decode cX5_kindOfWord 12 = .ok (.ireturn, 1) := by decide +kernel
theorem dX5_kindOfWord_13 : decode cX5_kindOfWord 13 = .ok (.aload_n 0, 1) := by decide +kernel
theorem dX5_kindOfWord_14 : decode cX5_kindOfWord 14 = .ok (.iload_n 1, 1) := by decide +kernel
theorem dX5_kindOfWord_15 : decode cX5_kindOfWord 15 = .ok (.iload_n 2, 1) := by decide +kernel
theorem dX5_kindOfWord_16 : decode cX5_kindOfWord 16 = .ok (.ldc 65, 2) := by decide +kernel
theorem dX5_kindOfWord_18 : decode cX5_kindOfWord 18 = .ok (.invokestatic 57, 3) := by decide +kernel
theorem dX5_kindOfWord_21 : decode cX5_kindOfWord 21 = .ok (.ifCond .eq 5, 3) := by decide +kernel
theorem dX5_kindOfWord_24 : decode cX5_kindOfWord 24 = .ok (.iconst 5, 1) := by decide +kernel
theorem dX5_kindOfWord_25 : decode cX5_kindOfWord 25 = .ok (.ireturn, 1) := by decide +kernel
theorem dX5_kindOfWord_26 : decode cX5_kindOfWord 26 = .ok (.aload_n 0, 1) := by decide +kernel
theorem dX5_kindOfWord_27 : decode cX5_kindOfWord 27 = .ok (.iload_n 1, 1) := by decide +kernel
theorem dX5_kindOfWord_28 : decode cX5_kindOfWord 28 = .ok (.iload_n 2, 1) := by decide +kernel
theorem dX5_kindOfWord_29 : decode cX5_kindOfWord 29 = .ok (.ldc 67, 2) := by decide +kernel
theorem dX5_kindOfWord_31 : decode cX5_kindOfWord 31 = .ok (.invokestatic 57, 3) := by decide +kernel
theorem dX5_kindOfWord_34 : decode cX5_kindOfWord 34 = .ok (.ifCond .eq 6, 3) := by decide +kernel
theorem dX5_kindOfWord_37 : decode cX5_kindOfWord 37 = .ok (.bipush 6, 2) := by decide +kernel
theorem dX5_kindOfWord_39 : decode cX5_kindOfWord 39 = .ok (.ireturn, 1) := by decide +kernel
theorem dX5_kindOfWord_40 : decode cX5_kindOfWord 40 = .ok (.aload_n 0, 1) := by decide +kernel
theorem dX5_kindOfWord_41 : decode cX5_kindOfWord 41 = .ok (.iload_n 1, 1) := by decide +kernel
theorem dX5_kindOfWord_42 : decode cX5_kindOfWord 42 = .ok (.iload_n 2, 1) := by decide +kernel
theorem dX5_kindOfWord_43 : decode cX5_kindOfWord 43 = .ok (.ldc 69, 2) := by decide +kernel
theorem dX5_kindOfWord_45 : decode cX5_kindOfWord 45 = .ok (.invokestatic 57, 3) := by decide +kernel
theorem dX5_kindOfWord_48 : decode cX5_kindOfWord 48 = .ok (.ifCond .eq 8, 3) := by decide +kernel
theorem dX5_kindOfWord_51 : decode cX5_kindOfWord 51 = .ok (.bipush 7, 2) := by decide +kernel
theorem dX5_kindOfWord_53 : decode cX5_kindOfWord 53 = .ok (.goto 4, 3) := by decide +kernel
theorem dX5_kindOfWord_56 : decode cX5_kindOfWord 56 = .ok (.iconst 1, 1) := by decide +kernel
theorem dX5_kindOfWord_57 : decode cX5_kindOfWord 57 = .ok (.ireturn, 1) := by decide +kernel
theorem dX5_spells_0 : decode cX5_spells 0 = .ok (.iload_n 2, 1) := by decide +kernel
theorem dX5_spells_1 : decode cX5_spells 1 = .ok (.iload_n 1, 1) := by decide +kernel
theorem dX5_spells_2 : decode cX5_spells 2 = .ok (.isub, 1) := by decide +kernel
theorem dX5_spells_3 : decode cX5_spells 3 = .ok (.aload_n 3, 1) := by decide +kernel
theorem dX5_spells_4 : decode cX5_spells 4 = .ok (.invokevirtual 71, 3) := by decide +kernel
theorem dX5_spells_7 : decode cX5_spells 7 = .ok (.if_icmp .ne 13, 3) := by decide +kernel
theorem dX5_spells_10 : decode cX5_spells 10 = .ok (.iload_n 1, 1) := by decide +kernel
theorem dX5_spells_11 : decode cX5_spells 11 = .ok (.ifCond .lt 9, 3) := by decide +kernel
theorem dX5_spells_14 : decode cX5_spells 14 = .ok (.iload_n 2, 1) := by decide +kernel
theorem dX5_spells_15 : decode cX5_spells 15 = .ok (.aload_n 0, 1) := by decide +kernel
theorem dX5_spells_16 : decode cX5_spells 16 = .ok (.arraylength, 1) := by decide +kernel
theorem dX5_spells_17 : decode cX5_spells 17 = .ok (.if_icmp .le 5, 3) := by decide +kernel
theorem dX5_spells_20 : decode cX5_spells 20 = .ok (.iconst 0, 1) := by decide +kernel
theorem dX5_spells_21 : decode cX5_spells 21 = .ok (.ireturn, 1) := by decide +kernel
theorem dX5_spells_22 : decode cX5_spells 22 = .ok (.iconst 0, 1) := by decide +kernel
theorem dX5_spells_23 : decode cX5_spells 23 = .ok (.istore 4, 2) := by decide +kernel
theorem dX5_spells_25 : decode cX5_spells 25 = .ok (.iload 4, 2) := by decide +kernel
theorem dX5_spells_27 : decode cX5_spells 27 = .ok (.aload_n 3, 1) := by decide +kernel
theorem dX5_spells_28 : decode cX5_spells 28 = .ok (.invokevirtual 71, 3) := by decide +kernel
theorem dX5_spells_31 : decode cX5_spells 31 = .ok (.if_icmp .ge 26, 3) := by decide +kernel
theorem dX5_spells_34 : decode cX5_spells 34 = .ok (.aload_n 0, 1) := by decide +kernel
theorem dX5_spells_35 : decode cX5_spells 35 = .ok (.iload_n 1, 1) := by decide +kernel
theorem dX5_spells_36 : decode cX5_spells 36 = .ok (.iload 4, 2) := by decide +kernel
theorem dX5_spells_38 : decode cX5_spells 38 = .ok (.iadd, 1) := by decide +kernel
theorem dX5_spells_39 : decode cX5_spells 39 = .ok (.iaload, 1) := by decide +kernel
theorem dX5_spells_40 : decode cX5_spells 40 = .ok (.aload_n 3, 1) := by decide +kernel
theorem dX5_spells_41 : decode cX5_spells 41 = .ok (.iload 4, 2) := by decide +kernel
theorem dX5_spells_43 : decode cX5_spells 43 = .ok (.invokevirtual 77, 3) := by decide +kernel
theorem dX5_spells_46 : decode cX5_spells 46 = .ok (.if_icmp .eq 5, 3) := by decide +kernel
theorem dX5_spells_49 : decode cX5_spells 49 = .ok (.iconst 0, 1) := by decide +kernel
theorem dX5_spells_50 : decode cX5_spells 50 = .ok (.ireturn, 1) := by decide +kernel
theorem dX5_spells_51 : decode cX5_spells 51 = .ok (.iinc 4 1, 3) := by decide +kernel
theorem dX5_spells_54 : decode cX5_spells 54 = .ok (.goto (-29), 3) := by decide +kernel
theorem dX5_spells_57 : decode cX5_spells 57 = .ok (.iconst 1, 1) := by decide +kernel
theorem dX5_spells_58 : decode cX5_spells 58 = .ok (.ireturn, 1) := by decide +kernel
theorem dX5_valueOf_0 : decode cX5_valueOf 0 = .ok (.iconst 0, 1) := by decide +kernel
theorem dX5_valueOf_1 : decode cX5_valueOf 1 = .ok (.istore_n 3, 1) := by decide +kernel
theorem dX5_valueOf_2 : decode cX5_valueOf 2 = .ok (.iload_n 1, 1) := by decide +kernel
theorem dX5_valueOf_3 : decode cX5_valueOf 3 = .ok (.istore 4, 2) := by decide +kernel
theorem dX5_valueOf_5 : decode cX5_valueOf 5 = .ok (.iload 4, 2) := by decide +kernel
theorem dX5_valueOf_7 : decode cX5_valueOf 7 = .ok (.iload_n 2, 1) := by decide +kernel
theorem dX5_valueOf_8 : decode cX5_valueOf 8 = .ok (.if_icmp .ge 37, 3) := by decide +kernel
theorem dX5_valueOf_11 : decode cX5_valueOf 11 = .ok (.aload_n 0, 1) := by decide +kernel
theorem dX5_valueOf_12 : decode cX5_valueOf 12 = .ok (.iload 4, 2) := by decide +kernel
theorem dX5_valueOf_14 : decode cX5_valueOf 14 = .ok (.invokestatic 45, 3) := by decide +kernel
theorem dX5_valueOf_17 : decode cX5_valueOf 17 = .ok (.iconst 2, 1) := by decide +kernel
theorem dX5_valueOf_18 : decode cX5_valueOf 18 = .ok (.if_icmp .ne 27, 3) := by decide +kernel
theorem dX5_valueOf_21 : decode cX5_valueOf 21 = .ok (.bipush 10, 2) := by decide +kernel
theorem dX5_valueOf_23 : decode cX5_valueOf 23 = .ok (.iload_n 3, 1) := by decide +kernel
theorem dX5_valueOf_24 : decode cX5_valueOf 24 = .ok (.imul, 1) := by decide +kernel
theorem dX5_valueOf_25 : decode cX5_valueOf 25 = .ok (.aload_n 0, 1) := by decide +kernel
theorem dX5_valueOf_26 : decode cX5_valueOf 26 = .ok (.iload 4, 2) := by decide +kernel
theorem dX5_valueOf_28 : decode cX5_valueOf 28 = .ok (.iaload, 1) := by decide +kernel
theorem dX5_valueOf_29 : decode cX5_valueOf 29 = .ok (.iadd, 1) := by decide +kernel
theorem dX5_valueOf_30 : decode cX5_valueOf 30 = .ok (.bipush 48, 2) := by decide +kernel
theorem dX5_valueOf_32 : decode cX5_valueOf 32 = .ok (.isub, 1) := by decide +kernel
theorem dX5_valueOf_33 : decode cX5_valueOf 33 = .ok (.bipush 100, 2) := by decide +kernel
theorem dX5_valueOf_35 : decode cX5_valueOf 35 = .ok (.invokestatic 81, 3) := by decide +kernel
theorem dX5_valueOf_38 : decode cX5_valueOf 38 = .ok (.istore_n 3, 1) := by decide +kernel
theorem dX5_valueOf_39 : decode cX5_valueOf 39 = .ok (.iinc 4 1, 3) := by decide +kernel
theorem dX5_valueOf_42 : decode cX5_valueOf 42 = .ok (.goto (-37), 3) := by decide +kernel
theorem dX5_valueOf_45 : decode cX5_valueOf 45 = .ok (.iload_n 3, 1) := by decide +kernel
theorem dX5_valueOf_46 : decode cX5_valueOf 46 = .ok (.ireturn, 1) := by decide +kernel
theorem dX6_init_0 : decode cX6_init 0 = .ok (.aload_n 0, 1) := by decide +kernel
theorem dX6_init_1 : decode cX6_init 1 = .ok (.invokespecial 3, 3) := by decide +kernel
theorem dX6_init_4 : decode cX6_init 4 = .ok (.aload_n 0, 1) := by decide +kernel
theorem dX6_init_5 : decode cX6_init 5 = .ok (.iconst 5, 1) := by decide +kernel
theorem dX6_init_6 : decode cX6_init 6 = .ok (.newarray .int, 2) := by decide +kernel
theorem dX6_init_8 : decode cX6_init 8 = .ok (.putfield 9, 3) := by decide +kernel
theorem dX6_init_11 : decode cX6_init 11 = .ok (.aload_n 0, 1) := by decide +kernel
theorem dX6_init_12 : decode cX6_init 12 = .ok (.iconst 5, 1) := by decide +kernel
theorem dX6_init_13 : decode cX6_init 13 = .ok (.newarray .int, 2) := by decide +kernel
theorem dX6_init_15 : decode cX6_init 15 = .ok (.putfield 15, 3) := by decide +kernel
theorem dX6_init_18 : decode cX6_init 18 = .ok (.aload_n 0, 1) := by decide +kernel
theorem dX6_init_19 : decode cX6_init 19 = .ok (.iconst 5, 1) := by decide +kernel
theorem dX6_init_20 : decode cX6_init 20 = .ok (.newarray .int, 2) := by decide +kernel
theorem dX6_init_22 : decode cX6_init 22 = .ok (.putfield 18, 3) := by decide +kernel
theorem dX6_init_25 : decode cX6_init 25 = .ok (.aload_n 0, 1) := by decide +kernel
theorem dX6_init_26 : decode cX6_init 26 = .ok (.iconst 5, 1) := by decide +kernel
theorem dX6_init_27 : decode cX6_init 27 = .ok (.newarray .int, 2) := by decide +kernel
theorem dX6_init_29 : decode cX6_init 29 = .ok (.putfield 21, 3) := by decide +kernel
theorem dX6_init_32 : decode cX6_init 32 = .ok (.aload_n 0, 1) := by decide +kernel
theorem dX6_init_33 : decode cX6_init 33 = .ok (.iconst 5, 1) := by decide +kernel
theorem dX6_init_34 : decode cX6_init 34 = .ok (.newarray .int, 2) := by decide +kernel
theorem dX6_init_36 : decode cX6_init 36 = .ok (.putfield 24, 3) := by decide +kernel
theorem dX6_init_39 : decode cX6_init 39 = .ok (.aload_n 0, 1) := by decide +kernel
theorem dX6_init_40 : decode cX6_init 40 = .ok (.iconst 3, 1) := by decide +kernel
theorem dX6_init_41 : decode cX6_init 41 = .ok (.newarray .int, 2) := by decide +kernel
theorem dX6_init_43 : decode cX6_init 43 = .ok (.putfield 27, 3) := by decide +kernel
theorem dX6_init_46 : decode cX6_init 46 = .ok (.aload_n 0, 1) := by decide +kernel
theorem dX6_init_47 : decode cX6_init 47 = .ok (.iconst 3, 1) := by decide +kernel
theorem dX6_init_48 : decode cX6_init 48 = .ok (.newarray .int, 2) := by decide +kernel
theorem dX6_init_50 : decode cX6_init 50 = .ok (.putfield 30, 3) := by decide +kernel
theorem dX6_init_53 : decode cX6_init 53 = .ok (.aload_n 0, 1) := by decide +kernel
theorem dX6_init_54 : decode cX6_init 54 = .ok (.bipush 16, 2) := by decide +kernel
theorem dX6_init_56 : decode cX6_init 56 = .ok (.newarray .int, 2) := by decide +kernel
theorem dX6_init_58 : decode cX6_init 58 = .ok (.putfield 33, 3) := by decide +kernel
theorem dX6_init_61 : decode cX6_init 61 = .ok (.aload_n 0, 1) := by decide +kernel
theorem dX6_init_62 : decode cX6_init 62 = .ok (.bipush 16, 2) := by decide +kernel
theorem dX6_init_64 : decode cX6_init 64 = .ok (.newarray .int, 2) := by decide +kernel
theorem dX6_init_66 : decode cX6_init 66 = .ok (.putfield 36, 3) := by decide +kernel
theorem dX6_init_69 : decode cX6_init 69 = .ok (.aload_n 0, 1) := by decide +kernel
theorem dX6_init_70 : decode cX6_init 70 = .ok (.invokevirtual 39, 3) := by decide +kernel
theorem dX6_init_73 : decode cX6_init 73 = .ok (.return_, 1) := by decide +kernel
theorem dX6_makeBare_0 : decode cX6_makeBare 0 = .ok (.aload_n 0, 1) := by decide +kernel
theorem dX6_makeBare_1 : decode cX6_makeBare 1 = .ok (.bipush 20, 2) := by decide +kernel
theorem dX6_makeBare_3 : decode cX6_makeBare 3 = .ok (.putfield 42, 3) := by decide +kernel
theorem dX6_makeBare_6 : decode cX6_makeBare 6 = .ok (.aload_n 0, 1) := by decide +kernel
theorem dX6_makeBare_7 : decode cX6_makeBare 7 = .ok (.bipush 10, 2) := by decide +kernel
theorem dX6_makeBare_9 : decode cX6_makeBare 9 = .ok (.putfield 46, 3) := by decide +kernel
theorem dX6_makeBare_12 : decode cX6_makeBare 12 = .ok (.aload_n 0, 1) := by decide +kernel
theorem dX6_makeBare_13 : decode cX6_makeBare 13 = .ok (.iconst 0, 1) := by decide +kernel
theorem dX6_makeBare_14 : decode cX6_makeBare 14 = .ok (.putfield 49, 3) := by decide +kernel
theorem dX6_makeBare_17 : decode cX6_makeBare 17 = .ok (.aload_n 0, 1) := by decide +kernel
theorem dX6_makeBare_18 : decode cX6_makeBare 18 = .ok (.iconst 0, 1) := by decide +kernel
theorem dX6_makeBare_19 : decode cX6_makeBare 19 = .ok (.putfield 52, 3) := by decide +kernel
theorem dX6_makeBare_22 : decode cX6_makeBare 22 = .ok (.aload_n 0, 1) := by decide +kernel
theorem dX6_makeBare_23 : decode cX6_makeBare 23 = .ok (.iconst 0, 1) := by decide +kernel
theorem dX6_makeBare_24 : decode cX6_makeBare 24 = .ok (.putfield 55, 3) := by decide +kernel
theorem dX6_makeBare_27 : decode cX6_makeBare 27 = .ok (.aload_n 0, 1) := by decide +kernel
theorem dX6_makeBare_28 : decode cX6_makeBare 28 = .ok (.iconst 0, 1) := by decide +kernel
theorem dX6_makeBare_29 : decode cX6_makeBare 29 = .ok (.putfield 58, 3) := by decide +kernel
theorem dX6_makeBare_32 : decode cX6_makeBare 32 = .ok (.return_, 1) := by decide +kernel
theorem dX6_copyFrom_0 : decode cX6_copyFrom 0 = .ok (.aload_n 0, 1) := by decide +kernel
theorem dX6_copyFrom_1 : decode cX6_copyFrom 1 = .ok (.aload_n 1, 1) := by decide +kernel
theorem dX6_copyFrom_2 : decode cX6_copyFrom 2 = .ok (.getfield 42, 3) := by decide +kernel
theorem dX6_copyFrom_5 : decode cX6_copyFrom 5 = .ok (.putfield 42, 3) := by decide +kernel
theorem dX6_copyFrom_8 : decode cX6_copyFrom 8 = .ok (.aload_n 0, 1) := by decide +kernel
theorem dX6_copyFrom_9 : decode cX6_copyFrom 9 = .ok (.aload_n 1, 1) := by decide +kernel
theorem dX6_copyFrom_10 : decode cX6_copyFrom 10 = .ok (.getfield 46, 3) := by decide +kernel
theorem dX6_copyFrom_13 : decode cX6_copyFrom 13 = .ok (.putfield 46, 3) := by decide +kernel
theorem dX6_copyFrom_16 : decode cX6_copyFrom 16 = .ok (.aload_n 0, 1) := by decide +kernel
theorem dX6_copyFrom_17 : decode cX6_copyFrom 17 = .ok (.aload_n 1, 1) := by decide +kernel
theorem dX6_copyFrom_18 : decode cX6_copyFrom 18 = .ok (.getfield 49, 3) := by decide +kernel
theorem dX6_copyFrom_21 : decode cX6_copyFrom 21 = .ok (.putfield 49, 3) := by decide +kernel
theorem dX6_copyFrom_24 : decode cX6_copyFrom 24 = .ok (.aload_n 0, 1) := by decide +kernel
theorem dX6_copyFrom_25 : decode cX6_copyFrom 25 = .ok (.aload_n 1, 1) := by decide +kernel
theorem dX6_copyFrom_26 : decode cX6_copyFrom 26 = .ok (.getfield 52, 3) := by decide +kernel
theorem dX6_copyFrom_29 : decode cX6_copyFrom 29 = .ok (.putfield 52, 3) := by decide +kernel
theorem dX6_copyFrom_32 : decode cX6_copyFrom 32 = .ok (.aload_n 0, 1) := by decide +kernel
theorem dX6_copyFrom_33 : decode cX6_copyFrom 33 = .ok (.aload_n 1, 1) := by decide +kernel
theorem dX6_copyFrom_34 : decode cX6_copyFrom 34 = .ok (.getfield 55, 3) := by decide +kernel
theorem dX6_copyFrom_37 : decode cX6_copyFrom 37 = .ok (.putfield 55, 3) := by decide +kernel
theorem dX6_copyFrom_40 : decode cX6_copyFrom 40 = .ok (.aload_n 0, 1) := by decide +kernel
theorem dX6_copyFrom_41 : decode cX6_copyFrom 41 = .ok (.aload_n 1, 1) := by decide +kernel
theorem dX6_copyFrom_42 : decode cX6_copyFrom 42 = .ok (.getfield 58, 3) := by decide +kernel
theorem dX6_copyFrom_45 : decode cX6_copyFrom 45 = .ok (.putfield 58, 3) := by decide +kernel
theorem dX6_copyFrom_48 : decode cX6_copyFrom 48 = .ok (.aload_n 1, 1) := by decide +kernel
theorem dX6_copyFrom_49 : decode cX6_copyFrom 49 = .ok (.getfield 9, 3) := by decide +kernel
theorem dX6_copyFrom_52 : decode cX6_copyFrom 52 = .ok (.iconst 0, 1) := by decide +kernel
theorem dX6_copyFrom_53 : decode cX6_copyFrom 53 = .ok (.aload_n 0, 1) := by decide +kernel
theorem dX6_copyFrom_54 : decode cX6_copyFrom 54 = .ok (.getfield 9, 3) := by decide +kernel
theorem dX6_copyFrom_57 : decode cX6_copyFrom 57 = .ok (.iconst 0, 1) := by decide +kernel
theorem dX6_copyFrom_58 : decode cX6_copyFrom 58 = .ok (.iconst 5, 1) := by decide +kernel
theorem dX6_copyFrom_59 : decode cX6_copyFrom 59 = .ok (.invokestatic 61, 3) := by decide +kernel
theorem dX6_copyFrom_62 : decode cX6_copyFrom 62 = .ok (.aload_n 1, 1) := by decide +kernel
theorem dX6_copyFrom_63 : decode cX6_copyFrom 63 = .ok (.getfield 15, 3) := by decide +kernel
theorem dX6_copyFrom_66 : decode cX6_copyFrom 66 = .ok (.iconst 0, 1) := by decide +kernel
theorem dX6_copyFrom_67 : decode cX6_copyFrom 67 = .ok (.aload_n 0, 1) := by decide +kernel
theorem dX6_copyFrom_68 : decode cX6_copyFrom 68 = .ok (.getfield 15, 3) := by decide +kernel
theorem dX6_copyFrom_71 : decode cX6_copyFrom 71 = .ok (.iconst 0, 1) := by decide +kernel
theorem dX6_copyFrom_72 : decode cX6_copyFrom 72 = .ok (.iconst 5, 1) := by decide +kernel
theorem dX6_copyFrom_73 : decode cX6_copyFrom 73 = .ok (.invokestatic 61, 3) := by decide +kernel
theorem dX6_copyFrom_76 : decode cX6_copyFrom 76 = .ok (.aload_n 1, 1) := by decide +kernel
theorem dX6_copyFrom_77 : decode cX6_copyFrom 77 = .ok (.getfield 18, 3) := by decide +kernel
theorem dX6_copyFrom_80 : decode cX6_copyFrom 80 = .ok (.iconst 0, 1) := by decide +kernel
theorem dX6_copyFrom_81 : decode cX6_copyFrom 81 = .ok (.aload_n 0, 1) := by decide +kernel
theorem dX6_copyFrom_82 : decode cX6_copyFrom 82 = .ok (.getfield 18, 3) := by decide +kernel
theorem dX6_copyFrom_85 : decode cX6_copyFrom 85 = .ok (.iconst 0, 1) := by decide +kernel
theorem dX6_copyFrom_86 : decode cX6_copyFrom 86 = .ok (.iconst 5, 1) := by decide +kernel
theorem dX6_copyFrom_87 : decode cX6_copyFrom 87 = .ok (.invokestatic 61, 3) := by decide +kernel
theorem dX6_copyFrom_90 : decode cX6_copyFrom 90 = .ok (.aload_n 1, 1) := by decide +kernel
theorem dX6_copyFrom_91 : decode cX6_copyFrom 91 = .ok (.getfield 21, 3) := by decide +kernel
theorem dX6_copyFrom_94 : decode cX6_copyFrom 94 = .ok (.iconst 0, 1) := by decide +kernel
theorem dX6_copyFrom_95 : decode cX6_copyFrom 95 = .ok (.aload_n 0, 1) := by decide +kernel
theorem dX6_copyFrom_96 : decode cX6_copyFrom 96 = .ok (.getfield 21, 3) := by decide +kernel
theorem dX6_copyFrom_99 : decode cX6_copyFrom 99 = .ok (.iconst 0, 1) := by decide +kernel
theorem dX6_copyFrom_100 : decode cX6_copyFrom 100 = .ok (.iconst 5, 1) := by decide +kernel
theorem dX6_copyFrom_101 : decode cX6_copyFrom 101 = .ok (.invokestatic 61, 3) := by decide +kernel
theorem dX6_copyFrom_104 : decode cX6_copyFrom 104 = .ok (.aload_n 1, 1) := by decide +kernel
theorem dX6_copyFrom_105 : decode cX6_copyFrom 105 = .ok (.getfield 24, 3) := by decide +kernel
theorem dX6_copyFrom_108 : decode cX6_copyFrom 108 = .ok (.iconst 0, 1) := by decide +kernel
theorem dX6_copyFrom_109 : decode cX6_copyFrom 109 = .ok (.aload_n 0, 1) := by decide +kernel
theorem dX6_copyFrom_110 : decode cX6_copyFrom 110 = .ok (.getfield 24, 3) := by decide +kernel
theorem dX6_copyFrom_113 : decode cX6_copyFrom 113 = .ok (.iconst 0, 1) := by decide +kernel
theorem dX6_copyFrom_114 : decode cX6_copyFrom 114 = .ok (.iconst 5, 1) := by decide +kernel
theorem dX6_copyFrom_115 : decode cX6_copyFrom 115 = .ok (.invokestatic 61, 3) := by decide +kernel
theorem dX6_copyFrom_118 : decode cX6_copyFrom 118 = .ok (.aload_n 1, 1) := by decide +kernel
theorem dX6_copyFrom_119 : decode cX6_copyFrom 119 = .ok (.getfield 27, 3) := by decide +kernel
theorem dX6_copyFrom_122 : decode cX6_copyFrom 122 = .ok (.iconst 0, 1) := by decide +kernel
theorem dX6_copyFrom_123 : decode cX6_copyFrom 123 = .ok (.aload_n 0, 1) := by decide +kernel
theorem dX6_copyFrom_124 : decode cX6_copyFrom 124 = .ok (.getfield 27, 3) := by decide +kernel
theorem dX6_copyFrom_127 : decode cX6_copyFrom 127 = .ok (.iconst 0, 1) := by decide +kernel
theorem dX6_copyFrom_128 : decode cX6_copyFrom 128 = .ok (.iconst 3, 1) := by decide +kernel
theorem dX6_copyFrom_129 : decode cX6_copyFrom 129 = .ok (.invokestatic 61, 3) := by decide +kernel
theorem dX6_copyFrom_132 : decode cX6_copyFrom 132 = .ok (.aload_n 1, 1) := by decide +kernel
theorem dX6_copyFrom_133 : decode cX6_copyFrom 133 = .ok (.getfield 30, 3) := by decide +kernel
theorem dX6_copyFrom_136 : decode cX6_copyFrom 136 = .ok (.iconst 0, 1) := by decide +kernel
theorem dX6_copyFrom_137 : decode cX6_copyFrom 137 = .ok (.aload_n 0, 1) := by decide +kernel
theorem dX6_copyFrom_138 : decode cX6_copyFrom 138 = .ok (.getfield 30, 3) := by decide +kernel
theorem dX6_copyFrom_141 : decode cX6_copyFrom 141 = .ok (.iconst 0, 1) := by decide +kernel
theorem dX6_copyFrom_142 : decode cX6_copyFrom 142 = .ok (.iconst 3, 1) := by decide +kernel
theorem dX6_copyFrom_143 : decode cX6_copyFrom 143 = .ok (.invokestatic 61, 3) := by decide +kernel
theorem dX6_copyFrom_146 : decode cX6_copyFrom 146 = .ok (.aload_n 1, 1) := by decide +kernel
theorem dX6_copyFrom_147 : decode cX6_copyFrom 147 = .ok (.getfield 33, 3) := by decide +kernel
theorem dX6_copyFrom_150 : decode cX6_copyFrom 150 = .ok (.iconst 0, 1) := by decide +kernel
theorem dX6_copyFrom_151 : decode cX6_copyFrom 151 = .ok (.aload_n 0, 1) := by decide +kernel
theorem dX6_copyFrom_152 : decode cX6_copyFrom 152 = .ok (.getfield 33, 3) := by decide +kernel
theorem dX6_copyFrom_155 : decode cX6_copyFrom 155 = .ok (.iconst 0, 1) := by decide +kernel
theorem dX6_copyFrom_156 : decode cX6_copyFrom 156 = .ok (.bipush 16, 2) := by decide +kernel
theorem dX6_copyFrom_158 : decode cX6_copyFrom 158 = .ok (.invokestatic 61, 3) := by decide +kernel
theorem dX6_copyFrom_161 : decode cX6_copyFrom 161 = .ok (.aload_n 1, 1) := by decide +kernel
theorem dX6_copyFrom_162 : decode cX6_copyFrom 162 = .ok (.getfield 36, 3) := by decide +kernel
theorem dX6_copyFrom_165 : decode cX6_copyFrom 165 = .ok (.iconst 0, 1) := by decide +kernel
theorem dX6_copyFrom_166 : decode cX6_copyFrom 166 = .ok (.aload_n 0, 1) := by decide +kernel
theorem dX6_copyFrom_167 : decode cX6_copyFrom 167 = .ok (.getfield 36, 3) := by decide +kernel
theorem dX6_copyFrom_170 : decode cX6_copyFrom 170 = .ok (.iconst 0, 1) := by decide +kernel
theorem dX6_copyFrom_171 : decode cX6_copyFrom 171 = .ok (.bipush 16, 2) := by decide +kernel
theorem dX6_copyFrom_173 : decode cX6_copyFrom 173 = .ok (.invokestatic 61, 3) := by decide +kernel
theorem dX6_copyFrom_176 : decode cX6_copyFrom 176 = .ok (.return_, 1) := by decide +kernel
theorem dX6_addPicture_0 : decode cX6_addPicture 0 = .ok (.aload_n 0, 1) := by decide +kernel
theorem dX6_addPicture_1 : decode cX6_addPicture 1 = .ok (.getfield 52, 3) := by decide +kernel
theorem dX6_addPicture_4 : decode cX6_addPicture 4 = .ok (.iconst 5, 1) := by decide +kernel
theorem dX6_addPicture_5 : decode cX6_addPicture 5 = .ok (.if_icmp .ge 65, 3) := by decide +kernel
theorem dX6_addPicture_8 : decode cX6_addPicture 8 = .ok (.aload_n 0, 1) := by decide +kernel
theorem dX6_addPicture_9 : decode cX6_addPicture 9 = .ok (.getfield 9, 3) := by decide +kernel
theorem dX6_addPicture_12 : decode cX6_addPicture 12 = .ok (.aload_n 0, 1) := by decide +kernel
theorem dX6_addPicture_13 : decode cX6_addPicture 13 = .ok (.getfield 52, 3) := by decide +kernel
theorem dX6_addPicture_16 : decode cX6_addPicture 16 = .ok (.iload_n 1, 1) := by decide +kernel
theorem dX6_addPicture_17 : decode cX6_addPicture 17 = .ok (.iastore, 1) := by decide +kernel
theorem dX6_addPicture_18 : decode cX6_addPicture 18 = .ok (.aload_n 0, 1) := by decide +kernel
theorem dX6_addPicture_19 : decode cX6_addPicture 19 = .ok (.getfield 15, 3) := by decide +kernel
theorem dX6_addPicture_22 : decode cX6_addPicture 22 = .ok (.aload_n 0, 1) := by decide +kernel
theorem dX6_addPicture_23 : decode cX6_addPicture 23 = .ok (.getfield 52, 3) := by decide +kernel
theorem dX6_addPicture_26 : decode cX6_addPicture 26 = .ok (.iload_n 2, 1) := by decide +kernel
theorem dX6_addPicture_27 : decode cX6_addPicture 27 = .ok (.iastore, 1) := by decide +kernel
theorem dX6_addPicture_28 : decode cX6_addPicture 28 = .ok (.aload_n 0, 1) := by decide +kernel
theorem dX6_addPicture_29 : decode cX6_addPicture 29 = .ok (.getfield 18, 3) := by decide +kernel
theorem dX6_addPicture_32 : decode cX6_addPicture 32 = .ok (.aload_n 0, 1) := by decide +kernel
theorem dX6_addPicture_33 : decode cX6_addPicture 33 = .ok (.getfield 52, 3) := by decide +kernel
theorem dX6_addPicture_36 : decode cX6_addPicture 36 = .ok (.iload_n 3, 1) := by decide +kernel
theorem dX6_addPicture_37 : decode cX6_addPicture 37 = .ok (.iastore, 1) := by decide +kernel
theorem dX6_addPicture_38 : decode cX6_addPicture 38 = .ok (.aload_n 0, 1) := by decide +kernel
theorem dX6_addPicture_39 : decode cX6_addPicture 39 = .ok (.getfield 21, 3) := by decide +kernel
theorem dX6_addPicture_42 : decode cX6_addPicture 42 = .ok (.aload_n 0, 1) := by decide +kernel
theorem dX6_addPicture_43 : decode cX6_addPicture 43 = .ok (.getfield 52, 3) := by decide +kernel
theorem dX6_addPicture_46 : decode cX6_addPicture 46 = .ok (.iload 4, 2) := by decide +kernel
theorem dX6_addPicture_48 : decode cX6_addPicture 48 = .ok (.iastore, 1) := by decide +kernel
theorem dX6_addPicture_49 : decode cX6_addPicture 49 = .ok (.aload_n 0, 1) := by decide +kernel
theorem dX6_addPicture_50 : decode cX6_addPicture 50 = .ok (.getfield 24, 3) := by decide +kernel
theorem dX6_addPicture_53 : decode cX6_addPicture 53 = .ok (.aload_n 0, 1) := by decide +kernel
theorem dX6_addPicture_54 : decode cX6_addPicture 54 = .ok (.getfield 52, 3) := by decide +kernel
theorem dX6_addPicture_57 : decode cX6_addPicture 57 = .ok (.bipush (-9), 2) := by decide +kernel
theorem dX6_addPicture_59 : decode cX6_addPicture 59 = .ok (.iastore, 1) := by decide +kernel
theorem dX6_addPicture_60 : decode cX6_addPicture 60 = .ok (.aload_n 0, 1) := by decide +kernel
theorem dX6_addPicture_61 : decode cX6_addPicture 61 = .ok (.dup, 1) := by decide +kernel
theorem dX6_addPicture_62 : decode cX6_addPicture 62 = .ok (.getfield 52, 3) := by decide +kernel
theorem dX6_addPicture_65 : decode cX6_addPicture 65 = .ok (.iconst 1, 1) := by decide +kernel
theorem dX6_addPicture_66 : decode cX6_addPicture 66 = .ok (.iadd, 1) := by decide +kernel
theorem dX6_addPicture_67 : decode cX6_addPicture 67 = .ok (.putfield 52, 3) := by decide +kernel
theorem dX6_addPicture_70 : decode cX6_addPicture 70 = .ok (.return_, 1) := by decide +kernel
theorem dX6_addDoor_0 : decode cX6_addDoor 0 = .ok (.aload_n 0, 1) := by decide +kernel
theorem dX6_addDoor_1 : decode cX6_addDoor 1 = .ok (.getfield 55, 3) := by decide +kernel
theorem dX6_addDoor_4 : decode cX6_addDoor 4 = .ok (.iconst 3, 1) := by decide +kernel
theorem dX6_addDoor_5 : decode cX6_addDoor 5 = .ok (.if_icmp .ge 33, 3) := by decide +kernel
theorem dX6_addDoor_8 : decode cX6_addDoor 8 = .ok (.aload_n 0, 1) := by decide +kernel
theorem dX6_addDoor_9 : decode cX6_addDoor 9 = .ok (.getfield 27, 3) := by decide +kernel
theorem dX6_addDoor_12 : decode cX6_addDoor 12 = .ok (.aload_n 0, 1) := by decide +kernel
theorem dX6_addDoor_13 : decode cX6_addDoor 13 = .ok (.getfield 55, 3) := by decide +kernel
theorem dX6_addDoor_16 : decode cX6_addDoor 16 = .ok (.iload_n 1, 1) := by decide +kernel
theorem dX6_addDoor_17 : decode cX6_addDoor 17 = .ok (.iastore, 1) := by decide +kernel
theorem dX6_addDoor_18 : decode cX6_addDoor 18 = .ok (.aload_n 0, 1) := by decide +kernel
theorem dX6_addDoor_19 : decode cX6_addDoor 19 = .ok (.getfield 30, 3) := by decide +kernel
theorem dX6_addDoor_22 : decode cX6_addDoor 22 = .ok (.aload_n 0, 1) := by decide +kernel
theorem dX6_addDoor_23 : decode cX6_addDoor 23 = .ok (.getfield 55, 3) := by decide +kernel
theorem dX6_addDoor_26 : decode cX6_addDoor 26 = .ok (.iload_n 2, 1) := by decide +kernel
theorem dX6_addDoor_27 : decode cX6_addDoor 27 = .ok (.iastore, 1) := by decide +kernel
theorem dX6_addDoor_28 : decode cX6_addDoor 28 = .ok (.aload_n 0, 1) := by decide +kernel
theorem dX6_addDoor_29 : decode cX6_addDoor 29 = .ok (.dup, 1) := by decide +kernel
theorem dX6_addDoor_30 : decode cX6_addDoor 30 = .ok (.getfield 55, 3) := by decide +kernel
theorem dX6_addDoor_33 : decode cX6_addDoor 33 = .ok (.iconst 1, 1) := by decide +kernel
theorem dX6_addDoor_34 : decode cX6_addDoor 34 = .ok (.iadd, 1) := by decide +kernel
theorem dX6_addDoor_35 : decode cX6_addDoor 35 = .ok (.putfield 55, 3) := by decide +kernel
theorem dX6_addDoor_38 : decode cX6_addDoor 38 = .ok (.return_, 1) := by decide +kernel
theorem dX6_addHole_0 : decode cX6_addHole 0 = .ok (.aload_n 0, 1) := by decide +kernel
theorem dX6_addHole_1 : decode cX6_addHole 1 = .ok (.getfield 58, 3) := by decide +kernel
theorem dX6_addHole_4 : decode cX6_addHole 4 = .ok (.bipush 16, 2) := by decide +kernel
theorem dX6_addHole_6 : decode cX6_addHole 6 = .ok (.if_icmp .ge 33, 3) := by decide +kernel
theorem dX6_addHole_9 : decode cX6_addHole 9 = .ok (.aload_n 0, 1) := by decide +kernel
theorem dX6_addHole_10 : decode cX6_addHole 10 = .ok (.getfield 33, 3) := by decide +kernel
theorem dX6_addHole_13 : decode cX6_addHole 13 = .ok (.aload_n 0, 1) := by decide +kernel
theorem dX6_addHole_14 : decode cX6_addHole 14 = .ok (.getfield 58, 3) := by decide +kernel
theorem dX6_addHole_17 : decode cX6_addHole 17 = .ok (.iload_n 1, 1) := by decide +kernel
theorem dX6_addHole_18 : decode cX6_addHole 18 = .ok (.iastore, 1) := by decide +kernel
theorem dX6_addHole_19 : decode cX6_addHole 19 = .ok (.aload_n 0, 1) := by decide +kernel
theorem dX6_addHole_20 : decode cX6_addHole 20 = .ok (.getfield 36, 3) := by decide +kernel
theorem dX6_addHole_23 : decode cX6_addHole 23 = .ok (.aload_n 0, 1) := by decide +kernel
theorem dX6_addHole_24 : decode cX6_addHole 24 = .ok (.getfield 58, 3) := by decide +kernel
theorem dX6_addHole_27 : decode cX6_addHole 27 = .ok (.iload_n 2, 1) := by decide +kernel
theorem dX6_addHole_28 : decode cX6_addHole 28 = .ok (.iastore, 1) := by decide +kernel
theorem dX6_addHole_29 : decode cX6_addHole 29 = .ok (.aload_n 0, 1) := by decide +kernel
theorem dX6_addHole_30 : decode cX6_addHole 30 = .ok (.dup, 1) := by decide +kernel
theorem dX6_addHole_31 : decode cX6_addHole 31 = .ok (.getfield 58, 3) := by decide +kernel
theorem dX6_addHole_34 : decode cX6_addHole 34 = .ok (.iconst 1, 1) := by decide +kernel
theorem dX6_addHole_35 : decode cX6_addHole 35 = .ok (.iadd, 1) := by decide +kernel
theorem dX6_addHole_36 : decode cX6_addHole 36 = .ok (.putfield 58, 3) := by decide +kernel
theorem dX6_addHole_39 : decode cX6_addHole 39 = .ok (.return_, 1) := by decide +kernel
theorem dX6_removeHole_0 : decode cX6_removeHole 0 = .ok (.aload_n 0, 1) := by decide +kernel
theorem dX6_removeHole_1 : decode cX6_removeHole 1 = .ok (.iload_n 1, 1) := by decide +kernel
theorem dX6_removeHole_2 : decode cX6_removeHole 2 = .ok (.invokevirtual 67, 3) := by decide +kernel
theorem dX6_removeHole_5 : decode cX6_removeHole 5 = .ok (.ifCond .eq 59, 3) := by decide +kernel
theorem dX6_removeHole_8 : decode cX6_removeHole 8 = .ok (.iload_n 1, 1) := by decide +kernel
theorem dX6_removeHole_9 : decode cX6_removeHole 9 = .ok (.iconst 1, 1) := by decide +kernel
theorem dX6_removeHole_10 : decode cX6_removeHole 10 = .ok (.iadd, 1) := by decide +kernel
theorem dX6_removeHole_11 : decode cX6_removeHole 11 = .ok (.istore_n 2, 1) := by decide +kernel
theorem dX6_removeHole_12 : decode cX6_removeHole 12 = .ok (.iload_n 2, 1) := by decide +kernel
theorem dX6_removeHole_13 : decode cX6_removeHole 13 = .ok (.aload_n 0, 1) := by decide +kernel
theorem dX6_removeHole_14 : decode cX6_removeHole 14 = .ok (.getfield 58, 3) := by decide +kernel
theorem dX6_removeHole_17 : decode cX6_removeHole 17 = .ok (.if_icmp .ge 37, 3) := by decide +kernel
theorem dX6_removeHole_20 : decode cX6_removeHole 20 = .ok (.aload_n 0, 1) := by decide +kernel
theorem dX6_removeHole_21 : decode cX6_removeHole 21 = .ok (.getfield 33, 3) := by decide +kernel
theorem dX6_removeHole_24 : decode cX6_removeHole 24 = .ok (.iload_n 2, 1) := by decide +kernel
theorem dX6_removeHole_25 : decode cX6_removeHole 25 = .ok (.iconst 1, 1) := by decide +kernel
theorem dX6_removeHole_26 : decode cX6_removeHole 26 = .ok (.isub, 1) := by decide +kernel
theorem dX6_removeHole_27 : decode cX6_removeHole 27 = .ok (.aload_n 0, 1) := by decide +kernel
theorem dX6_removeHole_28 : decode cX6_removeHole 28 = .ok (.getfield 33, 3) := by decide +kernel
theorem dX6_removeHole_31 : decode cX6_removeHole 31 = .ok (.iload_n 2, 1) := by decide +kernel
theorem dX6_removeHole_32 : decode cX6_removeHole 32 = .ok (.iaload, 1) := by decide +kernel
theorem dX6_removeHole_33 : decode cX6_removeHole 33 = .ok (.iastore, 1) := by decide +kernel
theorem dX6_removeHole_34 : decode cX6_removeHole 34 = .ok (.aload_n 0, 1) := by decide +kernel
theorem dX6_removeHole_35 : decode cX6_removeHole 35 = .ok (.getfield 36, 3) := by decide +kernel
theorem dX6_removeHole_38 : decode cX6_removeHole 38 = .ok (.iload_n 2, 1) := by decide +kernel
theorem dX6_removeHole_39 : decode cX6_removeHole 39 = .ok (.iconst 1, 1) := by decide +kernel
theorem dX6_removeHole_40 : decode cX6_removeHole 40 = .ok (.isub, 1) := by decide +kernel
theorem dX6_removeHole_41 : decode cX6_removeHole 41 = .ok (.aload_n 0, 1) := by decide +kernel
theorem dX6_removeHole_42 : decode cX6_removeHole 42 = .ok (.getfield 36, 3) := by decide +kernel
theorem dX6_removeHole_45 : decode cX6_removeHole 45 = .ok (.iload_n 2, 1) := by decide +kernel
theorem dX6_removeHole_46 : decode cX6_removeHole 46 = .ok (.iaload, 1) := by decide +kernel
theorem dX6_removeHole_47 : decode cX6_removeHole 47 = .ok (.iastore, 1) := by decide +kernel
theorem dX6_removeHole_48 : decode cX6_removeHole 48 = .ok (.iinc 2 1, 3) := by decide +kernel
theorem dX6_removeHole_51 : decode cX6_removeHole 51 = .ok (.goto (-39), 3) := by decide +kernel
theorem dX6_removeHole_54 : decode cX6_removeHole 54 = .ok (.aload_n 0, 1) := by decide +kernel
theorem dX6_removeHole_55 : decode cX6_removeHole 55 = .ok (.dup, 1) := by decide +kernel
theorem dX6_removeHole_56 : decode cX6_removeHole 56 = .ok (.getfield 58, 3) := by decide +kernel
theorem dX6_removeHole_59 : decode cX6_removeHole 59 = .ok (.iconst 1, 1) := by decide +kernel
theorem dX6_removeHole_60 : decode cX6_removeHole 60 = .ok (.isub, 1) := by decide +kernel
theorem dX6_removeHole_61 : decode cX6_removeHole 61 = .ok (.putfield 58, 3) := by decide +kernel
theorem dX6_removeHole_64 : decode cX6_removeHole 64 = .ok (.return_, 1) := by decide +kernel
theorem dX6_hasPicture_0 : decode cX6_hasPicture 0 = .ok (.iload_n 1, 1) := by decide +kernel
theorem dX6_hasPicture_1 : decode cX6_hasPicture 1 = .ok (.ifCond .lt 15, 3) := by decide +kernel
theorem dX6_hasPicture_4 : decode cX6_hasPicture 4 = .ok (.iload_n 1, 1) := by decide +kernel
theorem dX6_hasPicture_5 : decode cX6_hasPicture 5 = .ok (.aload_n 0, 1) := by decide +kernel
theorem dX6_hasPicture_6 : decode cX6_hasPicture 6 = .ok (.getfield 52, 3) := by decide +kernel
theorem dX6_hasPicture_9 : decode cX6_hasPicture 9 = .ok (.if_icmp .ge 7, 3) := by decide +kernel
theorem dX6_hasPicture_12 : decode cX6_hasPicture 12 = .ok (.iconst 1, 1) := by decide +kernel
theorem dX6_hasPicture_13 : decode cX6_hasPicture 13 = .ok (.goto 4, 3) := by decide +kernel
theorem dX6_hasPicture_16 : decode cX6_hasPicture 16 = .ok (.iconst 0, 1) := by decide +kernel
theorem dX6_hasPicture_17 : decode cX6_hasPicture 17 = .ok (.ireturn, 1) := by decide +kernel
theorem dX6_hasDoor_0 : decode cX6_hasDoor 0 = .ok (.iload_n 1, 1) := by decide +kernel
theorem dX6_hasDoor_1 : decode cX6_hasDoor 1 = .ok (.ifCond .lt 15, 3) := by decide +kernel
theorem dX6_hasDoor_4 : decode cX6_hasDoor 4 = .ok (.iload_n 1, 1) := by decide +kernel
theorem dX6_hasDoor_5 : decode cX6_hasDoor 5 = .ok (.aload_n 0, 1) := by decide +kernel
theorem dX6_hasDoor_6 : decode cX6_hasDoor 6 = .ok (.getfield 55, 3) := by decide +kernel
theorem dX6_hasDoor_9 : decode cX6_hasDoor 9 = .ok (.if_icmp .ge 7, 3) := by decide +kernel
theorem dX6_hasDoor_12 : decode cX6_hasDoor 12 = .ok (.iconst 1, 1) := by decide +kernel
theorem dX6_hasDoor_13 : decode cX6_hasDoor 13 = .ok (.goto 4, 3) := by decide +kernel
theorem dX6_hasDoor_16 : decode cX6_hasDoor 16 = .ok (.iconst 0, 1) := by decide +kernel
theorem dX6_hasDoor_17 : decode cX6_hasDoor 17 = .ok (.ireturn, 1) := by decide +kernel
theorem dX6_hasHole_0 : decode cX6_hasHole 0 = .ok (.iload_n 1, 1) := by decide +kernel
theorem dX6_hasHole_1 : decode cX6_hasHole 1 = .ok (.ifCond .lt 15, 3) := by decide +kernel
theorem dX6_hasHole_4 : decode cX6_hasHole 4 = .ok (.iload_n 1, 1) := by decide +kernel
theorem dX6_hasHole_5 : decode cX6_hasHole 5 = .ok (.aload_n 0, 1) := by decide +kernel
theorem dX6_hasHole_6 : decode cX6_hasHole 6 = .ok (.getfield 58, 3) := by decide +kernel
theorem dX6_hasHole_9 : decode cX6_hasHole 9 = .ok (.if_icmp .ge 7, 3) := by decide +kernel
theorem dX6_hasHole_12 : decode cX6_hasHole 12 = .ok (.iconst 1, 1) := by decide +kernel
theorem dX6_hasHole_13 : decode cX6_hasHole 13 = .ok (.goto 4, 3) := by decide +kernel
theorem dX6_hasHole_16 : decode cX6_hasHole 16 = .ok (.iconst 0, 1) := by decide +kernel
theorem dX6_hasHole_17 : decode cX6_hasHole 17 = .ok (.ireturn, 1) := by decide +kernel
theorem dX6_isUp_0 : decode cX6_isUp 0 = .ok (.aload_n 0, 1) := by decide +kernel
theorem dX6_isUp_1 : decode cX6_isUp 1 = .ok (.iload_n 1, 1) := by decide +kernel
theorem dX6_isUp_2 : decode cX6_isUp 2 = .ok (.invokevirtual 71, 3) := by decide +kernel
theorem dX6_isUp_5 : decode cX6_isUp 5 = .ok (.ifCond .eq 18, 3) := by decide +kernel
theorem dX6_isUp_8 : decode cX6_isUp 8 = .ok (.aload_n 0, 1) := by decide +kernel
theorem dX6_isUp_9 : decode cX6_isUp 9 = .ok (.getfield 24, 3) := by decide +kernel
theorem dX6_isUp_12 : decode cX6_isUp 12 = .ok (.iload_n 1, 1) := by decide +kernel
theorem dX6_isUp_13 : decode cX6_isUp 13 = .ok (.iaload, 1) := by decide +kernel
theorem dX6_isUp_14 : decode cX6_isUp 14 = .ok (.bipush (-9), 2) := by decide +kernel
theorem dX6_isUp_16 : decode cX6_isUp 16 = .ok (.if_icmp .eq 7, 3) := by decide +kernel
theorem dX6_isUp_19 : decode cX6_isUp 19 = .ok (.iconst 1, 1) := by decide +kernel
theorem dX6_isUp_20 : decode cX6_isUp 20 = .ok (.goto 4, 3) := by decide +kernel
theorem dX6_isUp_23 : decode cX6_isUp 23 = .ok (.iconst 0, 1) := by decide +kernel
theorem dX6_isUp_24 : decode cX6_isUp 24 = .ok (.ireturn, 1) := by decide +kernel
theorem dX6_hookX_0 : decode cX6_hookX 0 = .ok (.aload_n 0, 1) := by decide +kernel
theorem dX6_hookX_1 : decode cX6_hookX 1 = .ok (.iload_n 1, 1) := by decide +kernel
theorem dX6_hookX_2 : decode cX6_hookX 2 = .ok (.invokevirtual 71, 3) := by decide +kernel
theorem dX6_hookX_5 : decode cX6_hookX 5 = .ok (.ifCond .eq 16, 3) := by decide +kernel
theorem dX6_hookX_8 : decode cX6_hookX 8 = .ok (.iconst 2, 1) := by decide +kernel
theorem dX6_hookX_9 : decode cX6_hookX 9 = .ok (.iload_n 2, 1) := by decide +kernel
theorem dX6_hookX_10 : decode cX6_hookX 10 = .ok (.imul, 1) := by decide +kernel
theorem dX6_hookX_11 : decode cX6_hookX 11 = .ok (.aload_n 0, 1) := by decide +kernel
theorem dX6_hookX_12 : decode cX6_hookX 12 = .ok (.getfield 9, 3) := by decide +kernel
theorem dX6_hookX_15 : decode cX6_hookX 15 = .ok (.iload_n 1, 1) := by decide +kernel
theorem dX6_hookX_16 : decode cX6_hookX 16 = .ok (.iaload, 1) := by decide +kernel
theorem dX6_hookX_17 : decode cX6_hookX 17 = .ok (.iadd, 1) := by decide +kernel
theorem dX6_hookX_18 : decode cX6_hookX 18 = .ok (.goto 5, 3) := by decide +kernel
theorem dX6_hookX_21 : decode cX6_hookX 21 = .ok (.bipush (-9), 2) := by decide +kernel
theorem dX6_hookX_23 : decode cX6_hookX 23 = .ok (.ireturn, 1) := by decide +kernel
theorem dX6_hookY_0 : decode cX6_hookY 0 = .ok (.aload_n 0, 1) := by decide +kernel
theorem dX6_hookY_1 : decode cX6_hookY 1 = .ok (.iload_n 1, 1) := by decide +kernel
theorem dX6_hookY_2 : decode cX6_hookY 2 = .ok (.invokevirtual 71, 3) := by decide +kernel
theorem dX6_hookY_5 : decode cX6_hookY 5 = .ok (.ifCond .eq 28, 3) := by decide +kernel
theorem dX6_hookY_8 : decode cX6_hookY 8 = .ok (.iconst 2, 1) := by decide +kernel
theorem dX6_hookY_9 : decode cX6_hookY 9 = .ok (.aload_n 0, 1) := by decide +kernel
theorem dX6_hookY_10 : decode cX6_hookY 10 = .ok (.getfield 46, 3) := by decide +kernel
theorem dX6_hookY_13 : decode cX6_hookY 13 = .ok (.imul, 1) := by decide +kernel
theorem dX6_hookY_14 : decode cX6_hookY 14 = .ok (.aload_n 0, 1) := by decide +kernel
theorem dX6_hookY_15 : decode cX6_hookY 15 = .ok (.getfield 15, 3) := by decide +kernel
theorem dX6_hookY_18 : decode cX6_hookY 18 = .ok (.iload_n 1, 1) := by decide +kernel
theorem dX6_hookY_19 : decode cX6_hookY 19 = .ok (.iaload, 1) := by decide +kernel
theorem dX6_hookY_20 : decode cX6_hookY 20 = .ok (.iadd, 1) := by decide +kernel
theorem dX6_hookY_21 : decode cX6_hookY 21 = .ok (.iconst 2, 1) := by decide +kernel
theorem dX6_hookY_22 : decode cX6_hookY 22 = .ok (.aload_n 0, 1) := by decide +kernel
theorem dX6_hookY_23 : decode cX6_hookY 23 = .ok (.getfield 18, 3) := by decide +kernel
theorem dX6_hookY_26 : decode cX6_hookY 26 = .ok (.iload_n 1, 1) := by decide +kernel
theorem dX6_hookY_27 : decode cX6_hookY 27 = .ok (.iaload, 1) := by decide +kernel
theorem dX6_hookY_28 : decode cX6_hookY 28 = .ok (.imul, 1) := by decide +kernel
theorem dX6_hookY_29 : decode cX6_hookY 29 = .ok (.isub, 1) := by decide +kernel
theorem dX6_hookY_30 : decode cX6_hookY 30 = .ok (.goto 5, 3) := by decide +kernel
theorem dX6_hookY_33 : decode cX6_hookY 33 = .ok (.bipush (-9), 2) := by decide +kernel
theorem dX6_hookY_35 : decode cX6_hookY 35 = .ok (.ireturn, 1) := by decide +kernel
theorem dX6_findHole_0 : decode cX6_findHole 0 = .ok (.iconst 0, 1) := by decide +kernel
theorem dX6_findHole_1 : decode cX6_findHole 1 = .ok (.istore_n 3, 1) := by decide +kernel
theorem dX6_findHole_2 : decode cX6_findHole 2 = .ok (.iload_n 3, 1) := by decide +kernel
theorem dX6_findHole_3 : decode cX6_findHole 3 = .ok (.aload_n 0, 1) := by decide +kernel
theorem dX6_findHole_4 : decode cX6_findHole 4 = .ok (.getfield 58, 3) := by decide +kernel
theorem dX6_findHole_7 : decode cX6_findHole 7 = .ok (.if_icmp .ge 31, 3) := by decide +kernel
theorem dX6_findHole_10 : decode cX6_findHole 10 = .ok (.aload_n 0, 1) := by decide +kernel
theorem dX6_findHole_11 : decode cX6_findHole 11 = .ok (.getfield 33, 3) := by decide +kernel
theorem dX6_findHole_14 : decode cX6_findHole 14 = .ok (.iload_n 3, 1) := by decide +kernel
theorem dX6_findHole_15 : decode cX6_findHole 15 = .ok (.iaload, 1) := by decide +kernel
theorem dX6_findHole_16 : decode cX6_findHole 16 = .ok (.iload_n 1, 1) := by decide +kernel
theorem dX6_findHole_17 : decode cX6_findHole 17 = .ok (.if_icmp .ne 15, 3) := by decide +kernel
theorem dX6_findHole_20 : decode cX6_findHole 20 = .ok (.aload_n 0, 1) := by decide +kernel
theorem dX6_findHole_21 : decode cX6_findHole 21 = .ok (.getfield 36, 3) := by decide +kernel
theorem dX6_findHole_24 : decode cX6_findHole 24 = .ok (.iload_n 3, 1) := by decide +kernel
theorem dX6_findHole_25 : decode cX6_findHole 25 = .ok (.iaload, 1) := by decide +kernel
theorem dX6_findHole_26 : decode cX6_findHole 26 = .ok (.iload_n 2, 1) := by decide +kernel
theorem dX6_findHole_27 : decode cX6_findHole 27 = .ok (.if_icmp .ne 5, 3) := by decide +kernel
theorem dX6_findHole_30 : decode cX6_findHole 30 = .ok (.iload_n 3, 1) := by decide +kernel
theorem dX6_findHole_31 : decode cX6_findHole 31 = .ok (.ireturn, 1) := by decide +kernel
theorem dX6_findHole_32 : decode cX6_findHole 32 = .ok (.iinc 3 1, 3) := by decide +kernel
theorem dX6_findHole_35 : decode cX6_findHole 35 = .ok (.goto (-33), 3) := by decide +kernel
theorem dX6_findHole_38 : decode cX6_findHole 38 = .ok (.bipush (-9), 2) := by decide +kernel
theorem dX6_findHole_40 : decode cX6_findHole 40 = .ok (.ireturn, 1) := by decide +kernel
theorem dX6_hasHoleFor_0 : decode cX6_hasHoleFor 0 = .ok (.aload_n 0, 1) := by decide +kernel
theorem dX6_hasHoleFor_1 : decode cX6_hasHoleFor 1 = .ok (.aload_n 0, 1) := by decide +kernel
theorem dX6_hasHoleFor_2 : decode cX6_hasHoleFor 2 = .ok (.iload_n 1, 1) := by decide +kernel
theorem dX6_hasHoleFor_3 : decode cX6_hasHoleFor 3 = .ok (.iload_n 2, 1) := by decide +kernel
theorem dX6_hasHoleFor_4 : decode cX6_hasHoleFor 4 = .ok (.invokevirtual 74, 3) := by decide +kernel
theorem dX6_hasHoleFor_7 : decode cX6_hasHoleFor 7 = .ok (.aload_n 0, 1) := by decide +kernel
theorem dX6_hasHoleFor_8 : decode cX6_hasHoleFor 8 = .ok (.iload_n 1, 1) := by decide +kernel
theorem dX6_hasHoleFor_9 : decode cX6_hasHoleFor 9 = .ok (.invokevirtual 78, 3) := by decide +kernel
theorem dX6_hasHoleFor_12 : decode cX6_hasHoleFor 12 = .ok (.invokevirtual 82, 3) := by decide +kernel
theorem dX6_hasHoleFor_15 : decode cX6_hasHoleFor 15 = .ok (.ifCond .lt 7, 3) := by decide +kernel
theorem dX6_hasHoleFor_18 : decode cX6_hasHoleFor 18 = .ok (.iconst 1, 1) := by decide +kernel
theorem dX6_hasHoleFor_19 : decode cX6_hasHoleFor 19 = .ok (.goto 4, 3) := by decide +kernel
theorem dX6_hasHoleFor_22 : decode cX6_hasHoleFor 22 = .ok (.iconst 0, 1) := by decide +kernel
theorem dX6_hasHoleFor_23 : decode cX6_hasHoleFor 23 = .ok (.ireturn, 1) := by decide +kernel
theorem dX6_findPictureOn_0 : decode cX6_findPictureOn 0 = .ok (.aload_n 0, 1) := by decide +kernel
theorem dX6_findPictureOn_1 : decode cX6_findPictureOn 1 = .ok (.iload_n 1, 1) := by decide +kernel
theorem dX6_findPictureOn_2 : decode cX6_findPictureOn 2 = .ok (.invokevirtual 67, 3) := by decide +kernel
theorem dX6_findPictureOn_5 : decode cX6_findPictureOn 5 = .ok (.ifCond .ne 6, 3) := by decide +kernel
theorem dX6_findPictureOn_8 : decode cX6_findPictureOn 8 = .ok (.bipush (-9), 2) := by decide +kernel
theorem dX6_findPictureOn_10 : decode cX6_findPictureOn 10 = .ok (.ireturn, 1) := by decide +kernel
theorem dX6_findPictureOn_11 : decode cX6_findPictureOn 11 = .ok (.iconst 0, 1) := by decide +kernel
theorem dX6_findPictureOn_12 : decode cX6_findPictureOn 12 = .ok (.istore_n 2, 1) := by decide +kernel
theorem dX6_findPictureOn_13 : decode cX6_findPictureOn 13 = .ok (.iload_n 2, 1) := by decide +kernel
theorem dX6_findPictureOn_14 : decode cX6_findPictureOn 14 = .ok (.aload_n 0, 1) := by decide +kernel
theorem dX6_findPictureOn_15 : decode cX6_findPictureOn 15 = .ok (.getfield 52, 3) := by decide +kernel
theorem dX6_findPictureOn_18 : decode cX6_findPictureOn 18 = .ok (.if_icmp .ge 56, 3) := by decide +kernel
theorem dX6_findPictureOn_21 : decode cX6_findPictureOn 21 = .ok (.aload_n 0, 1) := by decide +kernel
theorem dX6_findPictureOn_22 : decode cX6_findPictureOn 22 = .ok (.getfield 24, 3) := by decide +kernel
theorem dX6_findPictureOn_25 : decode cX6_findPictureOn 25 = .ok (.iload_n 2, 1) := by decide +kernel
theorem dX6_findPictureOn_26 : decode cX6_findPictureOn 26 = .ok (.iaload, 1) := by decide +kernel
theorem dX6_findPictureOn_27 : decode cX6_findPictureOn 27 = .ok (.bipush (-9), 2) := by decide +kernel
theorem dX6_findPictureOn_29 : decode cX6_findPictureOn 29 = .ok (.if_icmp .eq 39, 3) := by decide +kernel
theorem dX6_findPictureOn_32 : decode cX6_findPictureOn 32 = .ok (.aload_n 0, 1) := by decide +kernel
theorem dX6_findPictureOn_33 : decode cX6_findPictureOn 33 = .ok (.iload_n 2, 1) := by decide +kernel
theorem dX6_findPictureOn_34 : decode cX6_findPictureOn 34 = .ok (.aload_n 0, 1) := by decide +kernel
theorem dX6_findPictureOn_35 : decode cX6_findPictureOn 35 = .ok (.getfield 24, 3) := by decide +kernel
theorem dX6_findPictureOn_38 : decode cX6_findPictureOn 38 = .ok (.iload_n 2, 1) := by decide +kernel
theorem dX6_findPictureOn_39 : decode cX6_findPictureOn 39 = .ok (.iaload, 1) := by decide +kernel
theorem dX6_findPictureOn_40 : decode cX6_findPictureOn 40 = .ok (.invokevirtual 74, 3) := by decide +kernel
theorem dX6_findPictureOn_43 : decode cX6_findPictureOn 43 = .ok (.aload_n 0, 1) := by decide +kernel
theorem dX6_findPictureOn_44 : decode cX6_findPictureOn 44 = .ok (.getfield 33, 3) := by decide +kernel
theorem dX6_findPictureOn_47 : decode cX6_findPictureOn 47 = .ok (.iload_n 1, 1) := by decide +kernel
theorem dX6_findPictureOn_48 : decode cX6_findPictureOn 48 = .ok (.iaload, 1) := by decide +kernel
theorem dX6_findPictureOn_49 : decode cX6_findPictureOn 49 = .ok (.if_icmp .ne 19, 3) := by decide +kernel
theorem dX6_findPictureOn_52 : decode cX6_findPictureOn 52 = .ok (.aload_n 0, 1) := by decide +kernel
theorem dX6_findPictureOn_53 : decode cX6_findPictureOn 53 = .ok (.iload_n 2, 1) := by decide +kernel
theorem dX6_findPictureOn_54 : decode cX6_findPictureOn 54 = .ok (.invokevirtual 78, 3) := by decide +kernel
theorem dX6_findPictureOn_57 : decode cX6_findPictureOn 57 = .ok (.aload_n 0, 1) := by decide +kernel
theorem dX6_findPictureOn_58 : decode cX6_findPictureOn 58 = .ok (.getfield 36, 3) := by decide +kernel
theorem dX6_findPictureOn_61 : decode cX6_findPictureOn 61 = .ok (.iload_n 1, 1) := by decide +kernel
theorem dX6_findPictureOn_62 : decode cX6_findPictureOn 62 = .ok (.iaload, 1) := by decide +kernel
theorem dX6_findPictureOn_63 : decode cX6_findPictureOn 63 = .ok (.if_icmp .ne 5, 3) := by decide +kernel
theorem dX6_findPictureOn_66 : decode cX6_findPictureOn 66 = .ok (.iload_n 2, 1) := by decide +kernel
theorem dX6_findPictureOn_67 : decode cX6_findPictureOn 67 = .ok (.ireturn, 1) := by decide +kernel
theorem dX6_findPictureOn_68 : decode cX6_findPictureOn 68 = .ok (.iinc 2 1, 3) := by decide +kernel
theorem dX6_findPictureOn_71 : decode cX6_findPictureOn 71 = .ok (.goto (-58), 3) := by decide +kernel
theorem dX6_findPictureOn_74 : decode cX6_findPictureOn 74 = .ok (.bipush (-9), 2) := by decide +kernel
theorem dX6_findPictureOn_76 : decode cX6_findPictureOn 76 = .ok (.ireturn, 1) := by decide +kernel
theorem dX6_fits_0 : decode cX6_fits 0 = .ok (.aload_n 0, 1) := by decide +kernel
theorem dX6_fits_1 : decode cX6_fits 1 = .ok (.iload_n 1, 1) := by decide +kernel
theorem dX6_fits_2 : decode cX6_fits 2 = .ok (.invokevirtual 71, 3) := by decide +kernel
theorem dX6_fits_5 : decode cX6_fits 5 = .ok (.ifCond .eq 22, 3) := by decide +kernel
theorem dX6_fits_8 : decode cX6_fits 8 = .ok (.iload_n 2, 1) := by decide +kernel
theorem dX6_fits_9 : decode cX6_fits 9 = .ok (.ifCond .lt 18, 3) := by decide +kernel
theorem dX6_fits_12 : decode cX6_fits 12 = .ok (.iload_n 2, 1) := by decide +kernel
theorem dX6_fits_13 : decode cX6_fits 13 = .ok (.aload_n 0, 1) := by decide +kernel
theorem dX6_fits_14 : decode cX6_fits 14 = .ok (.getfield 9, 3) := by decide +kernel
theorem dX6_fits_17 : decode cX6_fits 17 = .ok (.iload_n 1, 1) := by decide +kernel
theorem dX6_fits_18 : decode cX6_fits 18 = .ok (.iaload, 1) := by decide +kernel
theorem dX6_fits_19 : decode cX6_fits 19 = .ok (.iadd, 1) := by decide +kernel
theorem dX6_fits_20 : decode cX6_fits 20 = .ok (.aload_n 0, 1) := by decide +kernel
theorem dX6_fits_21 : decode cX6_fits 21 = .ok (.getfield 42, 3) := by decide +kernel
theorem dX6_fits_24 : decode cX6_fits 24 = .ok (.if_icmp .le 5, 3) := by decide +kernel
theorem dX6_fits_27 : decode cX6_fits 27 = .ok (.iconst 0, 1) := by decide +kernel
theorem dX6_fits_28 : decode cX6_fits 28 = .ok (.ireturn, 1) := by decide +kernel
theorem dX6_fits_29 : decode cX6_fits 29 = .ok (.iconst 0, 1) := by decide +kernel
theorem dX6_fits_30 : decode cX6_fits 30 = .ok (.istore_n 3, 1) := by decide +kernel
theorem dX6_fits_31 : decode cX6_fits 31 = .ok (.iload_n 3, 1) := by decide +kernel
theorem dX6_fits_32 : decode cX6_fits 32 = .ok (.aload_n 0, 1) := by decide +kernel
theorem dX6_fits_33 : decode cX6_fits 33 = .ok (.getfield 55, 3) := by decide +kernel
theorem dX6_fits_36 : decode cX6_fits 36 = .ok (.if_icmp .ge 38, 3) := by decide +kernel
theorem dX6_fits_39 : decode cX6_fits 39 = .ok (.iload_n 2, 1) := by decide +kernel
theorem dX6_fits_40 : decode cX6_fits 40 = .ok (.aload_n 0, 1) := by decide +kernel
theorem dX6_fits_41 : decode cX6_fits 41 = .ok (.getfield 30, 3) := by decide +kernel
theorem dX6_fits_44 : decode cX6_fits 44 = .ok (.iload_n 3, 1) := by decide +kernel
theorem dX6_fits_45 : decode cX6_fits 45 = .ok (.iaload, 1) := by decide +kernel
theorem dX6_fits_46 : decode cX6_fits 46 = .ok (.if_icmp .ge 22, 3) := by decide +kernel
theorem dX6_fits_49 : decode cX6_fits 49 = .ok (.aload_n 0, 1) := by decide +kernel
theorem dX6_fits_50 : decode cX6_fits 50 = .ok (.getfield 27, 3) := by decide +kernel
theorem dX6_fits_53 : decode cX6_fits 53 = .ok (.iload_n 3, 1) := by decide +kernel
theorem dX6_fits_54 : decode cX6_fits 54 = .ok (.iaload, 1) := by decide +kernel
theorem dX6_fits_55 : decode cX6_fits 55 = .ok (.iload_n 2, 1) := by decide +kernel
theorem dX6_fits_56 : decode cX6_fits 56 = .ok (.aload_n 0, 1) := by decide +kernel
theorem dX6_fits_57 : decode cX6_fits 57 = .ok (.getfield 9, 3) := by decide +kernel
theorem dX6_fits_60 : decode cX6_fits 60 = .ok (.iload_n 1, 1) := by decide +kernel
theorem dX6_fits_61 : decode cX6_fits 61 = .ok (.iaload, 1) := by decide +kernel
theorem dX6_fits_62 : decode cX6_fits 62 = .ok (.iadd, 1) := by decide +kernel
theorem dX6_fits_63 : decode cX6_fits 63 = .ok (.if_icmp .ge 5, 3) := by decide +kernel
theorem dX6_fits_66 : decode cX6_fits 66 = .ok (.iconst 0, 1) := by decide +kernel
theorem dX6_fits_67 : decode cX6_fits 67 = .ok (.ireturn, 1) := by decide +kernel
theorem dX6_fits_68 : decode cX6_fits 68 = .ok (.iinc 3 1, 3) := by decide +kernel
theorem dX6_fits_71 : decode cX6_fits 71 = .ok (.goto (-40), 3) := by decide +kernel
theorem dX6_fits_74 : decode cX6_fits 74 = .ok (.iconst 1, 1) := by decide +kernel
theorem dX6_fits_75 : decode cX6_fits 75 = .ok (.ireturn, 1) := by decide +kernel
theorem dX6_isApartFromAll_0 : decode cX6_isApartFromAll 0 = .ok (.aload_n 0, 1) := by decide +kernel
theorem dX6_isApartFromAll_1 : decode cX6_isApartFromAll 1 = .ok (.iload_n 1, 1) := by decide +kernel
theorem dX6_isApartFromAll_2 : decode cX6_isApartFromAll 2 = .ok (.invokevirtual 71, 3) := by decide +kernel
theorem dX6_isApartFromAll_5 : decode cX6_isApartFromAll 5 = .ok (.ifCond .ne 5, 3) := by decide +kernel
theorem dX6_isApartFromAll_8 : decode cX6_isApartFromAll 8 = .ok (.iconst 0, 1) := by decide +kernel
theorem dX6_isApartFromAll_9 : decode cX6_isApartFromAll 9 = .ok (.ireturn, 1) := by decide +kernel
theorem dX6_isApartFromAll_10 : decode cX6_isApartFromAll 10 = .ok (.iconst 0, 1) := by decide +kernel
theorem dX6_isApartFromAll_11 : decode cX6_isApartFromAll 11 = .ok (.istore_n 3, 1) := by decide +kernel
theorem dX6_isApartFromAll_12 : decode cX6_isApartFromAll 12 = .ok (.iload_n 3, 1) := by decide +kernel
theorem dX6_isApartFromAll_13 : decode cX6_isApartFromAll 13 = .ok (.aload_n 0, 1) := by decide +kernel
theorem dX6_isApartFromAll_14 : decode cX6_isApartFromAll 14 = .ok (.getfield 52, 3) := by decide +kernel
theorem dX6_isApartFromAll_17 : decode cX6_isApartFromAll 17 = .ok (.if_icmp .ge 71, 3) := by decide +kernel
theorem dX6_isApartFromAll_20 : decode cX6_isApartFromAll 20 = .ok (.iload_n 3, 1) := by decide +kernel
theorem dX6_isApartFromAll_21 : decode cX6_isApartFromAll 21 = .ok (.iload_n 1, 1) := by decide +kernel
theorem dX6_isApartFromAll_22 : decode cX6_isApartFromAll 22 = .ok (.if_icmp .eq 60, 3) := by decide +kernel
theorem dX6_isApartFromAll_25 : decode cX6_isApartFromAll 25 = .ok (.aload_n 0, 1) := by decide +kernel
theorem dX6_isApartFromAll_26 : decode cX6_isApartFromAll 26 = .ok (.getfield 24, 3) := by decide +kernel
theorem dX6_isApartFromAll_29 : decode cX6_isApartFromAll 29 = .ok (.iload_n 3, 1) := by decide +kernel
theorem dX6_isApartFromAll_30 : decode cX6_isApartFromAll 30 = .ok (.iaload, 1) := by decide +kernel
theorem dX6_isApartFromAll_31 : decode cX6_isApartFromAll 31 = .ok (.bipush (-9), 2) := by decide +kernel
theorem dX6_isApartFromAll_33 : decode cX6_isApartFromAll 33 = .ok (.if_icmp .eq 49, 3) := by decide +kernel
theorem dX6_isApartFromAll_36 : decode cX6_isApartFromAll 36 = .ok (.iload_n 2, 1) := by decide +kernel
theorem dX6_isApartFromAll_37 : decode cX6_isApartFromAll 37 = .ok (.aload_n 0, 1) := by decide +kernel
theorem dX6_isApartFromAll_38 : decode cX6_isApartFromAll 38 = .ok (.getfield 9, 3) := by decide +kernel
theorem dX6_isApartFromAll_41 : decode cX6_isApartFromAll 41 = .ok (.iload_n 1, 1) := by decide +kernel
theorem dX6_isApartFromAll_42 : decode cX6_isApartFromAll 42 = .ok (.iaload, 1) := by decide +kernel
theorem dX6_isApartFromAll_43 : decode cX6_isApartFromAll 43 = .ok (.iadd, 1) := by decide +kernel
theorem dX6_isApartFromAll_44 : decode cX6_isApartFromAll 44 = .ok (.aload_n 0, 1) := by decide +kernel
theorem dX6_isApartFromAll_45 : decode cX6_isApartFromAll 45 = .ok (.getfield 49, 3) := by decide +kernel
theorem dX6_isApartFromAll_48 : decode cX6_isApartFromAll 48 = .ok (.iadd, 1) := by decide +kernel
theorem dX6_isApartFromAll_49 : decode cX6_isApartFromAll 49 = .ok (.aload_n 0, 1) := by decide +kernel
theorem dX6_isApartFromAll_50 : decode cX6_isApartFromAll 50 = .ok (.getfield 24, 3) := by decide +kernel
theorem dX6_isApartFromAll_53 : decode cX6_isApartFromAll 53 = .ok (.iload_n 3, 1) := by decide +kernel
theorem dX6_isApartFromAll_54 : decode cX6_isApartFromAll 54 = .ok (.iaload, 1) := by decide +kernel
theorem dX6_isApartFromAll_55 : decode cX6_isApartFromAll 55 = .ok (.if_icmp .le 27, 3) := by decide +kernel
theorem dX6_isApartFromAll_58 : decode cX6_isApartFromAll 58 = .ok (.aload_n 0, 1) := by decide +kernel
theorem dX6_isApartFromAll_59 : decode cX6_isApartFromAll 59 = .ok (.getfield 24, 3) := by decide +kernel
theorem dX6_isApartFromAll_62 : decode cX6_isApartFromAll 62 = .ok (.iload_n 3, 1) := by decide +kernel
theorem dX6_isApartFromAll_63 : decode cX6_isApartFromAll 63 = .ok (.iaload, 1) := by decide +kernel
theorem dX6_isApartFromAll_64 : decode cX6_isApartFromAll 64 = .ok (.aload_n 0, 1) := by decide +kernel
theorem dX6_isApartFromAll_65 : decode cX6_isApartFromAll 65 = .ok (.getfield 9, 3) := by decide +kernel
theorem dX6_isApartFromAll_68 : decode cX6_isApartFromAll 68 = .ok (.iload_n 3, 1) := by decide +kernel
theorem dX6_isApartFromAll_69 : decode cX6_isApartFromAll 69 = .ok (.iaload, 1) := by decide +kernel
theorem dX6_isApartFromAll_70 : decode cX6_isApartFromAll 70 = .ok (.iadd, 1) := by decide +kernel
theorem dX6_isApartFromAll_71 : decode cX6_isApartFromAll 71 = .ok (.aload_n 0, 1) := by decide +kernel
theorem dX6_isApartFromAll_72 : decode cX6_isApartFromAll 72 = .ok (.getfield 49, 3) := by decide +kernel
theorem dX6_isApartFromAll_75 : decode cX6_isApartFromAll 75 = .ok (.iadd, 1) := by decide +kernel
theorem dX6_isApartFromAll_76 : decode cX6_isApartFromAll 76 = .ok (.iload_n 2, 1) := by decide +kernel
theorem dX6_isApartFromAll_77 : decode cX6_isApartFromAll 77 = .ok (.if_icmp .le 5, 3) := by decide +kernel
theorem dX6_isApartFromAll_80 : decode cX6_isApartFromAll 80 = .ok (.iconst 0, 1) := by decide +kernel
theorem dX6_isApartFromAll_81 : decode cX6_isApartFromAll 81 = .ok (.ireturn, 1) := by decide +kernel
theorem dX6_isApartFromAll_82 : decode cX6_isApartFromAll 82 = .ok (.iinc 3 1, 3) := by decide +kernel
theorem dX6_isApartFromAll_85 : decode cX6_isApartFromAll 85 = .ok (.goto (-73), 3) := by decide +kernel
theorem dX6_isApartFromAll_88 : decode cX6_isApartFromAll 88 = .ok (.iconst 1, 1) := by decide +kernel
theorem dX6_isApartFromAll_89 : decode cX6_isApartFromAll 89 = .ok (.ireturn, 1) := by decide +kernel
theorem dX6_isFreeFor_0 : decode cX6_isFreeFor 0 = .ok (.aload_n 0, 1) := by decide +kernel
theorem dX6_isFreeFor_1 : decode cX6_isFreeFor 1 = .ok (.iload_n 1, 1) := by decide +kernel
theorem dX6_isFreeFor_2 : decode cX6_isFreeFor 2 = .ok (.iload_n 2, 1) := by decide +kernel
theorem dX6_isFreeFor_3 : decode cX6_isFreeFor 3 = .ok (.invokevirtual 85, 3) := by decide +kernel
theorem dX6_isFreeFor_6 : decode cX6_isFreeFor 6 = .ok (.ifCond .eq 16, 3) := by decide +kernel
theorem dX6_isFreeFor_9 : decode cX6_isFreeFor 9 = .ok (.aload_n 0, 1) := by decide +kernel
theorem dX6_isFreeFor_10 : decode cX6_isFreeFor 10 = .ok (.iload_n 1, 1) := by decide +kernel
theorem dX6_isFreeFor_11 : decode cX6_isFreeFor 11 = .ok (.iload_n 2, 1) := by decide +kernel
theorem dX6_isFreeFor_12 : decode cX6_isFreeFor 12 = .ok (.invokevirtual 89, 3) := by decide +kernel
theorem dX6_isFreeFor_15 : decode cX6_isFreeFor 15 = .ok (.ifCond .eq 7, 3) := by decide +kernel
theorem dX6_isFreeFor_18 : decode cX6_isFreeFor 18 = .ok (.iconst 1, 1) := by decide +kernel
theorem dX6_isFreeFor_19 : decode cX6_isFreeFor 19 = .ok (.goto 4, 3) := by decide +kernel
theorem dX6_isFreeFor_22 : decode cX6_isFreeFor 22 = .ok (.iconst 0, 1) := by decide +kernel
theorem dX6_isFreeFor_23 : decode cX6_isFreeFor 23 = .ok (.ireturn, 1) := by decide +kernel
theorem dX6_putUp_0 : decode cX6_putUp 0 = .ok (.aload_n 0, 1) := by decide +kernel
theorem dX6_putUp_1 : decode cX6_putUp 1 = .ok (.iload_n 1, 1) := by decide +kernel
theorem dX6_putUp_2 : decode cX6_putUp 2 = .ok (.invokevirtual 71, 3) := by decide +kernel
theorem dX6_putUp_5 : decode cX6_putUp 5 = .ok (.ifCond .eq 34, 3) := by decide +kernel
theorem dX6_putUp_8 : decode cX6_putUp 8 = .ok (.aload_n 0, 1) := by decide +kernel
theorem dX6_putUp_9 : decode cX6_putUp 9 = .ok (.getfield 24, 3) := by decide +kernel
theorem dX6_putUp_12 : decode cX6_putUp 12 = .ok (.iload_n 1, 1) := by decide +kernel
theorem dX6_putUp_13 : decode cX6_putUp 13 = .ok (.iload_n 2, 1) := by decide +kernel
theorem dX6_putUp_14 : decode cX6_putUp 14 = .ok (.iastore, 1) := by decide +kernel
theorem dX6_putUp_15 : decode cX6_putUp 15 = .ok (.aload_n 0, 1) := by decide +kernel
theorem dX6_putUp_16 : decode cX6_putUp 16 = .ok (.iload_n 1, 1) := by decide +kernel
theorem dX6_putUp_17 : decode cX6_putUp 17 = .ok (.iload_n 2, 1) := by decide +kernel
theorem dX6_putUp_18 : decode cX6_putUp 18 = .ok (.invokevirtual 92, 3) := by decide +kernel
theorem dX6_putUp_21 : decode cX6_putUp 21 = .ok (.ifCond .ne 18, 3) := by decide +kernel
theorem dX6_putUp_24 : decode cX6_putUp 24 = .ok (.aload_n 0, 1) := by decide +kernel
theorem dX6_putUp_25 : decode cX6_putUp 25 = .ok (.aload_n 0, 1) := by decide +kernel
theorem dX6_putUp_26 : decode cX6_putUp 26 = .ok (.iload_n 1, 1) := by decide +kernel
theorem dX6_putUp_27 : decode cX6_putUp 27 = .ok (.iload_n 2, 1) := by decide +kernel
theorem dX6_putUp_28 : decode cX6_putUp 28 = .ok (.invokevirtual 74, 3) := by decide +kernel
theorem dX6_putUp_31 : decode cX6_putUp 31 = .ok (.aload_n 0, 1) := by decide +kernel
theorem dX6_putUp_32 : decode cX6_putUp 32 = .ok (.iload_n 1, 1) := by decide +kernel
theorem dX6_putUp_33 : decode cX6_putUp 33 = .ok (.invokevirtual 78, 3) := by decide +kernel
theorem dX6_putUp_36 : decode cX6_putUp 36 = .ok (.invokevirtual 95, 3) := by decide +kernel
theorem dX6_putUp_39 : decode cX6_putUp 39 = .ok (.return_, 1) := by decide +kernel
theorem dX6_takeAllDown_0 : decode cX6_takeAllDown 0 = .ok (.iconst 0, 1) := by decide +kernel
theorem dX6_takeAllDown_1 : decode cX6_takeAllDown 1 = .ok (.istore_n 1, 1) := by decide +kernel
theorem dX6_takeAllDown_2 : decode cX6_takeAllDown 2 = .ok (.iload_n 1, 1) := by decide +kernel
theorem dX6_takeAllDown_3 : decode cX6_takeAllDown 3 = .ok (.aload_n 0, 1) := by decide +kernel
theorem dX6_takeAllDown_4 : decode cX6_takeAllDown 4 = .ok (.getfield 52, 3) := by decide +kernel
theorem dX6_takeAllDown_7 : decode cX6_takeAllDown 7 = .ok (.if_icmp .ge 17, 3) := by decide +kernel
theorem dX6_takeAllDown_10 : decode cX6_takeAllDown 10 = .ok (.aload_n 0, 1) := by decide +kernel
theorem dX6_takeAllDown_11 : decode cX6_takeAllDown 11 = .ok (.getfield 24, 3) := by decide +kernel
theorem dX6_takeAllDown_14 : decode cX6_takeAllDown 14 = .ok (.iload_n 1, 1) := by decide +kernel
theorem dX6_takeAllDown_15 : decode cX6_takeAllDown 15 = .ok (.bipush (-9), 2) := by decide +kernel
theorem dX6_takeAllDown_17 : decode cX6_takeAllDown 17 = .ok (.iastore, 1) := by decide +kernel
theorem dX6_takeAllDown_18 : decode cX6_takeAllDown 18 = .ok (.iinc 1 1, 3) := by decide +kernel
theorem dX6_takeAllDown_21 : decode cX6_takeAllDown 21 = .ok (.goto (-19), 3) := by decide +kernel
theorem dX6_takeAllDown_24 : decode cX6_takeAllDown 24 = .ok (.return_, 1) := by decide +kernel
theorem dX6_countUp_0 : decode cX6_countUp 0 = .ok (.iconst 0, 1) := by decide +kernel
theorem dX6_countUp_1 : decode cX6_countUp 1 = .ok (.istore_n 1, 1) := by decide +kernel
theorem dX6_countUp_2 : decode cX6_countUp 2 = .ok (.iconst 0, 1) := by decide +kernel
theorem dX6_countUp_3 : decode cX6_countUp 3 = .ok (.istore_n 2, 1) := by decide +kernel
theorem dX6_countUp_4 : decode cX6_countUp 4 = .ok (.iload_n 2, 1) := by decide +kernel
theorem dX6_countUp_5 : decode cX6_countUp 5 = .ok (.aload_n 0, 1) := by decide +kernel
theorem dX6_countUp_6 : decode cX6_countUp 6 = .ok (.getfield 52, 3) := by decide +kernel
theorem dX6_countUp_9 : decode cX6_countUp 9 = .ok (.if_icmp .ge 23, 3) := by decide +kernel
theorem dX6_countUp_12 : decode cX6_countUp 12 = .ok (.aload_n 0, 1) := by decide +kernel
theorem dX6_countUp_13 : decode cX6_countUp 13 = .ok (.getfield 24, 3) := by decide +kernel
theorem dX6_countUp_16 : decode cX6_countUp 16 = .ok (.iload_n 2, 1) := by decide +kernel
theorem dX6_countUp_17 : decode cX6_countUp 17 = .ok (.iaload, 1) := by decide +kernel
theorem dX6_countUp_18 : decode cX6_countUp 18 = .ok (.bipush (-9), 2) := by decide +kernel
theorem dX6_countUp_20 : decode cX6_countUp 20 = .ok (.if_icmp .eq 6, 3) := by decide +kernel
theorem dX6_countUp_23 : decode cX6_countUp 23 = .ok (.iinc 1 1, 3) := by decide +kernel
theorem dX6_countUp_26 : decode cX6_countUp 26 = .ok (.iinc 2 1, 3) := by decide +kernel
theorem dX6_countUp_29 : decode cX6_countUp 29 = .ok (.goto (-25), 3) := by decide +kernel
theorem dX6_countUp_32 : decode cX6_countUp 32 = .ok (.iload_n 1, 1) := by decide +kernel
theorem dX6_countUp_33 : decode cX6_countUp 33 = .ok (.ireturn, 1) := by decide +kernel
theorem dX6_momentAt_0 : decode cX6_momentAt 0 = .ok (.aload_n 0, 1) := by decide +kernel
theorem dX6_momentAt_1 : decode cX6_momentAt 1 = .ok (.iload_n 1, 1) := by decide +kernel
theorem dX6_momentAt_2 : decode cX6_momentAt 2 = .ok (.invokevirtual 71, 3) := by decide +kernel
theorem dX6_momentAt_5 : decode cX6_momentAt 5 = .ok (.ifCond .eq 24, 3) := by decide +kernel
theorem dX6_momentAt_8 : decode cX6_momentAt 8 = .ok (.aload_n 0, 1) := by decide +kernel
theorem dX6_momentAt_9 : decode cX6_momentAt 9 = .ok (.getfield 21, 3) := by decide +kernel
theorem dX6_momentAt_12 : decode cX6_momentAt 12 = .ok (.iload_n 1, 1) := by decide +kernel
theorem dX6_momentAt_13 : decode cX6_momentAt 13 = .ok (.iaload, 1) := by decide +kernel
theorem dX6_momentAt_14 : decode cX6_momentAt 14 = .ok (.aload_n 0, 1) := by decide +kernel
theorem dX6_momentAt_15 : decode cX6_momentAt 15 = .ok (.iload_n 1, 1) := by decide +kernel
theorem dX6_momentAt_16 : decode cX6_momentAt 16 = .ok (.iload_n 2, 1) := by decide +kernel
theorem dX6_momentAt_17 : decode cX6_momentAt 17 = .ok (.invokevirtual 74, 3) := by decide +kernel
theorem dX6_momentAt_20 : decode cX6_momentAt 20 = .ok (.aload_n 0, 1) := by decide +kernel
theorem dX6_momentAt_21 : decode cX6_momentAt 21 = .ok (.getfield 42, 3) := by decide +kernel
theorem dX6_momentAt_24 : decode cX6_momentAt 24 = .ok (.isub, 1) := by decide +kernel
theorem dX6_momentAt_25 : decode cX6_momentAt 25 = .ok (.imul, 1) := by decide +kernel
theorem dX6_momentAt_26 : decode cX6_momentAt 26 = .ok (.goto 4, 3) := by decide +kernel
theorem dX6_momentAt_29 : decode cX6_momentAt 29 = .ok (.iconst 0, 1) := by decide +kernel
theorem dX6_momentAt_30 : decode cX6_momentAt 30 = .ok (.ireturn, 1) := by decide +kernel
theorem dX6_momentNow_0 : decode cX6_momentNow 0 = .ok (.iconst 0, 1) := by decide +kernel
theorem dX6_momentNow_1 : decode cX6_momentNow 1 = .ok (.istore_n 1, 1) := by decide +kernel
theorem dX6_momentNow_2 : decode cX6_momentNow 2 = .ok (.iconst 0, 1) := by decide +kernel
theorem dX6_momentNow_3 : decode cX6_momentNow 3 = .ok (.istore_n 2, 1) := by decide +kernel
theorem dX6_momentNow_4 : decode cX6_momentNow 4 = .ok (.iload_n 2, 1) := by decide +kernel
theorem dX6_momentNow_5 : decode cX6_momentNow 5 = .ok (.aload_n 0, 1) := by decide +kernel
theorem dX6_momentNow_6 : decode cX6_momentNow 6 = .ok (.getfield 52, 3) := by decide +kernel
theorem dX6_momentNow_9 : decode cX6_momentNow 9 = .ok (.if_icmp .ge 34, 3) := by decide +kernel
theorem dX6_momentNow_12 : decode cX6_momentNow 12 = .ok (.aload_n 0, 1) := by decide +kernel
theorem dX6_momentNow_13 : decode cX6_momentNow 13 = .ok (.getfield 24, 3) := by decide +kernel
theorem dX6_momentNow_16 : decode cX6_momentNow 16 = .ok (.iload_n 2, 1) := by decide +kernel
theorem dX6_momentNow_17 : decode cX6_momentNow 17 = .ok (.iaload, 1) := by decide +kernel
theorem dX6_momentNow_18 : decode cX6_momentNow 18 = .ok (.bipush (-9), 2) := by decide +kernel
theorem dX6_momentNow_20 : decode cX6_momentNow 20 = .ok (.if_icmp .eq 17, 3) := by decide +kernel
theorem dX6_momentNow_23 : decode cX6_momentNow 23 = .ok (.iload_n 1, 1) := by decide +kernel
theorem dX6_momentNow_24 : decode cX6_momentNow 24 = .ok (.aload_n 0, 1) := by decide +kernel
theorem dX6_momentNow_25 : decode cX6_momentNow 25 = .ok (.iload_n 2, 1) := by decide +kernel
theorem dX6_momentNow_26 : decode cX6_momentNow 26 = .ok (.aload_n 0, 1) := by decide +kernel
theorem dX6_momentNow_27 : decode cX6_momentNow 27 = .ok (.getfield 24, 3) := by decide +kernel
theorem dX6_momentNow_30 : decode cX6_momentNow 30 = .ok (.iload_n 2, 1) := by decide +kernel
