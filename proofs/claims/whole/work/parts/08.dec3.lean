theorem dX6_momentNow_31 : decode cX6_momentNow 31 = .ok (.iaload, 1) := by decide +kernel
theorem dX6_momentNow_32 : decode cX6_momentNow 32 = .ok (.invokevirtual 99, 3) := by decide +kernel
theorem dX6_momentNow_35 : decode cX6_momentNow 35 = .ok (.iadd, 1) := by decide +kernel
theorem dX6_momentNow_36 : decode cX6_momentNow 36 = .ok (.istore_n 1, 1) := by decide +kernel
theorem dX6_momentNow_37 : decode cX6_momentNow 37 = .ok (.iinc 2 1, 3) := by decide +kernel
theorem dX6_momentNow_40 : decode cX6_momentNow 40 = .ok (.goto (-36), 3) := by decide +kernel
theorem dX6_momentNow_43 : decode cX6_momentNow 43 = .ok (.iload_n 1, 1) := by decide +kernel
theorem dX6_momentNow_44 : decode cX6_momentNow 44 = .ok (.ireturn, 1) := by decide +kernel
theorem dX6_firstFit_0 : decode cX6_firstFit 0 = .ok (.iload_n 2, 1) := by decide +kernel
theorem dX6_firstFit_1 : decode cX6_firstFit 1 = .ok (.istore_n 3, 1) := by decide +kernel
theorem dX6_firstFit_2 : decode cX6_firstFit 2 = .ok (.iload_n 3, 1) := by decide +kernel
theorem dX6_firstFit_3 : decode cX6_firstFit 3 = .ok (.aload_n 0, 1) := by decide +kernel
theorem dX6_firstFit_4 : decode cX6_firstFit 4 = .ok (.getfield 42, 3) := by decide +kernel
theorem dX6_firstFit_7 : decode cX6_firstFit 7 = .ok (.if_icmp .ge 20, 3) := by decide +kernel
theorem dX6_firstFit_10 : decode cX6_firstFit 10 = .ok (.aload_n 0, 1) := by decide +kernel
theorem dX6_firstFit_11 : decode cX6_firstFit 11 = .ok (.iload_n 1, 1) := by decide +kernel
theorem dX6_firstFit_12 : decode cX6_firstFit 12 = .ok (.iload_n 3, 1) := by decide +kernel
theorem dX6_firstFit_13 : decode cX6_firstFit 13 = .ok (.invokevirtual 85, 3) := by decide +kernel
theorem dX6_firstFit_16 : decode cX6_firstFit 16 = .ok (.ifCond .eq 5, 3) := by decide +kernel
theorem dX6_firstFit_19 : decode cX6_firstFit 19 = .ok (.iload_n 3, 1) := by decide +kernel
theorem dX6_firstFit_20 : decode cX6_firstFit 20 = .ok (.ireturn, 1) := by decide +kernel
theorem dX6_firstFit_21 : decode cX6_firstFit 21 = .ok (.iinc 3 1, 3) := by decide +kernel
theorem dX6_firstFit_24 : decode cX6_firstFit 24 = .ok (.goto (-22), 3) := by decide +kernel
theorem dX6_firstFit_27 : decode cX6_firstFit 27 = .ok (.bipush (-9), 2) := by decide +kernel
theorem dX6_firstFit_29 : decode cX6_firstFit 29 = .ok (.ireturn, 1) := by decide +kernel
theorem dX7_init_0 : decode cX7_init 0 = .ok (.aload_n 0, 1) := by decide +kernel
theorem dX7_init_1 : decode cX7_init 1 = .ok (.invokespecial 1, 3) := by decide +kernel
theorem dX7_init_4 : decode cX7_init 4 = .ok (.aload_n 0, 1) := by decide +kernel
theorem dX7_init_5 : decode cX7_init 5 = .ok (.bipush 120, 2) := by decide +kernel
theorem dX7_init_7 : decode cX7_init 7 = .ok (.newarray .int, 2) := by decide +kernel
theorem dX7_init_9 : decode cX7_init 9 = .ok (.putfield 9, 3) := by decide +kernel
theorem dX7_init_12 : decode cX7_init 12 = .ok (.aload_n 0, 1) := by decide +kernel
theorem dX7_init_13 : decode cX7_init 13 = .ok (.iconst 0, 1) := by decide +kernel
theorem dX7_init_14 : decode cX7_init 14 = .ok (.putfield 13, 3) := by decide +kernel
theorem dX7_init_17 : decode cX7_init 17 = .ok (.aload_n 0, 1) := by decide +kernel
theorem dX7_init_18 : decode cX7_init 18 = .ok (.new 17, 3) := by decide +kernel
theorem dX7_init_21 : decode cX7_init 21 = .ok (.dup, 1) := by decide +kernel
theorem dX7_init_22 : decode cX7_init 22 = .ok (.invokespecial 19, 3) := by decide +kernel
theorem dX7_init_25 : decode cX7_init 25 = .ok (.putfield 20, 3) := by decide +kernel
theorem dX7_init_28 : decode cX7_init 28 = .ok (.aload_n 0, 1) := by decide +kernel
theorem dX7_init_29 : decode cX7_init 29 = .ok (.new 24, 3) := by decide +kernel
theorem dX7_init_32 : decode cX7_init 32 = .ok (.dup, 1) := by decide +kernel
theorem dX7_init_33 : decode cX7_init 33 = .ok (.invokespecial 26, 3) := by decide +kernel
theorem dX7_init_36 : decode cX7_init 36 = .ok (.putfield 27, 3) := by decide +kernel
theorem dX7_init_39 : decode cX7_init 39 = .ok (.aload_n 0, 1) := by decide +kernel
theorem dX7_init_40 : decode cX7_init 40 = .ok (.new 24, 3) := by decide +kernel
theorem dX7_init_43 : decode cX7_init 43 = .ok (.dup, 1) := by decide +kernel
theorem dX7_init_44 : decode cX7_init 44 = .ok (.invokespecial 26, 3) := by decide +kernel
theorem dX7_init_47 : decode cX7_init 47 = .ok (.putfield 31, 3) := by decide +kernel
theorem dX7_init_50 : decode cX7_init 50 = .ok (.aload_n 0, 1) := by decide +kernel
theorem dX7_init_51 : decode cX7_init 51 = .ok (.new 34, 3) := by decide +kernel
theorem dX7_init_54 : decode cX7_init 54 = .ok (.dup, 1) := by decide +kernel
theorem dX7_init_55 : decode cX7_init 55 = .ok (.invokespecial 36, 3) := by decide +kernel
theorem dX7_init_58 : decode cX7_init 58 = .ok (.putfield 37, 3) := by decide +kernel
theorem dX7_init_61 : decode cX7_init 61 = .ok (.aload_n 0, 1) := by decide +kernel
theorem dX7_init_62 : decode cX7_init 62 = .ok (.new 41, 3) := by decide +kernel
theorem dX7_init_65 : decode cX7_init 65 = .ok (.dup, 1) := by decide +kernel
theorem dX7_init_66 : decode cX7_init 66 = .ok (.invokespecial 43, 3) := by decide +kernel
theorem dX7_init_69 : decode cX7_init 69 = .ok (.putfield 44, 3) := by decide +kernel
theorem dX7_init_72 : decode cX7_init 72 = .ok (.aload_n 0, 1) := by decide +kernel
theorem dX7_init_73 : decode cX7_init 73 = .ok (.iconst 0, 1) := by decide +kernel
theorem dX7_init_74 : decode cX7_init 74 = .ok (.putfield 48, 3) := by decide +kernel
theorem dX7_init_77 : decode cX7_init 77 = .ok (.aload_n 0, 1) := by decide +kernel
theorem dX7_init_78 : decode cX7_init 78 = .ok (.new 52, 3) := by decide +kernel
theorem dX7_init_81 : decode cX7_init 81 = .ok (.dup, 1) := by decide +kernel
theorem dX7_init_82 : decode cX7_init 82 = .ok (.invokespecial 54, 3) := by decide +kernel
theorem dX7_init_85 : decode cX7_init 85 = .ok (.putfield 55, 3) := by decide +kernel
theorem dX7_init_88 : decode cX7_init 88 = .ok (.aload_n 0, 1) := by decide +kernel
theorem dX7_init_89 : decode cX7_init 89 = .ok (.new 59, 3) := by decide +kernel
theorem dX7_init_92 : decode cX7_init 92 = .ok (.dup, 1) := by decide +kernel
theorem dX7_init_93 : decode cX7_init 93 = .ok (.invokespecial 61, 3) := by decide +kernel
theorem dX7_init_96 : decode cX7_init 96 = .ok (.putfield 62, 3) := by decide +kernel
theorem dX7_init_99 : decode cX7_init 99 = .ok (.aload_n 0, 1) := by decide +kernel
theorem dX7_init_100 : decode cX7_init 100 = .ok (.iconst 2, 1) := by decide +kernel
theorem dX7_init_101 : decode cX7_init 101 = .ok (.anewarray 24, 3) := by decide +kernel
theorem dX7_init_104 : decode cX7_init 104 = .ok (.putfield 66, 3) := by decide +kernel
theorem dX7_init_107 : decode cX7_init 107 = .ok (.iconst 0, 1) := by decide +kernel
theorem dX7_init_108 : decode cX7_init 108 = .ok (.istore_n 1, 1) := by decide +kernel
theorem dX7_init_109 : decode cX7_init 109 = .ok (.iload_n 1, 1) := by decide +kernel
theorem dX7_init_110 : decode cX7_init 110 = .ok (.iconst 2, 1) := by decide +kernel
theorem dX7_init_111 : decode cX7_init 111 = .ok (.if_icmp .ge 22, 3) := by decide +kernel
theorem dX7_init_114 : decode cX7_init 114 = .ok (.aload_n 0, 1) := by decide +kernel
theorem dX7_init_115 : decode cX7_init 115 = .ok (.getfield 66, 3) := by decide +kernel
theorem dX7_init_118 : decode cX7_init 118 = .ok (.iload_n 1, 1) := by decide +kernel
theorem dX7_init_119 : decode cX7_init 119 = .ok (.new 24, 3) := by decide +kernel
theorem dX7_init_122 : decode cX7_init 122 = .ok (.dup, 1) := by decide +kernel
theorem dX7_init_123 : decode cX7_init 123 = .ok (.invokespecial 26, 3) := by decide +kernel
theorem dX7_init_126 : decode cX7_init 126 = .ok (.aastore, 1) := by decide +kernel
theorem dX7_init_127 : decode cX7_init 127 = .ok (.iinc 1 1, 3) := by decide +kernel
theorem dX7_init_130 : decode cX7_init 130 = .ok (.goto (-21), 3) := by decide +kernel
theorem dX7_init_133 : decode cX7_init 133 = .ok (.aload_n 0, 1) := by decide +kernel
theorem dX7_init_134 : decode cX7_init 134 = .ok (.iconst 2, 1) := by decide +kernel
theorem dX7_init_135 : decode cX7_init 135 = .ok (.newarray .boolean, 2) := by decide +kernel
theorem dX7_init_137 : decode cX7_init 137 = .ok (.putfield 70, 3) := by decide +kernel
theorem dX7_init_140 : decode cX7_init 140 = .ok (.return_, 1) := by decide +kernel
theorem dX7_type_0 : decode cX7_type 0 = .ok (.iload_n 1, 1) := by decide +kernel
theorem dX7_type_1 : decode cX7_type 1 = .ok (.ifCond .lt 10, 3) := by decide +kernel
theorem dX7_type_4 : decode cX7_type 4 = .ok (.iload_n 1, 1) := by decide +kernel
theorem dX7_type_5 : decode cX7_type 5 = .ok (.sipush 255, 3) := by decide +kernel
theorem dX7_type_8 : decode cX7_type 8 = .ok (.if_icmp .le 5, 3) := by decide +kernel
theorem dX7_type_11 : decode cX7_type 11 = .ok (.iconst (-1), 1) := by decide +kernel
theorem dX7_type_12 : decode cX7_type 12 = .ok (.ireturn, 1) := by decide +kernel
theorem dX7_type_13 : decode cX7_type 13 = .ok (.aload_n 0, 1) := by decide +kernel
theorem dX7_type_14 : decode cX7_type 14 = .ok (.getfield 13, 3) := by decide +kernel
theorem dX7_type_17 : decode cX7_type 17 = .ok (.bipush 120, 2) := by decide +kernel
theorem dX7_type_19 : decode cX7_type 19 = .ok (.if_icmp .lt 6, 3) := by decide +kernel
theorem dX7_type_22 : decode cX7_type 22 = .ok (.bipush (-3), 2) := by decide +kernel
theorem dX7_type_24 : decode cX7_type 24 = .ok (.ireturn, 1) := by decide +kernel
theorem dX7_type_25 : decode cX7_type 25 = .ok (.aload_n 0, 1) := by decide +kernel
theorem dX7_type_26 : decode cX7_type 26 = .ok (.getfield 9, 3) := by decide +kernel
theorem dX7_type_29 : decode cX7_type 29 = .ok (.aload_n 0, 1) := by decide +kernel
theorem dX7_type_30 : decode cX7_type 30 = .ok (.getfield 13, 3) := by decide +kernel
theorem dX7_type_33 : decode cX7_type 33 = .ok (.iload_n 1, 1) := by decide +kernel
theorem dX7_type_34 : decode cX7_type 34 = .ok (.iastore, 1) := by decide +kernel
theorem dX7_type_35 : decode cX7_type 35 = .ok (.aload_n 0, 1) := by decide +kernel
theorem dX7_type_36 : decode cX7_type 36 = .ok (.dup, 1) := by decide +kernel
theorem dX7_type_37 : decode cX7_type 37 = .ok (.getfield 13, 3) := by decide +kernel
theorem dX7_type_40 : decode cX7_type 40 = .ok (.iconst 1, 1) := by decide +kernel
theorem dX7_type_41 : decode cX7_type 41 = .ok (.iadd, 1) := by decide +kernel
theorem dX7_type_42 : decode cX7_type 42 = .ok (.putfield 13, 3) := by decide +kernel
theorem dX7_type_45 : decode cX7_type 45 = .ok (.aload_n 0, 1) := by decide +kernel
theorem dX7_type_46 : decode cX7_type 46 = .ok (.getfield 13, 3) := by decide +kernel
theorem dX7_type_49 : decode cX7_type 49 = .ok (.ireturn, 1) := by decide +kernel
theorem dX7_clear_0 : decode cX7_clear 0 = .ok (.aload_n 0, 1) := by decide +kernel
theorem dX7_clear_1 : decode cX7_clear 1 = .ok (.getfield 13, 3) := by decide +kernel
theorem dX7_clear_4 : decode cX7_clear 4 = .ok (.istore_n 1, 1) := by decide +kernel
theorem dX7_clear_5 : decode cX7_clear 5 = .ok (.aload_n 0, 1) := by decide +kernel
theorem dX7_clear_6 : decode cX7_clear 6 = .ok (.iconst 0, 1) := by decide +kernel
theorem dX7_clear_7 : decode cX7_clear 7 = .ok (.putfield 13, 3) := by decide +kernel
theorem dX7_clear_10 : decode cX7_clear 10 = .ok (.iload_n 1, 1) := by decide +kernel
theorem dX7_clear_11 : decode cX7_clear 11 = .ok (.ireturn, 1) := by decide +kernel
theorem dX7_tells_0 : decode cX7_tells 0 = .ok (.aload_n 0, 1) := by decide +kernel
theorem dX7_tells_1 : decode cX7_tells 1 = .ok (.getfield 20, 3) := by decide +kernel
theorem dX7_tells_4 : decode cX7_tells 4 = .ok (.aload_n 0, 1) := by decide +kernel
theorem dX7_tells_5 : decode cX7_tells 5 = .ok (.getfield 31, 3) := by decide +kernel
theorem dX7_tells_8 : decode cX7_tells 8 = .ok (.aload_n 0, 1) := by decide +kernel
theorem dX7_tells_9 : decode cX7_tells 9 = .ok (.getfield 9, 3) := by decide +kernel
theorem dX7_tells_12 : decode cX7_tells 12 = .ok (.aload_n 0, 1) := by decide +kernel
theorem dX7_tells_13 : decode cX7_tells 13 = .ok (.getfield 13, 3) := by decide +kernel
theorem dX7_tells_16 : decode cX7_tells 16 = .ok (.invokevirtual 74, 3) := by decide +kernel
theorem dX7_tells_19 : decode cX7_tells 19 = .ok (.istore_n 1, 1) := by decide +kernel
theorem dX7_tells_20 : decode cX7_tells 20 = .ok (.iload_n 1, 1) := by decide +kernel
theorem dX7_tells_21 : decode cX7_tells 21 = .ok (.ifCond .ge 5, 3) := by decide +kernel
theorem dX7_tells_24 : decode cX7_tells 24 = .ok (.iload_n 1, 1) := by decide +kernel
theorem dX7_tells_25 : decode cX7_tells 25 = .ok (.ireturn, 1) := by decide +kernel
theorem dX7_tells_26 : decode cX7_tells 26 = .ok (.aload_n 0, 1) := by decide +kernel
theorem dX7_tells_27 : decode cX7_tells 27 = .ok (.invokevirtual 78, 3) := by decide +kernel
theorem dX7_tells_30 : decode cX7_tells 30 = .ok (.aload_n 0, 1) := by decide +kernel
theorem dX7_tells_31 : decode cX7_tells 31 = .ok (.getfield 27, 3) := by decide +kernel
theorem dX7_tells_34 : decode cX7_tells 34 = .ok (.aload_n 0, 1) := by decide +kernel
theorem dX7_tells_35 : decode cX7_tells 35 = .ok (.getfield 31, 3) := by decide +kernel
theorem dX7_tells_38 : decode cX7_tells 38 = .ok (.invokevirtual 81, 3) := by decide +kernel
theorem dX7_tells_41 : decode cX7_tells 41 = .ok (.aload_n 0, 1) := by decide +kernel
theorem dX7_tells_42 : decode cX7_tells 42 = .ok (.iconst 0, 1) := by decide +kernel
theorem dX7_tells_43 : decode cX7_tells 43 = .ok (.putfield 13, 3) := by decide +kernel
theorem dX7_tells_46 : decode cX7_tells 46 = .ok (.iload_n 1, 1) := by decide +kernel
theorem dX7_tells_47 : decode cX7_tells 47 = .ok (.ireturn, 1) := by decide +kernel
theorem dX7_hangs_0 : decode cX7_hangs 0 = .ok (.aload_n 0, 1) := by decide +kernel
theorem dX7_hangs_1 : decode cX7_hangs 1 = .ok (.getfield 27, 3) := by decide +kernel
theorem dX7_hangs_4 : decode cX7_hangs 4 = .ok (.iload_n 1, 1) := by decide +kernel
theorem dX7_hangs_5 : decode cX7_hangs 5 = .ok (.invokevirtual 85, 3) := by decide +kernel
theorem dX7_hangs_8 : decode cX7_hangs 8 = .ok (.ifCond .eq 13, 3) := by decide +kernel
theorem dX7_hangs_11 : decode cX7_hangs 11 = .ok (.iload_n 2, 1) := by decide +kernel
theorem dX7_hangs_12 : decode cX7_hangs 12 = .ok (.ifCond .lt 9, 3) := by decide +kernel
theorem dX7_hangs_15 : decode cX7_hangs 15 = .ok (.iload_n 2, 1) := by decide +kernel
theorem dX7_hangs_16 : decode cX7_hangs 16 = .ok (.bipush 40, 2) := by decide +kernel
theorem dX7_hangs_18 : decode cX7_hangs 18 = .ok (.if_icmp .lt 5, 3) := by decide +kernel
theorem dX7_hangs_21 : decode cX7_hangs 21 = .ok (.iconst (-1), 1) := by decide +kernel
theorem dX7_hangs_22 : decode cX7_hangs 22 = .ok (.ireturn, 1) := by decide +kernel
theorem dX7_hangs_23 : decode cX7_hangs 23 = .ok (.aload_n 0, 1) := by decide +kernel
theorem dX7_hangs_24 : decode cX7_hangs 24 = .ok (.getfield 27, 3) := by decide +kernel
theorem dX7_hangs_27 : decode cX7_hangs 27 = .ok (.iload_n 1, 1) := by decide +kernel
theorem dX7_hangs_28 : decode cX7_hangs 28 = .ok (.invokevirtual 89, 3) := by decide +kernel
theorem dX7_hangs_31 : decode cX7_hangs 31 = .ok (.ifCond .ne 15, 3) := by decide +kernel
theorem dX7_hangs_34 : decode cX7_hangs 34 = .ok (.aload_n 0, 1) := by decide +kernel
theorem dX7_hangs_35 : decode cX7_hangs 35 = .ok (.getfield 27, 3) := by decide +kernel
theorem dX7_hangs_38 : decode cX7_hangs 38 = .ok (.iload_n 1, 1) := by decide +kernel
theorem dX7_hangs_39 : decode cX7_hangs 39 = .ok (.iload_n 2, 1) := by decide +kernel
theorem dX7_hangs_40 : decode cX7_hangs 40 = .ok (.invokevirtual 92, 3) := by decide +kernel
theorem dX7_hangs_43 : decode cX7_hangs 43 = .ok (.ifCond .ne 6, 3) := by decide +kernel
theorem dX7_hangs_46 : decode cX7_hangs 46 = .ok (.bipush (-2), 2) := by decide +kernel
theorem dX7_hangs_48 : decode cX7_hangs 48 = .ok (.ireturn, 1) := by decide +kernel
theorem dX7_hangs_49 : decode cX7_hangs 49 = .ok (.aload_n 0, 1) := by decide +kernel
theorem dX7_hangs_50 : decode cX7_hangs 50 = .ok (.getfield 27, 3) := by decide +kernel
theorem dX7_hangs_53 : decode cX7_hangs 53 = .ok (.iload_n 1, 1) := by decide +kernel
theorem dX7_hangs_54 : decode cX7_hangs 54 = .ok (.iload_n 2, 1) := by decide +kernel
theorem dX7_hangs_55 : decode cX7_hangs 55 = .ok (.invokevirtual 96, 3) := by decide +kernel
theorem dX7_hangs_58 : decode cX7_hangs 58 = .ok (.ifCond .ne 7, 3) := by decide +kernel
theorem dX7_hangs_61 : decode cX7_hangs 61 = .ok (.iconst 1, 1) := by decide +kernel
theorem dX7_hangs_62 : decode cX7_hangs 62 = .ok (.goto 4, 3) := by decide +kernel
theorem dX7_hangs_65 : decode cX7_hangs 65 = .ok (.iconst 0, 1) := by decide +kernel
theorem dX7_hangs_66 : decode cX7_hangs 66 = .ok (.istore_n 3, 1) := by decide +kernel
theorem dX7_hangs_67 : decode cX7_hangs 67 = .ok (.iload_n 3, 1) := by decide +kernel
theorem dX7_hangs_68 : decode cX7_hangs 68 = .ok (.ifCond .eq 18, 3) := by decide +kernel
theorem dX7_hangs_71 : decode cX7_hangs 71 = .ok (.aload_n 0, 1) := by decide +kernel
theorem dX7_hangs_72 : decode cX7_hangs 72 = .ok (.getfield 27, 3) := by decide +kernel
theorem dX7_hangs_75 : decode cX7_hangs 75 = .ok (.getfield 99, 3) := by decide +kernel
theorem dX7_hangs_78 : decode cX7_hangs 78 = .ok (.bipush 16, 2) := by decide +kernel
theorem dX7_hangs_80 : decode cX7_hangs 80 = .ok (.if_icmp .lt 6, 3) := by decide +kernel
theorem dX7_hangs_83 : decode cX7_hangs 83 = .ok (.bipush (-3), 2) := by decide +kernel
theorem dX7_hangs_85 : decode cX7_hangs 85 = .ok (.ireturn, 1) := by decide +kernel
theorem dX7_hangs_86 : decode cX7_hangs 86 = .ok (.aload_n 0, 1) := by decide +kernel
theorem dX7_hangs_87 : decode cX7_hangs 87 = .ok (.invokevirtual 78, 3) := by decide +kernel
theorem dX7_hangs_90 : decode cX7_hangs 90 = .ok (.aload_n 0, 1) := by decide +kernel
theorem dX7_hangs_91 : decode cX7_hangs 91 = .ok (.getfield 27, 3) := by decide +kernel
theorem dX7_hangs_94 : decode cX7_hangs 94 = .ok (.iload_n 1, 1) := by decide +kernel
theorem dX7_hangs_95 : decode cX7_hangs 95 = .ok (.iload_n 2, 1) := by decide +kernel
theorem dX7_hangs_96 : decode cX7_hangs 96 = .ok (.invokevirtual 102, 3) := by decide +kernel
theorem dX7_hangs_99 : decode cX7_hangs 99 = .ok (.iload_n 3, 1) := by decide +kernel
theorem dX7_hangs_100 : decode cX7_hangs 100 = .ok (.ifCond .eq 7, 3) := by decide +kernel
theorem dX7_hangs_103 : decode cX7_hangs 103 = .ok (.iconst 1, 1) := by decide +kernel
theorem dX7_hangs_104 : decode cX7_hangs 104 = .ok (.goto 4, 3) := by decide +kernel
theorem dX7_hangs_107 : decode cX7_hangs 107 = .ok (.iconst 0, 1) := by decide +kernel
theorem dX7_hangs_108 : decode cX7_hangs 108 = .ok (.ireturn, 1) := by decide +kernel
theorem dX7_takes_0 : decode cX7_takes 0 = .ok (.aload_n 0, 1) := by decide +kernel
theorem dX7_takes_1 : decode cX7_takes 1 = .ok (.getfield 27, 3) := by decide +kernel
theorem dX7_takes_4 : decode cX7_takes 4 = .ok (.iload_n 1, 1) := by decide +kernel
theorem dX7_takes_5 : decode cX7_takes 5 = .ok (.invokevirtual 85, 3) := by decide +kernel
theorem dX7_takes_8 : decode cX7_takes 8 = .ok (.ifCond .ne 5, 3) := by decide +kernel
theorem dX7_takes_11 : decode cX7_takes 11 = .ok (.iconst (-1), 1) := by decide +kernel
theorem dX7_takes_12 : decode cX7_takes 12 = .ok (.ireturn, 1) := by decide +kernel
theorem dX7_takes_13 : decode cX7_takes 13 = .ok (.aload_n 0, 1) := by decide +kernel
theorem dX7_takes_14 : decode cX7_takes 14 = .ok (.getfield 27, 3) := by decide +kernel
theorem dX7_takes_17 : decode cX7_takes 17 = .ok (.iload_n 1, 1) := by decide +kernel
theorem dX7_takes_18 : decode cX7_takes 18 = .ok (.invokevirtual 89, 3) := by decide +kernel
theorem dX7_takes_21 : decode cX7_takes 21 = .ok (.ifCond .ne 6, 3) := by decide +kernel
theorem dX7_takes_24 : decode cX7_takes 24 = .ok (.bipush (-2), 2) := by decide +kernel
theorem dX7_takes_26 : decode cX7_takes 26 = .ok (.ireturn, 1) := by decide +kernel
theorem dX7_takes_27 : decode cX7_takes 27 = .ok (.aload_n 0, 1) := by decide +kernel
theorem dX7_takes_28 : decode cX7_takes 28 = .ok (.invokevirtual 78, 3) := by decide +kernel
theorem dX7_takes_31 : decode cX7_takes 31 = .ok (.aload_n 0, 1) := by decide +kernel
theorem dX7_takes_32 : decode cX7_takes 32 = .ok (.getfield 27, 3) := by decide +kernel
theorem dX7_takes_35 : decode cX7_takes 35 = .ok (.getfield 106, 3) := by decide +kernel
theorem dX7_takes_38 : decode cX7_takes 38 = .ok (.iload_n 1, 1) := by decide +kernel
theorem dX7_takes_39 : decode cX7_takes 39 = .ok (.iaload, 1) := by decide +kernel
theorem dX7_takes_40 : decode cX7_takes 40 = .ok (.istore_n 2, 1) := by decide +kernel
theorem dX7_takes_41 : decode cX7_takes 41 = .ok (.aload_n 0, 1) := by decide +kernel
theorem dX7_takes_42 : decode cX7_takes 42 = .ok (.getfield 27, 3) := by decide +kernel
theorem dX7_takes_45 : decode cX7_takes 45 = .ok (.getfield 106, 3) := by decide +kernel
theorem dX7_takes_48 : decode cX7_takes 48 = .ok (.iload_n 1, 1) := by decide +kernel
theorem dX7_takes_49 : decode cX7_takes 49 = .ok (.bipush (-9), 2) := by decide +kernel
theorem dX7_takes_51 : decode cX7_takes 51 = .ok (.iastore, 1) := by decide +kernel
theorem dX7_takes_52 : decode cX7_takes 52 = .ok (.iload_n 2, 1) := by decide +kernel
theorem dX7_takes_53 : decode cX7_takes 53 = .ok (.ireturn, 1) := by decide +kernel
theorem dX7_fills_0 : decode cX7_fills 0 = .ok (.aload_n 0, 1) := by decide +kernel
theorem dX7_fills_1 : decode cX7_fills 1 = .ok (.getfield 27, 3) := by decide +kernel
theorem dX7_fills_4 : decode cX7_fills 4 = .ok (.iload_n 1, 1) := by decide +kernel
theorem dX7_fills_5 : decode cX7_fills 5 = .ok (.invokevirtual 109, 3) := by decide +kernel
theorem dX7_fills_8 : decode cX7_fills 8 = .ok (.ifCond .ne 5, 3) := by decide +kernel
theorem dX7_fills_11 : decode cX7_fills 11 = .ok (.iconst (-1), 1) := by decide +kernel
theorem dX7_fills_12 : decode cX7_fills 12 = .ok (.ireturn, 1) := by decide +kernel
theorem dX7_fills_13 : decode cX7_fills 13 = .ok (.aload_n 0, 1) := by decide +kernel
theorem dX7_fills_14 : decode cX7_fills 14 = .ok (.getfield 27, 3) := by decide +kernel
theorem dX7_fills_17 : decode cX7_fills 17 = .ok (.iload_n 1, 1) := by decide +kernel
theorem dX7_fills_18 : decode cX7_fills 18 = .ok (.invokevirtual 112, 3) := by decide +kernel
theorem dX7_fills_21 : decode cX7_fills 21 = .ok (.bipush (-9), 2) := by decide +kernel
theorem dX7_fills_23 : decode cX7_fills 23 = .ok (.if_icmp .eq 6, 3) := by decide +kernel
theorem dX7_fills_26 : decode cX7_fills 26 = .ok (.bipush (-2), 2) := by decide +kernel
theorem dX7_fills_28 : decode cX7_fills 28 = .ok (.ireturn, 1) := by decide +kernel
theorem dX7_fills_29 : decode cX7_fills 29 = .ok (.aload_n 0, 1) := by decide +kernel
theorem dX7_fills_30 : decode cX7_fills 30 = .ok (.invokevirtual 78, 3) := by decide +kernel
theorem dX7_fills_33 : decode cX7_fills 33 = .ok (.aload_n 0, 1) := by decide +kernel
theorem dX7_fills_34 : decode cX7_fills 34 = .ok (.getfield 27, 3) := by decide +kernel
theorem dX7_fills_37 : decode cX7_fills 37 = .ok (.iload_n 1, 1) := by decide +kernel
theorem dX7_fills_38 : decode cX7_fills 38 = .ok (.invokevirtual 116, 3) := by decide +kernel
theorem dX7_fills_41 : decode cX7_fills 41 = .ok (.aload_n 0, 1) := by decide +kernel
theorem dX7_fills_42 : decode cX7_fills 42 = .ok (.getfield 27, 3) := by decide +kernel
theorem dX7_fills_45 : decode cX7_fills 45 = .ok (.getfield 99, 3) := by decide +kernel
theorem dX7_fills_48 : decode cX7_fills 48 = .ok (.ireturn, 1) := by decide +kernel
theorem dX7_lines_0 : decode cX7_lines 0 = .ok (.iload_n 1, 1) := by decide +kernel
theorem dX7_lines_1 : decode cX7_lines 1 = .ok (.iconst 5, 1) := by decide +kernel
theorem dX7_lines_2 : decode cX7_lines 2 = .ok (.if_icmp .lt 9, 3) := by decide +kernel
theorem dX7_lines_5 : decode cX7_lines 5 = .ok (.iload_n 1, 1) := by decide +kernel
theorem dX7_lines_6 : decode cX7_lines 6 = .ok (.bipush 20, 2) := by decide +kernel
theorem dX7_lines_8 : decode cX7_lines 8 = .ok (.if_icmp .le 5, 3) := by decide +kernel
theorem dX7_lines_11 : decode cX7_lines 11 = .ok (.iconst (-1), 1) := by decide +kernel
theorem dX7_lines_12 : decode cX7_lines 12 = .ok (.ireturn, 1) := by decide +kernel
theorem dX7_lines_13 : decode cX7_lines 13 = .ok (.iload_n 1, 1) := by decide +kernel
theorem dX7_lines_14 : decode cX7_lines 14 = .ok (.aload_n 0, 1) := by decide +kernel
theorem dX7_lines_15 : decode cX7_lines 15 = .ok (.getfield 27, 3) := by decide +kernel
theorem dX7_lines_18 : decode cX7_lines 18 = .ok (.getfield 120, 3) := by decide +kernel
theorem dX7_lines_21 : decode cX7_lines 21 = .ok (.if_icmp .ne 6, 3) := by decide +kernel
theorem dX7_lines_24 : decode cX7_lines 24 = .ok (.bipush (-2), 2) := by decide +kernel
theorem dX7_lines_26 : decode cX7_lines 26 = .ok (.ireturn, 1) := by decide +kernel
theorem dX7_lines_27 : decode cX7_lines 27 = .ok (.aload_n 0, 1) := by decide +kernel
theorem dX7_lines_28 : decode cX7_lines 28 = .ok (.invokevirtual 78, 3) := by decide +kernel
theorem dX7_lines_31 : decode cX7_lines 31 = .ok (.aload_n 0, 1) := by decide +kernel
theorem dX7_lines_32 : decode cX7_lines 32 = .ok (.getfield 27, 3) := by decide +kernel
theorem dX7_lines_35 : decode cX7_lines 35 = .ok (.getfield 120, 3) := by decide +kernel
theorem dX7_lines_38 : decode cX7_lines 38 = .ok (.istore_n 2, 1) := by decide +kernel
theorem dX7_lines_39 : decode cX7_lines 39 = .ok (.aload_n 0, 1) := by decide +kernel
theorem dX7_lines_40 : decode cX7_lines 40 = .ok (.getfield 27, 3) := by decide +kernel
theorem dX7_lines_43 : decode cX7_lines 43 = .ok (.iload_n 1, 1) := by decide +kernel
theorem dX7_lines_44 : decode cX7_lines 44 = .ok (.putfield 120, 3) := by decide +kernel
theorem dX7_lines_47 : decode cX7_lines 47 = .ok (.aload_n 0, 1) := by decide +kernel
theorem dX7_lines_48 : decode cX7_lines 48 = .ok (.getfield 27, 3) := by decide +kernel
theorem dX7_lines_51 : decode cX7_lines 51 = .ok (.invokevirtual 123, 3) := by decide +kernel
theorem dX7_lines_54 : decode cX7_lines 54 = .ok (.iload_n 2, 1) := by decide +kernel
theorem dX7_lines_55 : decode cX7_lines 55 = .ok (.ireturn, 1) := by decide +kernel
theorem dX7_undo_0 : decode cX7_undo 0 = .ok (.aload_n 0, 1) := by decide +kernel
theorem dX7_undo_1 : decode cX7_undo 1 = .ok (.getfield 37, 3) := by decide +kernel
theorem dX7_undo_4 : decode cX7_undo 4 = .ok (.aload_n 0, 1) := by decide +kernel
theorem dX7_undo_5 : decode cX7_undo 5 = .ok (.getfield 27, 3) := by decide +kernel
theorem dX7_undo_8 : decode cX7_undo 8 = .ok (.invokevirtual 126, 3) := by decide +kernel
theorem dX7_undo_11 : decode cX7_undo 11 = .ok (.ifCond .ne 6, 3) := by decide +kernel
theorem dX7_undo_14 : decode cX7_undo 14 = .ok (.bipush (-2), 2) := by decide +kernel
theorem dX7_undo_16 : decode cX7_undo 16 = .ok (.ireturn, 1) := by decide +kernel
theorem dX7_undo_17 : decode cX7_undo 17 = .ok (.aload_n 0, 1) := by decide +kernel
theorem dX7_undo_18 : decode cX7_undo 18 = .ok (.iconst 0, 1) := by decide +kernel
theorem dX7_undo_19 : decode cX7_undo 19 = .ok (.putfield 48, 3) := by decide +kernel
theorem dX7_undo_22 : decode cX7_undo 22 = .ok (.aload_n 0, 1) := by decide +kernel
theorem dX7_undo_23 : decode cX7_undo 23 = .ok (.getfield 37, 3) := by decide +kernel
theorem dX7_undo_26 : decode cX7_undo 26 = .ok (.getfield 130, 3) := by decide +kernel
theorem dX7_undo_29 : decode cX7_undo 29 = .ok (.ireturn, 1) := by decide +kernel
theorem dX7_picture_0 : decode cX7_picture 0 = .ok (.aload_n 0, 1) := by decide +kernel
theorem dX7_picture_1 : decode cX7_picture 1 = .ok (.getfield 27, 3) := by decide +kernel
theorem dX7_picture_4 : decode cX7_picture 4 = .ok (.iload_n 1, 1) := by decide +kernel
theorem dX7_picture_5 : decode cX7_picture 5 = .ok (.invokevirtual 85, 3) := by decide +kernel
theorem dX7_picture_8 : decode cX7_picture 8 = .ok (.ifCond .ne 6, 3) := by decide +kernel
theorem dX7_picture_11 : decode cX7_picture 11 = .ok (.ldc 133, 2) := by decide +kernel
theorem dX7_picture_13 : decode cX7_picture 13 = .ok (.ireturn, 1) := by decide +kernel
theorem dX7_picture_14 : decode cX7_picture 14 = .ok (.iload_n 2, 1) := by decide +kernel
theorem dX7_picture_15 : decode cX7_picture 15 = .ok (.tableswitch 96 0 5 #[37, 47, 57, 67, 77, 87], 37) := by decide +kernel
theorem dX7_picture_52 : decode cX7_picture 52 = .ok (.aload_n 0, 1) := by decide +kernel
theorem dX7_picture_53 : decode cX7_picture 53 = .ok (.getfield 27, 3) := by decide +kernel
theorem dX7_picture_56 : decode cX7_picture 56 = .ok (.getfield 134, 3) := by decide +kernel
theorem dX7_picture_59 : decode cX7_picture 59 = .ok (.iload_n 1, 1) := by decide +kernel
theorem dX7_picture_60 : decode cX7_picture 60 = .ok (.iaload, 1) := by decide +kernel
theorem dX7_picture_61 : decode cX7_picture 61 = .ok (.ireturn, 1) := by decide +kernel
theorem dX7_picture_62 : decode cX7_picture 62 = .ok (.aload_n 0, 1) := by decide +kernel
theorem dX7_picture_63 : decode cX7_picture 63 = .ok (.getfield 27, 3) := by decide +kernel
theorem dX7_picture_66 : decode cX7_picture 66 = .ok (.getfield 137, 3) := by decide +kernel
theorem dX7_picture_69 : decode cX7_picture 69 = .ok (.iload_n 1, 1) := by decide +kernel
theorem dX7_picture_70 : decode cX7_picture 70 = .ok (.iaload, 1) := by decide +kernel
theorem dX7_picture_71 : decode cX7_picture 71 = .ok (.ireturn, 1) := by decide +kernel
theorem dX7_picture_72 : decode cX7_picture 72 = .ok (.aload_n 0, 1) := by decide +kernel
theorem dX7_picture_73 : decode cX7_picture 73 = .ok (.getfield 27, 3) := by decide +kernel
theorem dX7_picture_76 : decode cX7_picture 76 = .ok (.getfield 140, 3) := by decide +kernel
theorem dX7_picture_79 : decode cX7_picture 79 = .ok (.iload_n 1, 1) := by decide +kernel
theorem dX7_picture_80 : decode cX7_picture 80 = .ok (.iaload, 1) := by decide +kernel
theorem dX7_picture_81 : decode cX7_picture 81 = .ok (.ireturn, 1) := by decide +kernel
theorem dX7_picture_82 : decode cX7_picture 82 = .ok (.aload_n 0, 1) := by decide +kernel
theorem dX7_picture_83 : decode cX7_picture 83 = .ok (.getfield 27, 3) := by decide +kernel
theorem dX7_picture_86 : decode cX7_picture 86 = .ok (.getfield 143, 3) := by decide +kernel
theorem dX7_picture_89 : decode cX7_picture 89 = .ok (.iload_n 1, 1) := by decide +kernel
theorem dX7_picture_90 : decode cX7_picture 90 = .ok (.iaload, 1) := by decide +kernel
theorem dX7_picture_91 : decode cX7_picture 91 = .ok (.ireturn, 1) := by decide +kernel
theorem dX7_picture_92 : decode cX7_picture 92 = .ok (.aload_n 0, 1) := by decide +kernel
theorem dX7_picture_93 : decode cX7_picture 93 = .ok (.getfield 27, 3) := by decide +kernel
theorem dX7_picture_96 : decode cX7_picture 96 = .ok (.getfield 106, 3) := by decide +kernel
theorem dX7_picture_99 : decode cX7_picture 99 = .ok (.iload_n 1, 1) := by decide +kernel
theorem dX7_picture_100 : decode cX7_picture 100 = .ok (.iaload, 1) := by decide +kernel
theorem dX7_picture_101 : decode cX7_picture 101 = .ok (.ireturn, 1) := by decide +kernel
theorem dX7_picture_102 : decode cX7_picture 102 = .ok (.aload_n 0, 1) := by decide +kernel
theorem dX7_picture_103 : decode cX7_picture 103 = .ok (.getfield 27, 3) := by decide +kernel
theorem dX7_picture_106 : decode cX7_picture 106 = .ok (.iload_n 1, 1) := by decide +kernel
theorem dX7_picture_107 : decode cX7_picture 107 = .ok (.invokevirtual 146, 3) := by decide +kernel
theorem dX7_picture_110 : decode cX7_picture 110 = .ok (.ireturn, 1) := by decide +kernel
theorem dX7_picture_111 : decode cX7_picture 111 = .ok (.ldc 133, 2) := by decide +kernel
theorem dX7_picture_113 : decode cX7_picture 113 = .ok (.ireturn, 1) := by decide +kernel
theorem dX7_hole_0 : decode cX7_hole 0 = .ok (.aload_n 0, 1) := by decide +kernel
theorem dX7_hole_1 : decode cX7_hole 1 = .ok (.getfield 27, 3) := by decide +kernel
theorem dX7_hole_4 : decode cX7_hole 4 = .ok (.iload_n 1, 1) := by decide +kernel
theorem dX7_hole_5 : decode cX7_hole 5 = .ok (.invokevirtual 109, 3) := by decide +kernel
theorem dX7_hole_8 : decode cX7_hole 8 = .ok (.ifCond .ne 6, 3) := by decide +kernel
theorem dX7_hole_11 : decode cX7_hole 11 = .ok (.ldc 133, 2) := by decide +kernel
theorem dX7_hole_13 : decode cX7_hole 13 = .ok (.ireturn, 1) := by decide +kernel
theorem dX7_hole_14 : decode cX7_hole 14 = .ok (.iload_n 2, 1) := by decide +kernel
theorem dX7_hole_15 : decode cX7_hole 15 = .ok (.tableswitch 54 0 2 #[25, 35, 45], 25) := by decide +kernel
theorem dX7_hole_40 : decode cX7_hole 40 = .ok (.aload_n 0, 1) := by decide +kernel
theorem dX7_hole_41 : decode cX7_hole 41 = .ok (.getfield 27, 3) := by decide +kernel
theorem dX7_hole_44 : decode cX7_hole 44 = .ok (.getfield 149, 3) := by decide +kernel
theorem dX7_hole_47 : decode cX7_hole 47 = .ok (.iload_n 1, 1) := by decide +kernel
theorem dX7_hole_48 : decode cX7_hole 48 = .ok (.iaload, 1) := by decide +kernel
theorem dX7_hole_49 : decode cX7_hole 49 = .ok (.ireturn, 1) := by decide +kernel
theorem dX7_hole_50 : decode cX7_hole 50 = .ok (.aload_n 0, 1) := by decide +kernel
theorem dX7_hole_51 : decode cX7_hole 51 = .ok (.getfield 27, 3) := by decide +kernel
theorem dX7_hole_54 : decode cX7_hole 54 = .ok (.getfield 152, 3) := by decide +kernel
theorem dX7_hole_57 : decode cX7_hole 57 = .ok (.iload_n 1, 1) := by decide +kernel
theorem dX7_hole_58 : decode cX7_hole 58 = .ok (.iaload, 1) := by decide +kernel
theorem dX7_hole_59 : decode cX7_hole 59 = .ok (.ireturn, 1) := by decide +kernel
theorem dX7_hole_60 : decode cX7_hole 60 = .ok (.aload_n 0, 1) := by decide +kernel
theorem dX7_hole_61 : decode cX7_hole 61 = .ok (.getfield 27, 3) := by decide +kernel
theorem dX7_hole_64 : decode cX7_hole 64 = .ok (.iload_n 1, 1) := by decide +kernel
theorem dX7_hole_65 : decode cX7_hole 65 = .ok (.invokevirtual 112, 3) := by decide +kernel
theorem dX7_hole_68 : decode cX7_hole 68 = .ok (.ireturn, 1) := by decide +kernel
theorem dX7_hole_69 : decode cX7_hole 69 = .ok (.ldc 133, 2) := by decide +kernel
theorem dX7_hole_71 : decode cX7_hole 71 = .ok (.ireturn, 1) := by decide +kernel
theorem dX7_door_0 : decode cX7_door 0 = .ok (.aload_n 0, 1) := by decide +kernel
theorem dX7_door_1 : decode cX7_door 1 = .ok (.getfield 27, 3) := by decide +kernel
theorem dX7_door_4 : decode cX7_door 4 = .ok (.iload_n 1, 1) := by decide +kernel
theorem dX7_door_5 : decode cX7_door 5 = .ok (.invokevirtual 155, 3) := by decide +kernel
theorem dX7_door_8 : decode cX7_door 8 = .ok (.ifCond .ne 5, 3) := by decide +kernel
theorem dX7_door_11 : decode cX7_door 11 = .ok (.iconst (-1), 1) := by decide +kernel
theorem dX7_door_12 : decode cX7_door 12 = .ok (.ireturn, 1) := by decide +kernel
theorem dX7_door_13 : decode cX7_door 13 = .ok (.iload_n 2, 1) := by decide +kernel
theorem dX7_door_14 : decode cX7_door 14 = .ok (.lookupswitch 46 #[(0, 26), (1, 36)], 26) := by decide +kernel
theorem dX7_door_40 : decode cX7_door 40 = .ok (.aload_n 0, 1) := by decide +kernel
theorem dX7_door_41 : decode cX7_door 41 = .ok (.getfield 27, 3) := by decide +kernel
theorem dX7_door_44 : decode cX7_door 44 = .ok (.getfield 158, 3) := by decide +kernel
theorem dX7_door_47 : decode cX7_door 47 = .ok (.iload_n 1, 1) := by decide +kernel
theorem dX7_door_48 : decode cX7_door 48 = .ok (.iaload, 1) := by decide +kernel
theorem dX7_door_49 : decode cX7_door 49 = .ok (.ireturn, 1) := by decide +kernel
theorem dX7_door_50 : decode cX7_door 50 = .ok (.aload_n 0, 1) := by decide +kernel
theorem dX7_door_51 : decode cX7_door 51 = .ok (.getfield 27, 3) := by decide +kernel
theorem dX7_door_54 : decode cX7_door 54 = .ok (.getfield 161, 3) := by decide +kernel
theorem dX7_door_57 : decode cX7_door 57 = .ok (.iload_n 1, 1) := by decide +kernel
theorem dX7_door_58 : decode cX7_door 58 = .ok (.iaload, 1) := by decide +kernel
theorem dX7_door_59 : decode cX7_door 59 = .ok (.ireturn, 1) := by decide +kernel
theorem dX7_door_60 : decode cX7_door 60 = .ok (.iconst (-1), 1) := by decide +kernel
theorem dX7_door_61 : decode cX7_door 61 = .ok (.ireturn, 1) := by decide +kernel
theorem dX7_moment_0 : decode cX7_moment 0 = .ok (.iload_n 1, 1) := by decide +kernel
theorem dX7_moment_1 : decode cX7_moment 1 = .ok (.lookupswitch 46 #[(0, 27), (1, 35)], 27) := by decide +kernel
theorem dX7_moment_28 : decode cX7_moment 28 = .ok (.aload_n 0, 1) := by decide +kernel
theorem dX7_moment_29 : decode cX7_moment 29 = .ok (.getfield 27, 3) := by decide +kernel
theorem dX7_moment_32 : decode cX7_moment 32 = .ok (.invokevirtual 164, 3) := by decide +kernel
theorem dX7_moment_35 : decode cX7_moment 35 = .ok (.ireturn, 1) := by decide +kernel
theorem dX7_moment_36 : decode cX7_moment 36 = .ok (.aload_n 0, 1) := by decide +kernel
theorem dX7_moment_37 : decode cX7_moment 37 = .ok (.getfield 27, 3) := by decide +kernel
theorem dX7_moment_40 : decode cX7_moment 40 = .ok (.invokevirtual 164, 3) := by decide +kernel
theorem dX7_moment_43 : decode cX7_moment 43 = .ok (.invokestatic 168, 3) := by decide +kernel
theorem dX7_moment_46 : decode cX7_moment 46 = .ok (.ireturn, 1) := by decide +kernel
theorem dX7_moment_47 : decode cX7_moment 47 = .ok (.ldc 133, 2) := by decide +kernel
theorem dX7_moment_49 : decode cX7_moment 49 = .ok (.ireturn, 1) := by decide +kernel
theorem dX7_best_0 : decode cX7_best 0 = .ok (.iload_n 1, 1) := by decide +kernel
theorem dX7_best_1 : decode cX7_best 1 = .ok (.ifCond .ge 5, 3) := by decide +kernel
theorem dX7_best_4 : decode cX7_best 4 = .ok (.iconst (-1), 1) := by decide +kernel
theorem dX7_best_5 : decode cX7_best 5 = .ok (.ireturn, 1) := by decide +kernel
theorem dX7_best_6 : decode cX7_best 6 = .ok (.aload_n 0, 1) := by decide +kernel
theorem dX7_best_7 : decode cX7_best 7 = .ok (.getfield 48, 3) := by decide +kernel
theorem dX7_best_10 : decode cX7_best 10 = .ok (.ifCond .ne 19, 3) := by decide +kernel
theorem dX7_best_13 : decode cX7_best 13 = .ok (.aload_n 0, 1) := by decide +kernel
theorem dX7_best_14 : decode cX7_best 14 = .ok (.getfield 44, 3) := by decide +kernel
theorem dX7_best_17 : decode cX7_best 17 = .ok (.aload_n 0, 1) := by decide +kernel
theorem dX7_best_18 : decode cX7_best 18 = .ok (.getfield 27, 3) := by decide +kernel
theorem dX7_best_21 : decode cX7_best 21 = .ok (.invokevirtual 173, 3) := by decide +kernel
theorem dX7_best_24 : decode cX7_best 24 = .ok (.aload_n 0, 1) := by decide +kernel
theorem dX7_best_25 : decode cX7_best 25 = .ok (.iconst 1, 1) := by decide +kernel
theorem dX7_best_26 : decode cX7_best 26 = .ok (.putfield 48, 3) := by decide +kernel
theorem dX7_best_29 : decode cX7_best 29 = .ok (.aload_n 0, 1) := by decide +kernel
theorem dX7_best_30 : decode cX7_best 30 = .ok (.getfield 44, 3) := by decide +kernel
theorem dX7_best_33 : decode cX7_best 33 = .ok (.iload_n 1, 1) := by decide +kernel
theorem dX7_best_34 : decode cX7_best 34 = .ok (.invokevirtual 176, 3) := by decide +kernel
theorem dX7_best_37 : decode cX7_best 37 = .ok (.ireturn, 1) := by decide +kernel
theorem dX7_places_0 : decode cX7_places 0 = .ok (.aload_n 0, 1) := by decide +kernel
theorem dX7_places_1 : decode cX7_places 1 = .ok (.getfield 27, 3) := by decide +kernel
theorem dX7_places_4 : decode cX7_places 4 = .ok (.iload_n 1, 1) := by decide +kernel
theorem dX7_places_5 : decode cX7_places 5 = .ok (.invokevirtual 85, 3) := by decide +kernel
theorem dX7_places_8 : decode cX7_places 8 = .ok (.ifCond .eq 12, 3) := by decide +kernel
theorem dX7_places_11 : decode cX7_places 11 = .ok (.iload_n 2, 1) := by decide +kernel
theorem dX7_places_12 : decode cX7_places 12 = .ok (.ifCond .lt 8, 3) := by decide +kernel
theorem dX7_places_15 : decode cX7_places 15 = .ok (.iload_n 2, 1) := by decide +kernel
theorem dX7_places_16 : decode cX7_places 16 = .ok (.iconst 3, 1) := by decide +kernel
theorem dX7_places_17 : decode cX7_places 17 = .ok (.if_icmp .le 5, 3) := by decide +kernel
theorem dX7_places_20 : decode cX7_places 20 = .ok (.iconst (-1), 1) := by decide +kernel
theorem dX7_places_21 : decode cX7_places 21 = .ok (.ireturn, 1) := by decide +kernel
theorem dX7_places_22 : decode cX7_places 22 = .ok (.aload_n 0, 1) := by decide +kernel
theorem dX7_places_23 : decode cX7_places 23 = .ok (.getfield 27, 3) := by decide +kernel
theorem dX7_places_26 : decode cX7_places 26 = .ok (.iload_n 1, 1) := by decide +kernel
theorem dX7_places_27 : decode cX7_places 27 = .ok (.invokevirtual 89, 3) := by decide +kernel
theorem dX7_places_30 : decode cX7_places 30 = .ok (.ifCond .eq 6, 3) := by decide +kernel
theorem dX7_places_33 : decode cX7_places 33 = .ok (.bipush (-2), 2) := by decide +kernel
theorem dX7_places_35 : decode cX7_places 35 = .ok (.ireturn, 1) := by decide +kernel
theorem dX7_places_36 : decode cX7_places 36 = .ok (.iload_n 2, 1) := by decide +kernel
theorem dX7_places_37 : decode cX7_places 37 = .ok (.tableswitch 47 0 2 #[27, 33, 40], 27) := by decide +kernel
theorem dX7_places_64 : decode cX7_places 64 = .ok (.aload_n 0, 1) := by decide +kernel
theorem dX7_places_65 : decode cX7_places 65 = .ok (.iload_n 1, 1) := by decide +kernel
theorem dX7_places_66 : decode cX7_places 66 = .ok (.invokevirtual 179, 3) := by decide +kernel
theorem dX7_places_69 : decode cX7_places 69 = .ok (.ireturn, 1) := by decide +kernel
theorem dX7_places_70 : decode cX7_places 70 = .ok (.aload_n 0, 1) := by decide +kernel
theorem dX7_places_71 : decode cX7_places 71 = .ok (.iload_n 1, 1) := by decide +kernel
theorem dX7_places_72 : decode cX7_places 72 = .ok (.iconst 0, 1) := by decide +kernel
theorem dX7_places_73 : decode cX7_places 73 = .ok (.invokevirtual 182, 3) := by decide +kernel
theorem dX7_places_76 : decode cX7_places 76 = .ok (.ireturn, 1) := by decide +kernel
theorem dX7_places_77 : decode cX7_places 77 = .ok (.aload_n 0, 1) := by decide +kernel
theorem dX7_places_78 : decode cX7_places 78 = .ok (.iload_n 1, 1) := by decide +kernel
theorem dX7_places_79 : decode cX7_places 79 = .ok (.iconst 1, 1) := by decide +kernel
theorem dX7_places_80 : decode cX7_places 80 = .ok (.invokevirtual 182, 3) := by decide +kernel
theorem dX7_places_83 : decode cX7_places 83 = .ok (.ireturn, 1) := by decide +kernel
theorem dX7_places_84 : decode cX7_places 84 = .ok (.aload_n 0, 1) := by decide +kernel
theorem dX7_places_85 : decode cX7_places 85 = .ok (.iload_n 1, 1) := by decide +kernel
theorem dX7_places_86 : decode cX7_places 86 = .ok (.invokevirtual 186, 3) := by decide +kernel
theorem dX7_places_89 : decode cX7_places 89 = .ok (.ireturn, 1) := by decide +kernel
theorem dX7_most_0 : decode cX7_most 0 = .ok (.aload_n 0, 1) := by decide +kernel
theorem dX7_most_1 : decode cX7_most 1 = .ok (.getfield 55, 3) := by decide +kernel
theorem dX7_most_4 : decode cX7_most 4 = .ok (.aload_n 0, 1) := by decide +kernel
theorem dX7_most_5 : decode cX7_most 5 = .ok (.getfield 27, 3) := by decide +kernel
theorem dX7_most_8 : decode cX7_most 8 = .ok (.invokevirtual 189, 3) := by decide +kernel
theorem dX7_most_11 : decode cX7_most 11 = .ok (.ireturn, 1) := by decide +kernel
theorem dX7_sees_0 : decode cX7_sees 0 = .ok (.iload_n 1, 1) := by decide +kernel
theorem dX7_sees_1 : decode cX7_sees 1 = .ok (.ifCond .lt 20, 3) := by decide +kernel
theorem dX7_sees_4 : decode cX7_sees 4 = .ok (.iload_n 1, 1) := by decide +kernel
theorem dX7_sees_5 : decode cX7_sees 5 = .ok (.iconst 3, 1) := by decide +kernel
theorem dX7_sees_6 : decode cX7_sees 6 = .ok (.if_icmp .gt 15, 3) := by decide +kernel
theorem dX7_sees_9 : decode cX7_sees 9 = .ok (.iload_n 2, 1) := by decide +kernel
theorem dX7_sees_10 : decode cX7_sees 10 = .ok (.bipush (-99), 2) := by decide +kernel
theorem dX7_sees_12 : decode cX7_sees 12 = .ok (.if_icmp .lt 9, 3) := by decide +kernel
theorem dX7_sees_15 : decode cX7_sees 15 = .ok (.iload_n 2, 1) := by decide +kernel
theorem dX7_sees_16 : decode cX7_sees 16 = .ok (.bipush 99, 2) := by decide +kernel
theorem dX7_sees_18 : decode cX7_sees 18 = .ok (.if_icmp .le 5, 3) := by decide +kernel
theorem dX7_sees_21 : decode cX7_sees 21 = .ok (.iconst (-1), 1) := by decide +kernel
theorem dX7_sees_22 : decode cX7_sees 22 = .ok (.ireturn, 1) := by decide +kernel
theorem dX7_sees_23 : decode cX7_sees 23 = .ok (.aload_n 0, 1) := by decide +kernel
theorem dX7_sees_24 : decode cX7_sees 24 = .ok (.getfield 62, 3) := by decide +kernel
theorem dX7_sees_27 : decode cX7_sees 27 = .ok (.getfield 193, 3) := by decide +kernel
theorem dX7_sees_30 : decode cX7_sees 30 = .ok (.bipush 6, 2) := by decide +kernel
theorem dX7_sees_32 : decode cX7_sees 32 = .ok (.if_icmp .lt 6, 3) := by decide +kernel
theorem dX7_sees_35 : decode cX7_sees 35 = .ok (.bipush (-3), 2) := by decide +kernel
theorem dX7_sees_37 : decode cX7_sees 37 = .ok (.ireturn, 1) := by decide +kernel
theorem dX7_sees_38 : decode cX7_sees 38 = .ok (.aload_n 0, 1) := by decide +kernel
theorem dX7_sees_39 : decode cX7_sees 39 = .ok (.getfield 62, 3) := by decide +kernel
theorem dX7_sees_42 : decode cX7_sees 42 = .ok (.iload_n 1, 1) := by decide +kernel
theorem dX7_sees_43 : decode cX7_sees 43 = .ok (.iload_n 2, 1) := by decide +kernel
theorem dX7_sees_44 : decode cX7_sees 44 = .ok (.invokevirtual 196, 3) := by decide +kernel
theorem dX7_sees_47 : decode cX7_sees 47 = .ok (.aload_n 0, 1) := by decide +kernel
theorem dX7_sees_48 : decode cX7_sees 48 = .ok (.getfield 62, 3) := by decide +kernel
theorem dX7_sees_51 : decode cX7_sees 51 = .ok (.getfield 193, 3) := by decide +kernel
theorem dX7_sees_54 : decode cX7_sees 54 = .ok (.ireturn, 1) := by decide +kernel
theorem dX7_forget_0 : decode cX7_forget 0 = .ok (.aload_n 0, 1) := by decide +kernel
theorem dX7_forget_1 : decode cX7_forget 1 = .ok (.getfield 62, 3) := by decide +kernel
theorem dX7_forget_4 : decode cX7_forget 4 = .ok (.getfield 193, 3) := by decide +kernel
theorem dX7_forget_7 : decode cX7_forget 7 = .ok (.istore_n 1, 1) := by decide +kernel
theorem dX7_forget_8 : decode cX7_forget 8 = .ok (.aload_n 0, 1) := by decide +kernel
theorem dX7_forget_9 : decode cX7_forget 9 = .ok (.getfield 62, 3) := by decide +kernel
theorem dX7_forget_12 : decode cX7_forget 12 = .ok (.iconst 0, 1) := by decide +kernel
theorem dX7_forget_13 : decode cX7_forget 13 = .ok (.putfield 193, 3) := by decide +kernel
theorem dX7_forget_16 : decode cX7_forget 16 = .ok (.iload_n 1, 1) := by decide +kernel
theorem dX7_forget_17 : decode cX7_forget 17 = .ok (.ireturn, 1) := by decide +kernel
theorem dX7_which_0 : decode cX7_which 0 = .ok (.iload_n 1, 1) := by decide +kernel
theorem dX7_which_1 : decode cX7_which 1 = .ok (.lookupswitch 51 #[(0, 27), (1, 39)], 27) := by decide +kernel
theorem dX7_which_28 : decode cX7_which 28 = .ok (.aload_n 0, 1) := by decide +kernel
theorem dX7_which_29 : decode cX7_which 29 = .ok (.getfield 62, 3) := by decide +kernel
theorem dX7_which_32 : decode cX7_which 32 = .ok (.aload_n 0, 1) := by decide +kernel
theorem dX7_which_33 : decode cX7_which 33 = .ok (.getfield 27, 3) := by decide +kernel
theorem dX7_which_36 : decode cX7_which 36 = .ok (.invokevirtual 199, 3) := by decide +kernel
theorem dX7_which_39 : decode cX7_which 39 = .ok (.ireturn, 1) := by decide +kernel
theorem dX7_which_40 : decode cX7_which 40 = .ok (.aload_n 0, 1) := by decide +kernel
theorem dX7_which_41 : decode cX7_which 41 = .ok (.getfield 62, 3) := by decide +kernel
theorem dX7_which_44 : decode cX7_which 44 = .ok (.aload_n 0, 1) := by decide +kernel
theorem dX7_which_45 : decode cX7_which 45 = .ok (.getfield 27, 3) := by decide +kernel
theorem dX7_which_48 : decode cX7_which 48 = .ok (.invokevirtual 202, 3) := by decide +kernel
theorem dX7_which_51 : decode cX7_which 51 = .ok (.ireturn, 1) := by decide +kernel
theorem dX7_which_52 : decode cX7_which 52 = .ok (.iconst (-1), 1) := by decide +kernel
theorem dX7_which_53 : decode cX7_which 53 = .ok (.ireturn, 1) := by decide +kernel
theorem dX7_keep_0 : decode cX7_keep 0 = .ok (.iload_n 1, 1) := by decide +kernel
theorem dX7_keep_1 : decode cX7_keep 1 = .ok (.ifCond .lt 8, 3) := by decide +kernel
theorem dX7_keep_4 : decode cX7_keep 4 = .ok (.iload_n 1, 1) := by decide +kernel
theorem dX7_keep_5 : decode cX7_keep 5 = .ok (.iconst 2, 1) := by decide +kernel
theorem dX7_keep_6 : decode cX7_keep 6 = .ok (.if_icmp .lt 5, 3) := by decide +kernel
theorem dX7_keep_9 : decode cX7_keep 9 = .ok (.iconst (-1), 1) := by decide +kernel
theorem dX7_keep_10 : decode cX7_keep 10 = .ok (.ireturn, 1) := by decide +kernel
theorem dX7_keep_11 : decode cX7_keep 11 = .ok (.aload_n 0, 1) := by decide +kernel
theorem dX7_keep_12 : decode cX7_keep 12 = .ok (.getfield 66, 3) := by decide +kernel
theorem dX7_keep_15 : decode cX7_keep 15 = .ok (.iload_n 1, 1) := by decide +kernel
theorem dX7_keep_16 : decode cX7_keep 16 = .ok (.aaload, 1) := by decide +kernel
theorem dX7_keep_17 : decode cX7_keep 17 = .ok (.aload_n 0, 1) := by decide +kernel
theorem dX7_keep_18 : decode cX7_keep 18 = .ok (.getfield 27, 3) := by decide +kernel
theorem dX7_keep_21 : decode cX7_keep 21 = .ok (.invokevirtual 81, 3) := by decide +kernel
theorem dX7_keep_24 : decode cX7_keep 24 = .ok (.aload_n 0, 1) := by decide +kernel
theorem dX7_keep_25 : decode cX7_keep 25 = .ok (.getfield 70, 3) := by decide +kernel
theorem dX7_keep_28 : decode cX7_keep 28 = .ok (.iload_n 1, 1) := by decide +kernel
theorem dX7_keep_29 : decode cX7_keep 29 = .ok (.iconst 1, 1) := by decide +kernel
theorem dX7_keep_30 : decode cX7_keep 30 = .ok (.bastore, 1) := by decide +kernel
theorem dX7_keep_31 : decode cX7_keep 31 = .ok (.aload_n 0, 1) := by decide +kernel
theorem dX7_keep_32 : decode cX7_keep 32 = .ok (.getfield 27, 3) := by decide +kernel
theorem dX7_keep_35 : decode cX7_keep 35 = .ok (.invokevirtual 205, 3) := by decide +kernel
theorem dX7_keep_38 : decode cX7_keep 38 = .ok (.ireturn, 1) := by decide +kernel
theorem dX7_back_0 : decode cX7_back 0 = .ok (.iload_n 1, 1) := by decide +kernel
theorem dX7_back_1 : decode cX7_back 1 = .ok (.ifCond .lt 8, 3) := by decide +kernel
theorem dX7_back_4 : decode cX7_back 4 = .ok (.iload_n 1, 1) := by decide +kernel
theorem dX7_back_5 : decode cX7_back 5 = .ok (.iconst 2, 1) := by decide +kernel
theorem dX7_back_6 : decode cX7_back 6 = .ok (.if_icmp .lt 5, 3) := by decide +kernel
theorem dX7_back_9 : decode cX7_back 9 = .ok (.iconst (-1), 1) := by decide +kernel
theorem dX7_back_10 : decode cX7_back 10 = .ok (.ireturn, 1) := by decide +kernel
theorem dX7_back_11 : decode cX7_back 11 = .ok (.aload_n 0, 1) := by decide +kernel
theorem dX7_back_12 : decode cX7_back 12 = .ok (.getfield 70, 3) := by decide +kernel
theorem dX7_back_15 : decode cX7_back 15 = .ok (.iload_n 1, 1) := by decide +kernel
theorem dX7_back_16 : decode cX7_back 16 = .ok (.baload, 1) := by decide +kernel
theorem dX7_back_17 : decode cX7_back 17 = .ok (.ifCond .ne 6, 3) := by decide +kernel
theorem dX7_back_20 : decode cX7_back 20 = .ok (.bipush (-2), 2) := by decide +kernel
theorem dX7_back_22 : decode cX7_back 22 = .ok (.ireturn, 1) := by decide +kernel
theorem dX7_back_23 : decode cX7_back 23 = .ok (.aload_n 0, 1) := by decide +kernel
theorem dX7_back_24 : decode cX7_back 24 = .ok (.getfield 27, 3) := by decide +kernel
theorem dX7_back_27 : decode cX7_back 27 = .ok (.aload_n 0, 1) := by decide +kernel
theorem dX7_back_28 : decode cX7_back 28 = .ok (.getfield 66, 3) := by decide +kernel
theorem dX7_back_31 : decode cX7_back 31 = .ok (.iload_n 1, 1) := by decide +kernel
theorem dX7_back_32 : decode cX7_back 32 = .ok (.aaload, 1) := by decide +kernel
theorem dX7_back_33 : decode cX7_back 33 = .ok (.invokevirtual 81, 3) := by decide +kernel
theorem dX7_back_36 : decode cX7_back 36 = .ok (.aload_n 0, 1) := by decide +kernel
theorem dX7_back_37 : decode cX7_back 37 = .ok (.getfield 37, 3) := by decide +kernel
theorem dX7_back_40 : decode cX7_back 40 = .ok (.iconst 0, 1) := by decide +kernel
theorem dX7_back_41 : decode cX7_back 41 = .ok (.putfield 130, 3) := by decide +kernel
theorem dX7_back_44 : decode cX7_back 44 = .ok (.aload_n 0, 1) := by decide +kernel
theorem dX7_back_45 : decode cX7_back 45 = .ok (.iconst 0, 1) := by decide +kernel
theorem dX7_back_46 : decode cX7_back 46 = .ok (.putfield 48, 3) := by decide +kernel
theorem dX7_back_49 : decode cX7_back 49 = .ok (.aload_n 0, 1) := by decide +kernel
theorem dX7_back_50 : decode cX7_back 50 = .ok (.getfield 27, 3) := by decide +kernel
theorem dX7_back_53 : decode cX7_back 53 = .ok (.invokevirtual 205, 3) := by decide +kernel
theorem dX7_back_56 : decode cX7_back 56 = .ok (.ireturn, 1) := by decide +kernel
theorem dX7_count_0 : decode cX7_count 0 = .ok (.iload_n 1, 1) := by decide +kernel
theorem dX7_count_1 : decode cX7_count 1 = .ok (.tableswitch 132 0 9 #[55, 63, 71, 79, 87, 95, 103, 111, 119, 124], 55) := by decide +kernel
theorem dX7_count_56 : decode cX7_count 56 = .ok (.aload_n 0, 1) := by decide +kernel
theorem dX7_count_57 : decode cX7_count 57 = .ok (.getfield 27, 3) := by decide +kernel
theorem dX7_count_60 : decode cX7_count 60 = .ok (.getfield 208, 3) := by decide +kernel
theorem dX7_count_63 : decode cX7_count 63 = .ok (.ireturn, 1) := by decide +kernel
theorem dX7_count_64 : decode cX7_count 64 = .ok (.aload_n 0, 1) := by decide +kernel
theorem dX7_count_65 : decode cX7_count 65 = .ok (.getfield 27, 3) := by decide +kernel
theorem dX7_count_68 : decode cX7_count 68 = .ok (.getfield 120, 3) := by decide +kernel
theorem dX7_count_71 : decode cX7_count 71 = .ok (.ireturn, 1) := by decide +kernel
theorem dX7_count_72 : decode cX7_count 72 = .ok (.aload_n 0, 1) := by decide +kernel
theorem dX7_count_73 : decode cX7_count 73 = .ok (.getfield 27, 3) := by decide +kernel
theorem dX7_count_76 : decode cX7_count 76 = .ok (.getfield 211, 3) := by decide +kernel
theorem dX7_count_79 : decode cX7_count 79 = .ok (.ireturn, 1) := by decide +kernel
theorem dX7_count_80 : decode cX7_count 80 = .ok (.aload_n 0, 1) := by decide +kernel
theorem dX7_count_81 : decode cX7_count 81 = .ok (.getfield 27, 3) := by decide +kernel
theorem dX7_count_84 : decode cX7_count 84 = .ok (.getfield 214, 3) := by decide +kernel
theorem dX7_count_87 : decode cX7_count 87 = .ok (.ireturn, 1) := by decide +kernel
theorem dX7_count_88 : decode cX7_count 88 = .ok (.aload_n 0, 1) := by decide +kernel
theorem dX7_count_89 : decode cX7_count 89 = .ok (.getfield 27, 3) := by decide +kernel
theorem dX7_count_92 : decode cX7_count 92 = .ok (.getfield 217, 3) := by decide +kernel
theorem dX7_count_95 : decode cX7_count 95 = .ok (.ireturn, 1) := by decide +kernel
theorem dX7_count_96 : decode cX7_count 96 = .ok (.aload_n 0, 1) := by decide +kernel
theorem dX7_count_97 : decode cX7_count 97 = .ok (.getfield 27, 3) := by decide +kernel
theorem dX7_count_100 : decode cX7_count 100 = .ok (.getfield 99, 3) := by decide +kernel
theorem dX7_count_103 : decode cX7_count 103 = .ok (.ireturn, 1) := by decide +kernel
theorem dX7_count_104 : decode cX7_count 104 = .ok (.aload_n 0, 1) := by decide +kernel
theorem dX7_count_105 : decode cX7_count 105 = .ok (.getfield 27, 3) := by decide +kernel
theorem dX7_count_108 : decode cX7_count 108 = .ok (.invokevirtual 205, 3) := by decide +kernel
theorem dX7_count_111 : decode cX7_count 111 = .ok (.ireturn, 1) := by decide +kernel
theorem dX7_count_112 : decode cX7_count 112 = .ok (.aload_n 0, 1) := by decide +kernel
theorem dX7_count_113 : decode cX7_count 113 = .ok (.getfield 62, 3) := by decide +kernel
theorem dX7_count_116 : decode cX7_count 116 = .ok (.getfield 193, 3) := by decide +kernel
theorem dX7_count_119 : decode cX7_count 119 = .ok (.ireturn, 1) := by decide +kernel
theorem dX7_count_120 : decode cX7_count 120 = .ok (.aload_n 0, 1) := by decide +kernel
theorem dX7_count_121 : decode cX7_count 121 = .ok (.getfield 13, 3) := by decide +kernel
theorem dX7_count_124 : decode cX7_count 124 = .ok (.ireturn, 1) := by decide +kernel
theorem dX7_count_125 : decode cX7_count 125 = .ok (.aload_n 0, 1) := by decide +kernel
theorem dX7_count_126 : decode cX7_count 126 = .ok (.getfield 37, 3) := by decide +kernel
theorem dX7_count_129 : decode cX7_count 129 = .ok (.getfield 130, 3) := by decide +kernel
theorem dX7_count_132 : decode cX7_count 132 = .ok (.ireturn, 1) := by decide +kernel
theorem dX7_count_133 : decode cX7_count 133 = .ok (.iconst (-1), 1) := by decide +kernel
theorem dX7_count_134 : decode cX7_count 134 = .ok (.ireturn, 1) := by decide +kernel
theorem dX7_remember_0 : decode cX7_remember 0 = .ok (.aload_n 0, 1) := by decide +kernel
theorem dX7_remember_1 : decode cX7_remember 1 = .ok (.getfield 37, 3) := by decide +kernel
theorem dX7_remember_4 : decode cX7_remember 4 = .ok (.aload_n 0, 1) := by decide +kernel
theorem dX7_remember_5 : decode cX7_remember 5 = .ok (.getfield 27, 3) := by decide +kernel
theorem dX7_remember_8 : decode cX7_remember 8 = .ok (.invokevirtual 220, 3) := by decide +kernel
theorem dX7_remember_11 : decode cX7_remember 11 = .ok (.aload_n 0, 1) := by decide +kernel
theorem dX7_remember_12 : decode cX7_remember 12 = .ok (.iconst 0, 1) := by decide +kernel
theorem dX7_remember_13 : decode cX7_remember 13 = .ok (.putfield 48, 3) := by decide +kernel
theorem dX7_remember_16 : decode cX7_remember 16 = .ok (.return_, 1) := by decide +kernel
theorem dX7_countPlaces_0 : decode cX7_countPlaces 0 = .ok (.iconst 0, 1) := by decide +kernel
theorem dX7_countPlaces_1 : decode cX7_countPlaces 1 = .ok (.istore_n 2, 1) := by decide +kernel
theorem dX7_countPlaces_2 : decode cX7_countPlaces 2 = .ok (.iconst 0, 1) := by decide +kernel
theorem dX7_countPlaces_3 : decode cX7_countPlaces 3 = .ok (.istore_n 3, 1) := by decide +kernel
theorem dX7_countPlaces_4 : decode cX7_countPlaces 4 = .ok (.iload_n 3, 1) := by decide +kernel
theorem dX7_countPlaces_5 : decode cX7_countPlaces 5 = .ok (.aload_n 0, 1) := by decide +kernel
theorem dX7_countPlaces_6 : decode cX7_countPlaces 6 = .ok (.getfield 27, 3) := by decide +kernel
theorem dX7_countPlaces_9 : decode cX7_countPlaces 9 = .ok (.getfield 208, 3) := by decide +kernel
theorem dX7_countPlaces_12 : decode cX7_countPlaces 12 = .ok (.if_icmp .ge 24, 3) := by decide +kernel
theorem dX7_countPlaces_15 : decode cX7_countPlaces 15 = .ok (.aload_n 0, 1) := by decide +kernel
theorem dX7_countPlaces_16 : decode cX7_countPlaces 16 = .ok (.getfield 27, 3) := by decide +kernel
theorem dX7_countPlaces_19 : decode cX7_countPlaces 19 = .ok (.iload_n 1, 1) := by decide +kernel
theorem dX7_countPlaces_20 : decode cX7_countPlaces 20 = .ok (.iload_n 3, 1) := by decide +kernel
theorem dX7_countPlaces_21 : decode cX7_countPlaces 21 = .ok (.invokevirtual 92, 3) := by decide +kernel
theorem dX7_countPlaces_24 : decode cX7_countPlaces 24 = .ok (.ifCond .eq 6, 3) := by decide +kernel
theorem dX7_countPlaces_27 : decode cX7_countPlaces 27 = .ok (.iinc 2 1, 3) := by decide +kernel
theorem dX7_countPlaces_30 : decode cX7_countPlaces 30 = .ok (.iinc 3 1, 3) := by decide +kernel
theorem dX7_countPlaces_33 : decode cX7_countPlaces 33 = .ok (.goto (-29), 3) := by decide +kernel
theorem dX7_countPlaces_36 : decode cX7_countPlaces 36 = .ok (.iload_n 2, 1) := by decide +kernel
theorem dX7_countPlaces_37 : decode cX7_countPlaces 37 = .ok (.ireturn, 1) := by decide +kernel
theorem dX7_leastPlace_0 : decode cX7_leastPlace 0 = .ok (.iconst 0, 1) := by decide +kernel
theorem dX7_leastPlace_1 : decode cX7_leastPlace 1 = .ok (.istore_n 3, 1) := by decide +kernel
theorem dX7_leastPlace_2 : decode cX7_leastPlace 2 = .ok (.iload_n 3, 1) := by decide +kernel
theorem dX7_leastPlace_3 : decode cX7_leastPlace 3 = .ok (.aload_n 0, 1) := by decide +kernel
theorem dX7_leastPlace_4 : decode cX7_leastPlace 4 = .ok (.getfield 27, 3) := by decide +kernel
theorem dX7_leastPlace_7 : decode cX7_leastPlace 7 = .ok (.getfield 208, 3) := by decide +kernel
theorem dX7_leastPlace_10 : decode cX7_leastPlace 10 = .ok (.if_icmp .ge 39, 3) := by decide +kernel
theorem dX7_leastPlace_13 : decode cX7_leastPlace 13 = .ok (.aload_n 0, 1) := by decide +kernel
theorem dX7_leastPlace_14 : decode cX7_leastPlace 14 = .ok (.getfield 27, 3) := by decide +kernel
theorem dX7_leastPlace_17 : decode cX7_leastPlace 17 = .ok (.iload_n 1, 1) := by decide +kernel
theorem dX7_leastPlace_18 : decode cX7_leastPlace 18 = .ok (.iload_n 3, 1) := by decide +kernel
theorem dX7_leastPlace_19 : decode cX7_leastPlace 19 = .ok (.invokevirtual 92, 3) := by decide +kernel
theorem dX7_leastPlace_22 : decode cX7_leastPlace 22 = .ok (.ifCond .eq 21, 3) := by decide +kernel
theorem dX7_leastPlace_25 : decode cX7_leastPlace 25 = .ok (.iload_n 2, 1) := by decide +kernel
theorem dX7_leastPlace_26 : decode cX7_leastPlace 26 = .ok (.ifCond .eq 15, 3) := by decide +kernel
theorem dX7_leastPlace_29 : decode cX7_leastPlace 29 = .ok (.aload_n 0, 1) := by decide +kernel
theorem dX7_leastPlace_30 : decode cX7_leastPlace 30 = .ok (.getfield 27, 3) := by decide +kernel
theorem dX7_leastPlace_33 : decode cX7_leastPlace 33 = .ok (.iload_n 1, 1) := by decide +kernel
theorem dX7_leastPlace_34 : decode cX7_leastPlace 34 = .ok (.iload_n 3, 1) := by decide +kernel
theorem dX7_leastPlace_35 : decode cX7_leastPlace 35 = .ok (.invokevirtual 96, 3) := by decide +kernel
theorem dX7_leastPlace_38 : decode cX7_leastPlace 38 = .ok (.ifCond .eq 5, 3) := by decide +kernel
theorem dX7_leastPlace_41 : decode cX7_leastPlace 41 = .ok (.iload_n 3, 1) := by decide +kernel
theorem dX7_leastPlace_42 : decode cX7_leastPlace 42 = .ok (.ireturn, 1) := by decide +kernel
theorem dX7_leastPlace_43 : decode cX7_leastPlace 43 = .ok (.iinc 3 1, 3) := by decide +kernel
theorem dX7_leastPlace_46 : decode cX7_leastPlace 46 = .ok (.goto (-44), 3) := by decide +kernel
theorem dX7_leastPlace_49 : decode cX7_leastPlace 49 = .ok (.bipush (-9), 2) := by decide +kernel
theorem dX7_leastPlace_51 : decode cX7_leastPlace 51 = .ok (.ireturn, 1) := by decide +kernel
theorem dX7_calmestPlace_0 : decode cX7_calmestPlace 0 = .ok (.aload_n 0, 1) := by decide +kernel
theorem dX7_calmestPlace_1 : decode cX7_calmestPlace 1 = .ok (.getfield 27, 3) := by decide +kernel
theorem dX7_calmestPlace_4 : decode cX7_calmestPlace 4 = .ok (.invokevirtual 164, 3) := by decide +kernel
theorem dX7_calmestPlace_7 : decode cX7_calmestPlace 7 = .ok (.istore_n 2, 1) := by decide +kernel
theorem dX7_calmestPlace_8 : decode cX7_calmestPlace 8 = .ok (.bipush (-9), 2) := by decide +kernel
theorem dX7_calmestPlace_10 : decode cX7_calmestPlace 10 = .ok (.istore_n 3, 1) := by decide +kernel
theorem dX7_calmestPlace_11 : decode cX7_calmestPlace 11 = .ok (.iconst 0, 1) := by decide +kernel
theorem dX7_calmestPlace_12 : decode cX7_calmestPlace 12 = .ok (.istore 4, 2) := by decide +kernel
theorem dX7_calmestPlace_14 : decode cX7_calmestPlace 14 = .ok (.iconst 0, 1) := by decide +kernel
theorem dX7_calmestPlace_15 : decode cX7_calmestPlace 15 = .ok (.istore 5, 2) := by decide +kernel
theorem dX7_calmestPlace_17 : decode cX7_calmestPlace 17 = .ok (.iload 5, 2) := by decide +kernel
theorem dX7_calmestPlace_19 : decode cX7_calmestPlace 19 = .ok (.aload_n 0, 1) := by decide +kernel
theorem dX7_calmestPlace_20 : decode cX7_calmestPlace 20 = .ok (.getfield 27, 3) := by decide +kernel
theorem dX7_calmestPlace_23 : decode cX7_calmestPlace 23 = .ok (.getfield 208, 3) := by decide +kernel
theorem dX7_calmestPlace_26 : decode cX7_calmestPlace 26 = .ok (.if_icmp .ge 59, 3) := by decide +kernel
theorem dX7_calmestPlace_29 : decode cX7_calmestPlace 29 = .ok (.aload_n 0, 1) := by decide +kernel
theorem dX7_calmestPlace_30 : decode cX7_calmestPlace 30 = .ok (.getfield 27, 3) := by decide +kernel
theorem dX7_calmestPlace_33 : decode cX7_calmestPlace 33 = .ok (.iload_n 1, 1) := by decide +kernel
theorem dX7_calmestPlace_34 : decode cX7_calmestPlace 34 = .ok (.iload 5, 2) := by decide +kernel
theorem dX7_calmestPlace_36 : decode cX7_calmestPlace 36 = .ok (.invokevirtual 92, 3) := by decide +kernel
theorem dX7_calmestPlace_39 : decode cX7_calmestPlace 39 = .ok (.ifCond .eq 40, 3) := by decide +kernel
theorem dX7_calmestPlace_42 : decode cX7_calmestPlace 42 = .ok (.iload_n 2, 1) := by decide +kernel
theorem dX7_calmestPlace_43 : decode cX7_calmestPlace 43 = .ok (.aload_n 0, 1) := by decide +kernel
theorem dX7_calmestPlace_44 : decode cX7_calmestPlace 44 = .ok (.getfield 27, 3) := by decide +kernel
theorem dX7_calmestPlace_47 : decode cX7_calmestPlace 47 = .ok (.iload_n 1, 1) := by decide +kernel
theorem dX7_calmestPlace_48 : decode cX7_calmestPlace 48 = .ok (.iload 5, 2) := by decide +kernel
theorem dX7_calmestPlace_50 : decode cX7_calmestPlace 50 = .ok (.invokevirtual 222, 3) := by decide +kernel
theorem dX7_calmestPlace_53 : decode cX7_calmestPlace 53 = .ok (.iadd, 1) := by decide +kernel
theorem dX7_calmestPlace_54 : decode cX7_calmestPlace 54 = .ok (.invokestatic 168, 3) := by decide +kernel
theorem dX7_calmestPlace_57 : decode cX7_calmestPlace 57 = .ok (.istore 6, 2) := by decide +kernel
theorem dX7_calmestPlace_59 : decode cX7_calmestPlace 59 = .ok (.iload_n 3, 1) := by decide +kernel
theorem dX7_calmestPlace_60 : decode cX7_calmestPlace 60 = .ok (.bipush (-9), 2) := by decide +kernel
theorem dX7_calmestPlace_62 : decode cX7_calmestPlace 62 = .ok (.if_icmp .eq 10, 3) := by decide +kernel
theorem dX7_calmestPlace_65 : decode cX7_calmestPlace 65 = .ok (.iload 6, 2) := by decide +kernel
theorem dX7_calmestPlace_67 : decode cX7_calmestPlace 67 = .ok (.iload 4, 2) := by decide +kernel
theorem dX7_calmestPlace_69 : decode cX7_calmestPlace 69 = .ok (.if_icmp .ge 10, 3) := by decide +kernel
theorem dX7_calmestPlace_72 : decode cX7_calmestPlace 72 = .ok (.iload 5, 2) := by decide +kernel
theorem dX7_calmestPlace_74 : decode cX7_calmestPlace 74 = .ok (.istore_n 3, 1) := by decide +kernel
theorem dX7_calmestPlace_75 : decode cX7_calmestPlace 75 = .ok (.iload 6, 2) := by decide +kernel
theorem dX7_calmestPlace_77 : decode cX7_calmestPlace 77 = .ok (.istore 4, 2) := by decide +kernel
theorem dX7_calmestPlace_79 : decode cX7_calmestPlace 79 = .ok (.iinc 5 1, 3) := by decide +kernel
theorem dX7_calmestPlace_82 : decode cX7_calmestPlace 82 = .ok (.goto (-65), 3) := by decide +kernel
theorem dX7_calmestPlace_85 : decode cX7_calmestPlace 85 = .ok (.iload_n 3, 1) := by decide +kernel
theorem dX7_calmestPlace_86 : decode cX7_calmestPlace 86 = .ok (.ireturn, 1) := by decide +kernel
theorem dX8_init_0 : decode cX8_init 0 = .ok (.aload_n 0, 1) := by decide +kernel
theorem dX8_init_1 : decode cX8_init 1 = .ok (.invokespecial 1, 3) := by decide +kernel
theorem dX8_init_4 : decode cX8_init 4 = .ok (.aload_n 0, 1) := by decide +kernel
theorem dX8_init_5 : decode cX8_init 5 = .ok (.bipush 69, 2) := by decide +kernel
theorem dX8_init_7 : decode cX8_init 7 = .ok (.newarray .int, 2) := by decide +kernel
theorem dX8_init_9 : decode cX8_init 9 = .ok (.putfield 7, 3) := by decide +kernel
theorem dX8_init_12 : decode cX8_init 12 = .ok (.aload_n 0, 1) := by decide +kernel
theorem dX8_init_13 : decode cX8_init 13 = .ok (.bipush 69, 2) := by decide +kernel
theorem dX8_init_15 : decode cX8_init 15 = .ok (.newarray .int, 2) := by decide +kernel
theorem dX8_init_17 : decode cX8_init 17 = .ok (.putfield 13, 3) := by decide +kernel
theorem dX8_init_20 : decode cX8_init 20 = .ok (.aload_n 0, 1) := by decide +kernel
theorem dX8_init_21 : decode cX8_init 21 = .ok (.sipush 414, 3) := by decide +kernel
theorem dX8_init_24 : decode cX8_init 24 = .ok (.newarray .int, 2) := by decide +kernel
theorem dX8_init_26 : decode cX8_init 26 = .ok (.putfield 16, 3) := by decide +kernel
theorem dX8_init_29 : decode cX8_init 29 = .ok (.aload_n 0, 1) := by decide +kernel
theorem dX8_init_30 : decode cX8_init 30 = .ok (.sipush 138, 3) := by decide +kernel
theorem dX8_init_33 : decode cX8_init 33 = .ok (.newarray .int, 2) := by decide +kernel
theorem dX8_init_35 : decode cX8_init 35 = .ok (.putfield 19, 3) := by decide +kernel
theorem dX8_init_38 : decode cX8_init 38 = .ok (.aload_n 0, 1) := by decide +kernel
theorem dX8_init_39 : decode cX8_init 39 = .ok (.iconst 2, 1) := by decide +kernel
theorem dX8_init_40 : decode cX8_init 40 = .ok (.newarray .boolean, 2) := by decide +kernel
theorem dX8_init_42 : decode cX8_init 42 = .ok (.putfield 22, 3) := by decide +kernel
theorem dX8_init_45 : decode cX8_init 45 = .ok (.aload_n 0, 1) := by decide +kernel
theorem dX8_init_46 : decode cX8_init 46 = .ok (.bipush 6, 2) := by decide +kernel
theorem dX8_init_48 : decode cX8_init 48 = .ok (.newarray .int, 2) := by decide +kernel
theorem dX8_init_50 : decode cX8_init 50 = .ok (.putfield 26, 3) := by decide +kernel
theorem dX8_init_53 : decode cX8_init 53 = .ok (.aload_n 0, 1) := by decide +kernel
theorem dX8_init_54 : decode cX8_init 54 = .ok (.bipush 6, 2) := by decide +kernel
theorem dX8_init_56 : decode cX8_init 56 = .ok (.newarray .int, 2) := by decide +kernel
theorem dX8_init_58 : decode cX8_init 58 = .ok (.putfield 29, 3) := by decide +kernel
theorem dX8_init_61 : decode cX8_init 61 = .ok (.aload_n 0, 1) := by decide +kernel
theorem dX8_init_62 : decode cX8_init 62 = .ok (.bipush 120, 2) := by decide +kernel
theorem dX8_init_64 : decode cX8_init 64 = .ok (.newarray .int, 2) := by decide +kernel
theorem dX8_init_66 : decode cX8_init 66 = .ok (.putfield 32, 3) := by decide +kernel
theorem dX8_init_69 : decode cX8_init 69 = .ok (.aload_n 0, 1) := by decide +kernel
theorem dX8_init_70 : decode cX8_init 70 = .ok (.iconst 5, 1) := by decide +kernel
theorem dX8_init_71 : decode cX8_init 71 = .ok (.newarray .int, 2) := by decide +kernel
theorem dX8_init_73 : decode cX8_init 73 = .ok (.putfield 35, 3) := by decide +kernel
theorem dX8_init_76 : decode cX8_init 76 = .ok (.aload_n 0, 1) := by decide +kernel
theorem dX8_init_77 : decode cX8_init 77 = .ok (.iconst 5, 1) := by decide +kernel
theorem dX8_init_78 : decode cX8_init 78 = .ok (.newarray .int, 2) := by decide +kernel
theorem dX8_init_80 : decode cX8_init 80 = .ok (.putfield 38, 3) := by decide +kernel
theorem dX8_init_83 : decode cX8_init 83 = .ok (.aload_n 0, 1) := by decide +kernel
theorem dX8_init_84 : decode cX8_init 84 = .ok (.iconst 4, 1) := by decide +kernel
theorem dX8_init_85 : decode cX8_init 85 = .ok (.newarray .int, 2) := by decide +kernel
theorem dX8_init_87 : decode cX8_init 87 = .ok (.putfield 41, 3) := by decide +kernel
theorem dX8_init_90 : decode cX8_init 90 = .ok (.aload_n 0, 1) := by decide +kernel
theorem dX8_init_91 : decode cX8_init 91 = .ok (.sipush 200, 3) := by decide +kernel
theorem dX8_init_94 : decode cX8_init 94 = .ok (.newarray .boolean, 2) := by decide +kernel
theorem dX8_init_96 : decode cX8_init 96 = .ok (.putfield 44, 3) := by decide +kernel
theorem dX8_init_99 : decode cX8_init 99 = .ok (.aload_n 0, 1) := by decide +kernel
theorem dX8_init_100 : decode cX8_init 100 = .ok (.sipush 200, 3) := by decide +kernel
theorem dX8_init_103 : decode cX8_init 103 = .ok (.newarray .boolean, 2) := by decide +kernel
theorem dX8_init_105 : decode cX8_init 105 = .ok (.putfield 47, 3) := by decide +kernel
theorem dX8_init_108 : decode cX8_init 108 = .ok (.aload_n 0, 1) := by decide +kernel
theorem dX8_init_109 : decode cX8_init 109 = .ok (.bipush 32, 2) := by decide +kernel
theorem dX8_init_111 : decode cX8_init 111 = .ok (.newarray .int, 2) := by decide +kernel
theorem dX8_init_113 : decode cX8_init 113 = .ok (.putfield 50, 3) := by decide +kernel
theorem dX8_init_116 : decode cX8_init 116 = .ok (.aload_n 0, 1) := by decide +kernel
theorem dX8_init_117 : decode cX8_init 117 = .ok (.getfield 7, 3) := by decide +kernel
theorem dX8_init_120 : decode cX8_init 120 = .ok (.invokestatic 53, 3) := by decide +kernel
theorem dX8_init_123 : decode cX8_init 123 = .ok (.return_, 1) := by decide +kernel
theorem dX8_within_0 : decode cX8_within 0 = .ok (.iload_n 0, 1) := by decide +kernel
theorem dX8_within_1 : decode cX8_within 1 = .ok (.iload_n 1, 1) := by decide +kernel
theorem dX8_within_2 : decode cX8_within 2 = .ok (.if_icmp .lt 12, 3) := by decide +kernel
theorem dX8_within_5 : decode cX8_within 5 = .ok (.iload_n 0, 1) := by decide +kernel
theorem dX8_within_6 : decode cX8_within 6 = .ok (.iload_n 2, 1) := by decide +kernel
theorem dX8_within_7 : decode cX8_within 7 = .ok (.if_icmp .gt 7, 3) := by decide +kernel
theorem dX8_within_10 : decode cX8_within 10 = .ok (.iconst 1, 1) := by decide +kernel
theorem dX8_within_11 : decode cX8_within 11 = .ok (.goto 4, 3) := by decide +kernel
theorem dX8_within_14 : decode cX8_within 14 = .ok (.iconst 0, 1) := by decide +kernel
theorem dX8_within_15 : decode cX8_within 15 = .ok (.ireturn, 1) := by decide +kernel
theorem dX8_has_0 : decode cX8_has 0 = .ok (.iload_n 0, 1) := by decide +kernel
theorem dX8_has_1 : decode cX8_has 1 = .ok (.iload_n 1, 1) := by decide +kernel
theorem dX8_has_2 : decode cX8_has 2 = .ok (.ishr, 1) := by decide +kernel
theorem dX8_has_3 : decode cX8_has 3 = .ok (.iconst 1, 1) := by decide +kernel
theorem dX8_has_4 : decode cX8_has 4 = .ok (.iand, 1) := by decide +kernel
theorem dX8_has_5 : decode cX8_has 5 = .ok (.iconst 1, 1) := by decide +kernel
theorem dX8_has_6 : decode cX8_has 6 = .ok (.if_icmp .ne 7, 3) := by decide +kernel
theorem dX8_has_9 : decode cX8_has 9 = .ok (.iconst 1, 1) := by decide +kernel
theorem dX8_has_10 : decode cX8_has 10 = .ok (.goto 4, 3) := by decide +kernel
theorem dX8_has_13 : decode cX8_has 13 = .ok (.iconst 0, 1) := by decide +kernel
theorem dX8_has_14 : decode cX8_has 14 = .ok (.ireturn, 1) := by decide +kernel
theorem dX8_bares_0 : decode cX8_bares 0 = .ok (.iconst 0, 1) := by decide +kernel
theorem dX8_bares_1 : decode cX8_bares 1 = .ok (.istore_n 1, 1) := by decide +kernel
theorem dX8_bares_2 : decode cX8_bares 2 = .ok (.iload_n 1, 1) := by decide +kernel
theorem dX8_bares_3 : decode cX8_bares 3 = .ok (.bipush 69, 2) := by decide +kernel
theorem dX8_bares_5 : decode cX8_bares 5 = .ok (.if_icmp .ge 24, 3) := by decide +kernel
theorem dX8_bares_8 : decode cX8_bares 8 = .ok (.aload_n 0, 1) := by decide +kernel
theorem dX8_bares_9 : decode cX8_bares 9 = .ok (.iload_n 1, 1) := by decide +kernel
theorem dX8_bares_10 : decode cX8_bares 10 = .ok (.iload_n 1, 1) := by decide +kernel
theorem dX8_bares_11 : decode cX8_bares 11 = .ok (.bipush 64, 2) := by decide +kernel
theorem dX8_bares_13 : decode cX8_bares 13 = .ok (.if_icmp .ge 7, 3) := by decide +kernel
theorem dX8_bares_16 : decode cX8_bares 16 = .ok (.iconst 0, 1) := by decide +kernel
theorem dX8_bares_17 : decode cX8_bares 17 = .ok (.goto 5, 3) := by decide +kernel
theorem dX8_bares_20 : decode cX8_bares 20 = .ok (.bipush (-9), 2) := by decide +kernel
theorem dX8_bares_22 : decode cX8_bares 22 = .ok (.iastore, 1) := by decide +kernel
theorem dX8_bares_23 : decode cX8_bares 23 = .ok (.iinc 1 1, 3) := by decide +kernel
theorem dX8_bares_26 : decode cX8_bares 26 = .ok (.goto (-24), 3) := by decide +kernel
theorem dX8_bares_29 : decode cX8_bares 29 = .ok (.aload_n 0, 1) := by decide +kernel
theorem dX8_bares_30 : decode cX8_bares 30 = .ok (.iconst 0, 1) := by decide +kernel
theorem dX8_bares_31 : decode cX8_bares 31 = .ok (.bipush 20, 2) := by decide +kernel
theorem dX8_bares_33 : decode cX8_bares 33 = .ok (.iastore, 1) := by decide +kernel
theorem dX8_bares_34 : decode cX8_bares 34 = .ok (.aload_n 0, 1) := by decide +kernel
theorem dX8_bares_35 : decode cX8_bares 35 = .ok (.iconst 1, 1) := by decide +kernel
theorem dX8_bares_36 : decode cX8_bares 36 = .ok (.bipush 10, 2) := by decide +kernel
theorem dX8_bares_38 : decode cX8_bares 38 = .ok (.iastore, 1) := by decide +kernel
theorem dX8_bares_39 : decode cX8_bares 39 = .ok (.return_, 1) := by decide +kernel
theorem dX8_skips_0 : decode cX8_skips 0 = .ok (.aload_n 0, 1) := by decide +kernel
theorem dX8_skips_1 : decode cX8_skips 1 = .ok (.getfield 57, 3) := by decide +kernel
theorem dX8_skips_4 : decode cX8_skips 4 = .ok (.aload_n 0, 1) := by decide +kernel
theorem dX8_skips_5 : decode cX8_skips 5 = .ok (.getfield 61, 3) := by decide +kernel
theorem dX8_skips_8 : decode cX8_skips 8 = .ok (.if_icmp .ge 30, 3) := by decide +kernel
theorem dX8_skips_11 : decode cX8_skips 11 = .ok (.aload_n 0, 1) := by decide +kernel
theorem dX8_skips_12 : decode cX8_skips 12 = .ok (.getfield 32, 3) := by decide +kernel
theorem dX8_skips_15 : decode cX8_skips 15 = .ok (.aload_n 0, 1) := by decide +kernel
theorem dX8_skips_16 : decode cX8_skips 16 = .ok (.getfield 57, 3) := by decide +kernel
theorem dX8_skips_19 : decode cX8_skips 19 = .ok (.iaload, 1) := by decide +kernel
theorem dX8_skips_20 : decode cX8_skips 20 = .ok (.bipush 32, 2) := by decide +kernel
theorem dX8_skips_22 : decode cX8_skips 22 = .ok (.if_icmp .ne 16, 3) := by decide +kernel
theorem dX8_skips_25 : decode cX8_skips 25 = .ok (.aload_n 0, 1) := by decide +kernel
theorem dX8_skips_26 : decode cX8_skips 26 = .ok (.dup, 1) := by decide +kernel
theorem dX8_skips_27 : decode cX8_skips 27 = .ok (.getfield 57, 3) := by decide +kernel
theorem dX8_skips_30 : decode cX8_skips 30 = .ok (.iconst 1, 1) := by decide +kernel
theorem dX8_skips_31 : decode cX8_skips 31 = .ok (.iadd, 1) := by decide +kernel
theorem dX8_skips_32 : decode cX8_skips 32 = .ok (.putfield 57, 3) := by decide +kernel
theorem dX8_skips_35 : decode cX8_skips 35 = .ok (.goto (-35), 3) := by decide +kernel
theorem dX8_skips_38 : decode cX8_skips 38 = .ok (.aload_n 0, 1) := by decide +kernel
theorem dX8_skips_39 : decode cX8_skips 39 = .ok (.aload_n 0, 1) := by decide +kernel
theorem dX8_skips_40 : decode cX8_skips 40 = .ok (.getfield 57, 3) := by decide +kernel
theorem dX8_skips_43 : decode cX8_skips 43 = .ok (.putfield 64, 3) := by decide +kernel
theorem dX8_skips_46 : decode cX8_skips 46 = .ok (.return_, 1) := by decide +kernel
theorem dX8_isAt_0 : decode cX8_isAt 0 = .ok (.aload_n 0, 1) := by decide +kernel
theorem dX8_isAt_1 : decode cX8_isAt 1 = .ok (.getfield 57, 3) := by decide +kernel
theorem dX8_isAt_4 : decode cX8_isAt 4 = .ok (.aload_n 0, 1) := by decide +kernel
theorem dX8_isAt_5 : decode cX8_isAt 5 = .ok (.getfield 61, 3) := by decide +kernel
theorem dX8_isAt_8 : decode cX8_isAt 8 = .ok (.if_icmp .ge 24, 3) := by decide +kernel
theorem dX8_isAt_11 : decode cX8_isAt 11 = .ok (.aload_n 0, 1) := by decide +kernel
theorem dX8_isAt_12 : decode cX8_isAt 12 = .ok (.getfield 32, 3) := by decide +kernel
theorem dX8_isAt_15 : decode cX8_isAt 15 = .ok (.aload_n 0, 1) := by decide +kernel
theorem dX8_isAt_16 : decode cX8_isAt 16 = .ok (.getfield 57, 3) := by decide +kernel
theorem dX8_isAt_19 : decode cX8_isAt 19 = .ok (.iaload, 1) := by decide +kernel
theorem dX8_isAt_20 : decode cX8_isAt 20 = .ok (.iload_n 1, 1) := by decide +kernel
theorem dX8_isAt_21 : decode cX8_isAt 21 = .ok (.iload_n 2, 1) := by decide +kernel
theorem dX8_isAt_22 : decode cX8_isAt 22 = .ok (.invokestatic 67, 3) := by decide +kernel
theorem dX8_isAt_25 : decode cX8_isAt 25 = .ok (.ifCond .eq 7, 3) := by decide +kernel
theorem dX8_isAt_28 : decode cX8_isAt 28 = .ok (.iconst 1, 1) := by decide +kernel
theorem dX8_isAt_29 : decode cX8_isAt 29 = .ok (.goto 4, 3) := by decide +kernel
theorem dX8_isAt_32 : decode cX8_isAt 32 = .ok (.iconst 0, 1) := by decide +kernel
theorem dX8_isAt_33 : decode cX8_isAt 33 = .ok (.ireturn, 1) := by decide +kernel
theorem dX8_passesEnd_0 : decode cX8_passesEnd 0 = .ok (.aload_n 0, 1) := by decide +kernel
theorem dX8_passesEnd_1 : decode cX8_passesEnd 1 = .ok (.invokevirtual 71, 3) := by decide +kernel
theorem dX8_passesEnd_4 : decode cX8_passesEnd 4 = .ok (.aload_n 0, 1) := by decide +kernel
theorem dX8_passesEnd_5 : decode cX8_passesEnd 5 = .ok (.bipush 59, 2) := by decide +kernel
theorem dX8_passesEnd_7 : decode cX8_passesEnd 7 = .ok (.bipush 59, 2) := by decide +kernel
theorem dX8_passesEnd_9 : decode cX8_passesEnd 9 = .ok (.invokevirtual 74, 3) := by decide +kernel
theorem dX8_passesEnd_12 : decode cX8_passesEnd 12 = .ok (.istore_n 1, 1) := by decide +kernel
theorem dX8_passesEnd_13 : decode cX8_passesEnd 13 = .ok (.aload_n 0, 1) := by decide +kernel
theorem dX8_passesEnd_14 : decode cX8_passesEnd 14 = .ok (.dup, 1) := by decide +kernel
theorem dX8_passesEnd_15 : decode cX8_passesEnd 15 = .ok (.getfield 57, 3) := by decide +kernel
theorem dX8_passesEnd_18 : decode cX8_passesEnd 18 = .ok (.iload_n 1, 1) := by decide +kernel
theorem dX8_passesEnd_19 : decode cX8_passesEnd 19 = .ok (.ifCond .eq 7, 3) := by decide +kernel
theorem dX8_passesEnd_22 : decode cX8_passesEnd 22 = .ok (.iconst 1, 1) := by decide +kernel
theorem dX8_passesEnd_23 : decode cX8_passesEnd 23 = .ok (.goto 4, 3) := by decide +kernel
theorem dX8_passesEnd_26 : decode cX8_passesEnd 26 = .ok (.iconst 0, 1) := by decide +kernel
theorem dX8_passesEnd_27 : decode cX8_passesEnd 27 = .ok (.iadd, 1) := by decide +kernel
theorem dX8_passesEnd_28 : decode cX8_passesEnd 28 = .ok (.putfield 57, 3) := by decide +kernel
theorem dX8_passesEnd_31 : decode cX8_passesEnd 31 = .ok (.iload_n 1, 1) := by decide +kernel
theorem dX8_passesEnd_32 : decode cX8_passesEnd 32 = .ok (.ireturn, 1) := by decide +kernel
theorem dX8_puts_0 : decode cX8_puts 0 = .ok (.aload_n 0, 1) := by decide +kernel
theorem dX8_puts_1 : decode cX8_puts 1 = .ok (.invokevirtual 71, 3) := by decide +kernel
theorem dX8_puts_4 : decode cX8_puts 4 = .ok (.iconst 0, 1) := by decide +kernel
theorem dX8_puts_5 : decode cX8_puts 5 = .ok (.istore 4, 2) := by decide +kernel
theorem dX8_puts_7 : decode cX8_puts 7 = .ok (.iconst 0, 1) := by decide +kernel
theorem dX8_puts_8 : decode cX8_puts 8 = .ok (.istore 5, 2) := by decide +kernel
theorem dX8_puts_10 : decode cX8_puts 10 = .ok (.aload_n 0, 1) := by decide +kernel
theorem dX8_puts_11 : decode cX8_puts 11 = .ok (.bipush 48, 2) := by decide +kernel
theorem dX8_puts_13 : decode cX8_puts 13 = .ok (.bipush 57, 2) := by decide +kernel
theorem dX8_puts_15 : decode cX8_puts 15 = .ok (.invokevirtual 74, 3) := by decide +kernel
theorem dX8_puts_18 : decode cX8_puts 18 = .ok (.ifCond .eq 51, 3) := by decide +kernel
theorem dX8_puts_21 : decode cX8_puts 21 = .ok (.iload 4, 2) := by decide +kernel
theorem dX8_puts_23 : decode cX8_puts 23 = .ok (.bipush 99, 2) := by decide +kernel
theorem dX8_puts_25 : decode cX8_puts 25 = .ok (.if_icmp .le 8, 3) := by decide +kernel
theorem dX8_puts_28 : decode cX8_puts 28 = .ok (.bipush 100, 2) := by decide +kernel
theorem dX8_puts_30 : decode cX8_puts 30 = .ok (.goto 21, 3) := by decide +kernel
theorem dX8_puts_33 : decode cX8_puts 33 = .ok (.bipush 10, 2) := by decide +kernel
theorem dX8_puts_35 : decode cX8_puts 35 = .ok (.iload 4, 2) := by decide +kernel
theorem dX8_puts_37 : decode cX8_puts 37 = .ok (.imul, 1) := by decide +kernel
theorem dX8_puts_38 : decode cX8_puts 38 = .ok (.aload_n 0, 1) := by decide +kernel
theorem dX8_puts_39 : decode cX8_puts 39 = .ok (.getfield 32, 3) := by decide +kernel
theorem dX8_puts_42 : decode cX8_puts 42 = .ok (.aload_n 0, 1) := by decide +kernel
theorem dX8_puts_43 : decode cX8_puts 43 = .ok (.getfield 57, 3) := by decide +kernel
theorem dX8_puts_46 : decode cX8_puts 46 = .ok (.iaload, 1) := by decide +kernel
theorem dX8_puts_47 : decode cX8_puts 47 = .ok (.iadd, 1) := by decide +kernel
theorem dX8_puts_48 : decode cX8_puts 48 = .ok (.bipush 48, 2) := by decide +kernel
theorem dX8_puts_50 : decode cX8_puts 50 = .ok (.isub, 1) := by decide +kernel
theorem dX8_puts_51 : decode cX8_puts 51 = .ok (.istore 4, 2) := by decide +kernel
theorem dX8_puts_53 : decode cX8_puts 53 = .ok (.aload_n 0, 1) := by decide +kernel
theorem dX8_puts_54 : decode cX8_puts 54 = .ok (.dup, 1) := by decide +kernel
theorem dX8_puts_55 : decode cX8_puts 55 = .ok (.getfield 57, 3) := by decide +kernel
theorem dX8_puts_58 : decode cX8_puts 58 = .ok (.iconst 1, 1) := by decide +kernel
theorem dX8_puts_59 : decode cX8_puts 59 = .ok (.iadd, 1) := by decide +kernel
theorem dX8_puts_60 : decode cX8_puts 60 = .ok (.putfield 57, 3) := by decide +kernel
theorem dX8_puts_63 : decode cX8_puts 63 = .ok (.iinc 5 1, 3) := by decide +kernel
theorem dX8_puts_66 : decode cX8_puts 66 = .ok (.goto (-56), 3) := by decide +kernel
theorem dX8_puts_69 : decode cX8_puts 69 = .ok (.aload_n 0, 1) := by decide +kernel
theorem dX8_puts_70 : decode cX8_puts 70 = .ok (.getfield 13, 3) := by decide +kernel
theorem dX8_puts_73 : decode cX8_puts 73 = .ok (.iload_n 1, 1) := by decide +kernel
theorem dX8_puts_74 : decode cX8_puts 74 = .ok (.iload 4, 2) := by decide +kernel
theorem dX8_puts_76 : decode cX8_puts 76 = .ok (.iastore, 1) := by decide +kernel
theorem dX8_puts_77 : decode cX8_puts 77 = .ok (.iload 5, 2) := by decide +kernel
theorem dX8_puts_79 : decode cX8_puts 79 = .ok (.ifCond .le 44, 3) := by decide +kernel
theorem dX8_puts_82 : decode cX8_puts 82 = .ok (.iload 4, 2) := by decide +kernel
theorem dX8_puts_84 : decode cX8_puts 84 = .ok (.bipush 99, 2) := by decide +kernel
theorem dX8_puts_86 : decode cX8_puts 86 = .ok (.if_icmp .gt 37, 3) := by decide +kernel
theorem dX8_puts_89 : decode cX8_puts 89 = .ok (.iload 5, 2) := by decide +kernel
theorem dX8_puts_91 : decode cX8_puts 91 = .ok (.iconst 1, 1) := by decide +kernel
theorem dX8_puts_92 : decode cX8_puts 92 = .ok (.if_icmp .eq 17, 3) := by decide +kernel
theorem dX8_puts_95 : decode cX8_puts 95 = .ok (.aload_n 0, 1) := by decide +kernel
theorem dX8_puts_96 : decode cX8_puts 96 = .ok (.getfield 32, 3) := by decide +kernel
theorem dX8_puts_99 : decode cX8_puts 99 = .ok (.aload_n 0, 1) := by decide +kernel
theorem dX8_puts_100 : decode cX8_puts 100 = .ok (.getfield 64, 3) := by decide +kernel
theorem dX8_puts_103 : decode cX8_puts 103 = .ok (.iaload, 1) := by decide +kernel
theorem dX8_puts_104 : decode cX8_puts 104 = .ok (.bipush 48, 2) := by decide +kernel
theorem dX8_puts_106 : decode cX8_puts 106 = .ok (.if_icmp .eq 17, 3) := by decide +kernel
theorem dX8_puts_109 : decode cX8_puts 109 = .ok (.iload 4, 2) := by decide +kernel
theorem dX8_puts_111 : decode cX8_puts 111 = .ok (.iload_n 2, 1) := by decide +kernel
theorem dX8_puts_112 : decode cX8_puts 112 = .ok (.iload_n 3, 1) := by decide +kernel
theorem dX8_puts_113 : decode cX8_puts 113 = .ok (.invokestatic 67, 3) := by decide +kernel
theorem dX8_puts_116 : decode cX8_puts 116 = .ok (.ifCond .eq 7, 3) := by decide +kernel
theorem dX8_puts_119 : decode cX8_puts 119 = .ok (.iconst 1, 1) := by decide +kernel
theorem dX8_puts_120 : decode cX8_puts 120 = .ok (.goto 4, 3) := by decide +kernel
theorem dX8_puts_123 : decode cX8_puts 123 = .ok (.iconst 0, 1) := by decide +kernel
theorem dX8_puts_124 : decode cX8_puts 124 = .ok (.ireturn, 1) := by decide +kernel
theorem dX8_spells_0 : decode cX8_spells 0 = .ok (.iload 4, 2) := by decide +kernel
theorem dX8_spells_2 : decode cX8_spells 2 = .ok (.ifCond .ne 7, 3) := by decide +kernel
theorem dX8_spells_5 : decode cX8_spells 5 = .ok (.iconst 3, 1) := by decide +kernel
theorem dX8_spells_6 : decode cX8_spells 6 = .ok (.goto 4, 3) := by decide +kernel
theorem dX8_spells_9 : decode cX8_spells 9 = .ok (.iconst 4, 1) := by decide +kernel
theorem dX8_spells_10 : decode cX8_spells 10 = .ok (.istore 5, 2) := by decide +kernel
theorem dX8_spells_12 : decode cX8_spells 12 = .ok (.aload_n 0, 1) := by decide +kernel
theorem dX8_spells_13 : decode cX8_spells 13 = .ok (.getfield 57, 3) := by decide +kernel
theorem dX8_spells_16 : decode cX8_spells 16 = .ok (.aload_n 0, 1) := by decide +kernel
theorem dX8_spells_17 : decode cX8_spells 17 = .ok (.getfield 64, 3) := by decide +kernel
theorem dX8_spells_20 : decode cX8_spells 20 = .ok (.isub, 1) := by decide +kernel
theorem dX8_spells_21 : decode cX8_spells 21 = .ok (.iload 5, 2) := by decide +kernel
theorem dX8_spells_23 : decode cX8_spells 23 = .ok (.if_icmp .ne 50, 3) := by decide +kernel
theorem dX8_spells_26 : decode cX8_spells 26 = .ok (.aload_n 0, 1) := by decide +kernel
theorem dX8_spells_27 : decode cX8_spells 27 = .ok (.getfield 32, 3) := by decide +kernel
theorem dX8_spells_30 : decode cX8_spells 30 = .ok (.aload_n 0, 1) := by decide +kernel
theorem dX8_spells_31 : decode cX8_spells 31 = .ok (.getfield 64, 3) := by decide +kernel
theorem dX8_spells_34 : decode cX8_spells 34 = .ok (.iaload, 1) := by decide +kernel
theorem dX8_spells_35 : decode cX8_spells 35 = .ok (.iload_n 1, 1) := by decide +kernel
theorem dX8_spells_36 : decode cX8_spells 36 = .ok (.if_icmp .ne 37, 3) := by decide +kernel
theorem dX8_spells_39 : decode cX8_spells 39 = .ok (.aload_n 0, 1) := by decide +kernel
theorem dX8_spells_40 : decode cX8_spells 40 = .ok (.getfield 32, 3) := by decide +kernel
theorem dX8_spells_43 : decode cX8_spells 43 = .ok (.aload_n 0, 1) := by decide +kernel
theorem dX8_spells_44 : decode cX8_spells 44 = .ok (.getfield 64, 3) := by decide +kernel
