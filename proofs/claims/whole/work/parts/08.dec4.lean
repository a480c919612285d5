theorem dX8_spells_47 : decode cX8_spells 47 = .ok (.iconst 1, 1) := by decide +kernel
theorem dX8_spells_48 : decode cX8_spells 48 = .ok (.iadd, 1) := by decide +kernel
theorem dX8_spells_49 : decode cX8_spells 49 = .ok (.iaload, 1) := by decide +kernel
theorem dX8_spells_50 : decode cX8_spells 50 = .ok (.iload_n 2, 1) := by decide +kernel
theorem dX8_spells_51 : decode cX8_spells 51 = .ok (.if_icmp .ne 22, 3) := by decide +kernel
theorem dX8_spells_54 : decode cX8_spells 54 = .ok (.aload_n 0, 1) := by decide +kernel
theorem dX8_spells_55 : decode cX8_spells 55 = .ok (.getfield 32, 3) := by decide +kernel
theorem dX8_spells_58 : decode cX8_spells 58 = .ok (.aload_n 0, 1) := by decide +kernel
theorem dX8_spells_59 : decode cX8_spells 59 = .ok (.getfield 64, 3) := by decide +kernel
theorem dX8_spells_62 : decode cX8_spells 62 = .ok (.iconst 2, 1) := by decide +kernel
theorem dX8_spells_63 : decode cX8_spells 63 = .ok (.iadd, 1) := by decide +kernel
theorem dX8_spells_64 : decode cX8_spells 64 = .ok (.iaload, 1) := by decide +kernel
theorem dX8_spells_65 : decode cX8_spells 65 = .ok (.iload_n 3, 1) := by decide +kernel
theorem dX8_spells_66 : decode cX8_spells 66 = .ok (.if_icmp .ne 7, 3) := by decide +kernel
theorem dX8_spells_69 : decode cX8_spells 69 = .ok (.iconst 1, 1) := by decide +kernel
theorem dX8_spells_70 : decode cX8_spells 70 = .ok (.goto 4, 3) := by decide +kernel
theorem dX8_spells_73 : decode cX8_spells 73 = .ok (.iconst 0, 1) := by decide +kernel
theorem dX8_spells_74 : decode cX8_spells 74 = .ok (.istore 6, 2) := by decide +kernel
theorem dX8_spells_76 : decode cX8_spells 76 = .ok (.iload 6, 2) := by decide +kernel
theorem dX8_spells_78 : decode cX8_spells 78 = .ok (.ifCond .eq 28, 3) := by decide +kernel
theorem dX8_spells_81 : decode cX8_spells 81 = .ok (.iload 4, 2) := by decide +kernel
theorem dX8_spells_83 : decode cX8_spells 83 = .ok (.ifCond .eq 19, 3) := by decide +kernel
theorem dX8_spells_86 : decode cX8_spells 86 = .ok (.aload_n 0, 1) := by decide +kernel
theorem dX8_spells_87 : decode cX8_spells 87 = .ok (.getfield 32, 3) := by decide +kernel
theorem dX8_spells_90 : decode cX8_spells 90 = .ok (.aload_n 0, 1) := by decide +kernel
theorem dX8_spells_91 : decode cX8_spells 91 = .ok (.getfield 64, 3) := by decide +kernel
theorem dX8_spells_94 : decode cX8_spells 94 = .ok (.iconst 3, 1) := by decide +kernel
theorem dX8_spells_95 : decode cX8_spells 95 = .ok (.iadd, 1) := by decide +kernel
theorem dX8_spells_96 : decode cX8_spells 96 = .ok (.iaload, 1) := by decide +kernel
theorem dX8_spells_97 : decode cX8_spells 97 = .ok (.iload 4, 2) := by decide +kernel
theorem dX8_spells_99 : decode cX8_spells 99 = .ok (.if_icmp .ne 7, 3) := by decide +kernel
theorem dX8_spells_102 : decode cX8_spells 102 = .ok (.iconst 1, 1) := by decide +kernel
theorem dX8_spells_103 : decode cX8_spells 103 = .ok (.goto 4, 3) := by decide +kernel
theorem dX8_spells_106 : decode cX8_spells 106 = .ok (.iconst 0, 1) := by decide +kernel
theorem dX8_spells_107 : decode cX8_spells 107 = .ok (.ireturn, 1) := by decide +kernel
theorem dX8_readsWall_0 : decode cX8_readsWall 0 = .ok (.aload_n 0, 1) := by decide +kernel
theorem dX8_readsWall_1 : decode cX8_readsWall 1 = .ok (.getfield 78, 3) := by decide +kernel
theorem dX8_readsWall_4 : decode cX8_readsWall 4 = .ok (.ifCond .ne 41, 3) := by decide +kernel
theorem dX8_readsWall_7 : decode cX8_readsWall 7 = .ok (.aload_n 0, 1) := by decide +kernel
theorem dX8_readsWall_8 : decode cX8_readsWall 8 = .ok (.iconst 0, 1) := by decide +kernel
theorem dX8_readsWall_9 : decode cX8_readsWall 9 = .ok (.bipush 10, 2) := by decide +kernel
theorem dX8_readsWall_11 : decode cX8_readsWall 11 = .ok (.bipush 40, 2) := by decide +kernel
theorem dX8_readsWall_13 : decode cX8_readsWall 13 = .ok (.invokevirtual 82, 3) := by decide +kernel
theorem dX8_readsWall_16 : decode cX8_readsWall 16 = .ok (.ifCond .eq 29, 3) := by decide +kernel
theorem dX8_readsWall_19 : decode cX8_readsWall 19 = .ok (.aload_n 0, 1) := by decide +kernel
theorem dX8_readsWall_20 : decode cX8_readsWall 20 = .ok (.iconst 1, 1) := by decide +kernel
theorem dX8_readsWall_21 : decode cX8_readsWall 21 = .ok (.iconst 5, 1) := by decide +kernel
theorem dX8_readsWall_22 : decode cX8_readsWall 22 = .ok (.bipush 20, 2) := by decide +kernel
theorem dX8_readsWall_24 : decode cX8_readsWall 24 = .ok (.invokevirtual 82, 3) := by decide +kernel
theorem dX8_readsWall_27 : decode cX8_readsWall 27 = .ok (.ifCond .eq 18, 3) := by decide +kernel
theorem dX8_readsWall_30 : decode cX8_readsWall 30 = .ok (.aload_n 0, 1) := by decide +kernel
theorem dX8_readsWall_31 : decode cX8_readsWall 31 = .ok (.iconst 2, 1) := by decide +kernel
theorem dX8_readsWall_32 : decode cX8_readsWall 32 = .ok (.iconst 0, 1) := by decide +kernel
theorem dX8_readsWall_33 : decode cX8_readsWall 33 = .ok (.bipush 9, 2) := by decide +kernel
theorem dX8_readsWall_35 : decode cX8_readsWall 35 = .ok (.invokevirtual 82, 3) := by decide +kernel
theorem dX8_readsWall_38 : decode cX8_readsWall 38 = .ok (.ifCond .eq 7, 3) := by decide +kernel
theorem dX8_readsWall_41 : decode cX8_readsWall 41 = .ok (.iconst 1, 1) := by decide +kernel
theorem dX8_readsWall_42 : decode cX8_readsWall 42 = .ok (.goto 4, 3) := by decide +kernel
theorem dX8_readsWall_45 : decode cX8_readsWall 45 = .ok (.iconst 0, 1) := by decide +kernel
theorem dX8_readsWall_46 : decode cX8_readsWall 46 = .ok (.istore_n 1, 1) := by decide +kernel
theorem dX8_readsWall_47 : decode cX8_readsWall 47 = .ok (.aload_n 0, 1) := by decide +kernel
theorem dX8_readsWall_48 : decode cX8_readsWall 48 = .ok (.iconst 1, 1) := by decide +kernel
theorem dX8_readsWall_49 : decode cX8_readsWall 49 = .ok (.putfield 78, 3) := by decide +kernel
theorem dX8_readsWall_52 : decode cX8_readsWall 52 = .ok (.iload_n 1, 1) := by decide +kernel
theorem dX8_readsWall_53 : decode cX8_readsWall 53 = .ok (.ireturn, 1) := by decide +kernel
theorem dX8_readsPicture_0 : decode cX8_readsPicture 0 = .ok (.iconst 4, 1) := by decide +kernel
theorem dX8_readsPicture_1 : decode cX8_readsPicture 1 = .ok (.iconst 4, 1) := by decide +kernel
theorem dX8_readsPicture_2 : decode cX8_readsPicture 2 = .ok (.aload_n 0, 1) := by decide +kernel
theorem dX8_readsPicture_3 : decode cX8_readsPicture 3 = .ok (.getfield 13, 3) := by decide +kernel
theorem dX8_readsPicture_6 : decode cX8_readsPicture 6 = .ok (.iconst 3, 1) := by decide +kernel
theorem dX8_readsPicture_7 : decode cX8_readsPicture 7 = .ok (.iaload, 1) := by decide +kernel
theorem dX8_readsPicture_8 : decode cX8_readsPicture 8 = .ok (.imul, 1) := by decide +kernel
theorem dX8_readsPicture_9 : decode cX8_readsPicture 9 = .ok (.iadd, 1) := by decide +kernel
theorem dX8_readsPicture_10 : decode cX8_readsPicture 10 = .ok (.istore_n 1, 1) := by decide +kernel
theorem dX8_readsPicture_11 : decode cX8_readsPicture 11 = .ok (.aload_n 0, 1) := by decide +kernel
theorem dX8_readsPicture_12 : decode cX8_readsPicture 12 = .ok (.getfield 13, 3) := by decide +kernel
theorem dX8_readsPicture_15 : decode cX8_readsPicture 15 = .ok (.iconst 3, 1) := by decide +kernel
theorem dX8_readsPicture_16 : decode cX8_readsPicture 16 = .ok (.iaload, 1) := by decide +kernel
theorem dX8_readsPicture_17 : decode cX8_readsPicture 17 = .ok (.iconst 5, 1) := by decide +kernel
theorem dX8_readsPicture_18 : decode cX8_readsPicture 18 = .ok (.if_icmp .eq 27, 3) := by decide +kernel
theorem dX8_readsPicture_21 : decode cX8_readsPicture 21 = .ok (.aload_n 0, 1) := by decide +kernel
theorem dX8_readsPicture_22 : decode cX8_readsPicture 22 = .ok (.iload_n 1, 1) := by decide +kernel
theorem dX8_readsPicture_23 : decode cX8_readsPicture 23 = .ok (.iconst 1, 1) := by decide +kernel
theorem dX8_readsPicture_24 : decode cX8_readsPicture 24 = .ok (.bipush 9, 2) := by decide +kernel
theorem dX8_readsPicture_26 : decode cX8_readsPicture 26 = .ok (.invokevirtual 82, 3) := by decide +kernel
theorem dX8_readsPicture_29 : decode cX8_readsPicture 29 = .ok (.ifCond .eq 16, 3) := by decide +kernel
theorem dX8_readsPicture_32 : decode cX8_readsPicture 32 = .ok (.aload_n 0, 1) := by decide +kernel
theorem dX8_readsPicture_33 : decode cX8_readsPicture 33 = .ok (.iload_n 1, 1) := by decide +kernel
theorem dX8_readsPicture_34 : decode cX8_readsPicture 34 = .ok (.iconst 1, 1) := by decide +kernel
theorem dX8_readsPicture_35 : decode cX8_readsPicture 35 = .ok (.iadd, 1) := by decide +kernel
theorem dX8_readsPicture_36 : decode cX8_readsPicture 36 = .ok (.iconst 1, 1) := by decide +kernel
theorem dX8_readsPicture_37 : decode cX8_readsPicture 37 = .ok (.bipush 9, 2) := by decide +kernel
theorem dX8_readsPicture_39 : decode cX8_readsPicture 39 = .ok (.invokevirtual 82, 3) := by decide +kernel
theorem dX8_readsPicture_42 : decode cX8_readsPicture 42 = .ok (.ifCond .ne 5, 3) := by decide +kernel
theorem dX8_readsPicture_45 : decode cX8_readsPicture 45 = .ok (.iconst 0, 1) := by decide +kernel
theorem dX8_readsPicture_46 : decode cX8_readsPicture 46 = .ok (.ireturn, 1) := by decide +kernel
theorem dX8_readsPicture_47 : decode cX8_readsPicture 47 = .ok (.aload_n 0, 1) := by decide +kernel
theorem dX8_readsPicture_48 : decode cX8_readsPicture 48 = .ok (.iload_n 1, 1) := by decide +kernel
theorem dX8_readsPicture_49 : decode cX8_readsPicture 49 = .ok (.iconst 2, 1) := by decide +kernel
theorem dX8_readsPicture_50 : decode cX8_readsPicture 50 = .ok (.iadd, 1) := by decide +kernel
theorem dX8_readsPicture_51 : decode cX8_readsPicture 51 = .ok (.iconst 0, 1) := by decide +kernel
theorem dX8_readsPicture_52 : decode cX8_readsPicture 52 = .ok (.aload_n 0, 1) := by decide +kernel
theorem dX8_readsPicture_53 : decode cX8_readsPicture 53 = .ok (.getfield 13, 3) := by decide +kernel
theorem dX8_readsPicture_56 : decode cX8_readsPicture 56 = .ok (.iload_n 1, 1) := by decide +kernel
theorem dX8_readsPicture_57 : decode cX8_readsPicture 57 = .ok (.iconst 1, 1) := by decide +kernel
theorem dX8_readsPicture_58 : decode cX8_readsPicture 58 = .ok (.iadd, 1) := by decide +kernel
theorem dX8_readsPicture_59 : decode cX8_readsPicture 59 = .ok (.iaload, 1) := by decide +kernel
theorem dX8_readsPicture_60 : decode cX8_readsPicture 60 = .ok (.invokevirtual 82, 3) := by decide +kernel
theorem dX8_readsPicture_63 : decode cX8_readsPicture 63 = .ok (.ifCond .eq 16, 3) := by decide +kernel
theorem dX8_readsPicture_66 : decode cX8_readsPicture 66 = .ok (.aload_n 0, 1) := by decide +kernel
theorem dX8_readsPicture_67 : decode cX8_readsPicture 67 = .ok (.iload_n 1, 1) := by decide +kernel
theorem dX8_readsPicture_68 : decode cX8_readsPicture 68 = .ok (.iconst 3, 1) := by decide +kernel
theorem dX8_readsPicture_69 : decode cX8_readsPicture 69 = .ok (.iadd, 1) := by decide +kernel
theorem dX8_readsPicture_70 : decode cX8_readsPicture 70 = .ok (.iconst 1, 1) := by decide +kernel
theorem dX8_readsPicture_71 : decode cX8_readsPicture 71 = .ok (.bipush 9, 2) := by decide +kernel
theorem dX8_readsPicture_73 : decode cX8_readsPicture 73 = .ok (.invokevirtual 82, 3) := by decide +kernel
theorem dX8_readsPicture_76 : decode cX8_readsPicture 76 = .ok (.ifCond .ne 5, 3) := by decide +kernel
theorem dX8_readsPicture_79 : decode cX8_readsPicture 79 = .ok (.iconst 0, 1) := by decide +kernel
theorem dX8_readsPicture_80 : decode cX8_readsPicture 80 = .ok (.ireturn, 1) := by decide +kernel
theorem dX8_readsPicture_81 : decode cX8_readsPicture 81 = .ok (.aload_n 0, 1) := by decide +kernel
theorem dX8_readsPicture_82 : decode cX8_readsPicture 82 = .ok (.getfield 13, 3) := by decide +kernel
theorem dX8_readsPicture_85 : decode cX8_readsPicture 85 = .ok (.iconst 3, 1) := by decide +kernel
theorem dX8_readsPicture_86 : decode cX8_readsPicture 86 = .ok (.dup2, 1) := by decide +kernel
theorem dX8_readsPicture_87 : decode cX8_readsPicture 87 = .ok (.iaload, 1) := by decide +kernel
theorem dX8_readsPicture_88 : decode cX8_readsPicture 88 = .ok (.iconst 1, 1) := by decide +kernel
theorem dX8_readsPicture_89 : decode cX8_readsPicture 89 = .ok (.iadd, 1) := by decide +kernel
theorem dX8_readsPicture_90 : decode cX8_readsPicture 90 = .ok (.iastore, 1) := by decide +kernel
theorem dX8_readsPicture_91 : decode cX8_readsPicture 91 = .ok (.iconst 1, 1) := by decide +kernel
theorem dX8_readsPicture_92 : decode cX8_readsPicture 92 = .ok (.ireturn, 1) := by decide +kernel
theorem dX8_readsDoor_0 : decode cX8_readsDoor 0 = .ok (.bipush 25, 2) := by decide +kernel
theorem dX8_readsDoor_2 : decode cX8_readsDoor 2 = .ok (.iconst 2, 1) := by decide +kernel
theorem dX8_readsDoor_3 : decode cX8_readsDoor 3 = .ok (.aload_n 0, 1) := by decide +kernel
theorem dX8_readsDoor_4 : decode cX8_readsDoor 4 = .ok (.getfield 13, 3) := by decide +kernel
theorem dX8_readsDoor_7 : decode cX8_readsDoor 7 = .ok (.bipush 24, 2) := by decide +kernel
theorem dX8_readsDoor_9 : decode cX8_readsDoor 9 = .ok (.iaload, 1) := by decide +kernel
theorem dX8_readsDoor_10 : decode cX8_readsDoor 10 = .ok (.imul, 1) := by decide +kernel
theorem dX8_readsDoor_11 : decode cX8_readsDoor 11 = .ok (.iadd, 1) := by decide +kernel
theorem dX8_readsDoor_12 : decode cX8_readsDoor 12 = .ok (.istore_n 1, 1) := by decide +kernel
theorem dX8_readsDoor_13 : decode cX8_readsDoor 13 = .ok (.aload_n 0, 1) := by decide +kernel
theorem dX8_readsDoor_14 : decode cX8_readsDoor 14 = .ok (.getfield 13, 3) := by decide +kernel
theorem dX8_readsDoor_17 : decode cX8_readsDoor 17 = .ok (.bipush 24, 2) := by decide +kernel
theorem dX8_readsDoor_19 : decode cX8_readsDoor 19 = .ok (.iaload, 1) := by decide +kernel
theorem dX8_readsDoor_20 : decode cX8_readsDoor 20 = .ok (.iconst 3, 1) := by decide +kernel
theorem dX8_readsDoor_21 : decode cX8_readsDoor 21 = .ok (.if_icmp .eq 34, 3) := by decide +kernel
theorem dX8_readsDoor_24 : decode cX8_readsDoor 24 = .ok (.aload_n 0, 1) := by decide +kernel
theorem dX8_readsDoor_25 : decode cX8_readsDoor 25 = .ok (.iload_n 1, 1) := by decide +kernel
theorem dX8_readsDoor_26 : decode cX8_readsDoor 26 = .ok (.iconst 0, 1) := by decide +kernel
theorem dX8_readsDoor_27 : decode cX8_readsDoor 27 = .ok (.bipush 39, 2) := by decide +kernel
theorem dX8_readsDoor_29 : decode cX8_readsDoor 29 = .ok (.invokevirtual 82, 3) := by decide +kernel
theorem dX8_readsDoor_32 : decode cX8_readsDoor 32 = .ok (.ifCond .eq 23, 3) := by decide +kernel
theorem dX8_readsDoor_35 : decode cX8_readsDoor 35 = .ok (.aload_n 0, 1) := by decide +kernel
theorem dX8_readsDoor_36 : decode cX8_readsDoor 36 = .ok (.iload_n 1, 1) := by decide +kernel
theorem dX8_readsDoor_37 : decode cX8_readsDoor 37 = .ok (.iconst 1, 1) := by decide +kernel
theorem dX8_readsDoor_38 : decode cX8_readsDoor 38 = .ok (.iadd, 1) := by decide +kernel
theorem dX8_readsDoor_39 : decode cX8_readsDoor 39 = .ok (.aload_n 0, 1) := by decide +kernel
theorem dX8_readsDoor_40 : decode cX8_readsDoor 40 = .ok (.getfield 13, 3) := by decide +kernel
theorem dX8_readsDoor_43 : decode cX8_readsDoor 43 = .ok (.iload_n 1, 1) := by decide +kernel
theorem dX8_readsDoor_44 : decode cX8_readsDoor 44 = .ok (.iaload, 1) := by decide +kernel
theorem dX8_readsDoor_45 : decode cX8_readsDoor 45 = .ok (.iconst 1, 1) := by decide +kernel
theorem dX8_readsDoor_46 : decode cX8_readsDoor 46 = .ok (.iadd, 1) := by decide +kernel
theorem dX8_readsDoor_47 : decode cX8_readsDoor 47 = .ok (.bipush 40, 2) := by decide +kernel
theorem dX8_readsDoor_49 : decode cX8_readsDoor 49 = .ok (.invokevirtual 82, 3) := by decide +kernel
theorem dX8_readsDoor_52 : decode cX8_readsDoor 52 = .ok (.ifCond .ne 5, 3) := by decide +kernel
theorem dX8_readsDoor_55 : decode cX8_readsDoor 55 = .ok (.iconst 0, 1) := by decide +kernel
theorem dX8_readsDoor_56 : decode cX8_readsDoor 56 = .ok (.ireturn, 1) := by decide +kernel
theorem dX8_readsDoor_57 : decode cX8_readsDoor 57 = .ok (.aload_n 0, 1) := by decide +kernel
theorem dX8_readsDoor_58 : decode cX8_readsDoor 58 = .ok (.getfield 13, 3) := by decide +kernel
theorem dX8_readsDoor_61 : decode cX8_readsDoor 61 = .ok (.bipush 24, 2) := by decide +kernel
theorem dX8_readsDoor_63 : decode cX8_readsDoor 63 = .ok (.dup2, 1) := by decide +kernel
theorem dX8_readsDoor_64 : decode cX8_readsDoor 64 = .ok (.iaload, 1) := by decide +kernel
theorem dX8_readsDoor_65 : decode cX8_readsDoor 65 = .ok (.iconst 1, 1) := by decide +kernel
theorem dX8_readsDoor_66 : decode cX8_readsDoor 66 = .ok (.iadd, 1) := by decide +kernel
theorem dX8_readsDoor_67 : decode cX8_readsDoor 67 = .ok (.iastore, 1) := by decide +kernel
theorem dX8_readsDoor_68 : decode cX8_readsDoor 68 = .ok (.iconst 1, 1) := by decide +kernel
theorem dX8_readsDoor_69 : decode cX8_readsDoor 69 = .ok (.ireturn, 1) := by decide +kernel
theorem dX8_readsHole_0 : decode cX8_readsHole 0 = .ok (.bipush 32, 2) := by decide +kernel
theorem dX8_readsHole_2 : decode cX8_readsHole 2 = .ok (.iconst 2, 1) := by decide +kernel
theorem dX8_readsHole_3 : decode cX8_readsHole 3 = .ok (.aload_n 0, 1) := by decide +kernel
theorem dX8_readsHole_4 : decode cX8_readsHole 4 = .ok (.getfield 13, 3) := by decide +kernel
theorem dX8_readsHole_7 : decode cX8_readsHole 7 = .ok (.bipush 31, 2) := by decide +kernel
theorem dX8_readsHole_9 : decode cX8_readsHole 9 = .ok (.iaload, 1) := by decide +kernel
theorem dX8_readsHole_10 : decode cX8_readsHole 10 = .ok (.imul, 1) := by decide +kernel
theorem dX8_readsHole_11 : decode cX8_readsHole 11 = .ok (.iadd, 1) := by decide +kernel
theorem dX8_readsHole_12 : decode cX8_readsHole 12 = .ok (.istore_n 1, 1) := by decide +kernel
theorem dX8_readsHole_13 : decode cX8_readsHole 13 = .ok (.aload_n 0, 1) := by decide +kernel
theorem dX8_readsHole_14 : decode cX8_readsHole 14 = .ok (.getfield 13, 3) := by decide +kernel
theorem dX8_readsHole_17 : decode cX8_readsHole 17 = .ok (.bipush 31, 2) := by decide +kernel
theorem dX8_readsHole_19 : decode cX8_readsHole 19 = .ok (.iaload, 1) := by decide +kernel
theorem dX8_readsHole_20 : decode cX8_readsHole 20 = .ok (.bipush 16, 2) := by decide +kernel
theorem dX8_readsHole_22 : decode cX8_readsHole 22 = .ok (.if_icmp .eq 27, 3) := by decide +kernel
theorem dX8_readsHole_25 : decode cX8_readsHole 25 = .ok (.aload_n 0, 1) := by decide +kernel
theorem dX8_readsHole_26 : decode cX8_readsHole 26 = .ok (.iload_n 1, 1) := by decide +kernel
theorem dX8_readsHole_27 : decode cX8_readsHole 27 = .ok (.iconst 0, 1) := by decide +kernel
theorem dX8_readsHole_28 : decode cX8_readsHole 28 = .ok (.bipush 80, 2) := by decide +kernel
theorem dX8_readsHole_30 : decode cX8_readsHole 30 = .ok (.invokevirtual 82, 3) := by decide +kernel
theorem dX8_readsHole_33 : decode cX8_readsHole 33 = .ok (.ifCond .eq 16, 3) := by decide +kernel
theorem dX8_readsHole_36 : decode cX8_readsHole 36 = .ok (.aload_n 0, 1) := by decide +kernel
theorem dX8_readsHole_37 : decode cX8_readsHole 37 = .ok (.iload_n 1, 1) := by decide +kernel
theorem dX8_readsHole_38 : decode cX8_readsHole 38 = .ok (.iconst 1, 1) := by decide +kernel
theorem dX8_readsHole_39 : decode cX8_readsHole 39 = .ok (.iadd, 1) := by decide +kernel
theorem dX8_readsHole_40 : decode cX8_readsHole 40 = .ok (.iconst 0, 1) := by decide +kernel
theorem dX8_readsHole_41 : decode cX8_readsHole 41 = .ok (.bipush 60, 2) := by decide +kernel
theorem dX8_readsHole_43 : decode cX8_readsHole 43 = .ok (.invokevirtual 82, 3) := by decide +kernel
theorem dX8_readsHole_46 : decode cX8_readsHole 46 = .ok (.ifCond .ne 5, 3) := by decide +kernel
theorem dX8_readsHole_49 : decode cX8_readsHole 49 = .ok (.iconst 0, 1) := by decide +kernel
theorem dX8_readsHole_50 : decode cX8_readsHole 50 = .ok (.ireturn, 1) := by decide +kernel
theorem dX8_readsHole_51 : decode cX8_readsHole 51 = .ok (.bipush 32, 2) := by decide +kernel
theorem dX8_readsHole_53 : decode cX8_readsHole 53 = .ok (.istore_n 2, 1) := by decide +kernel
theorem dX8_readsHole_54 : decode cX8_readsHole 54 = .ok (.iload_n 2, 1) := by decide +kernel
theorem dX8_readsHole_55 : decode cX8_readsHole 55 = .ok (.iload_n 1, 1) := by decide +kernel
theorem dX8_readsHole_56 : decode cX8_readsHole 56 = .ok (.if_icmp .ge 45, 3) := by decide +kernel
theorem dX8_readsHole_59 : decode cX8_readsHole 59 = .ok (.aload_n 0, 1) := by decide +kernel
theorem dX8_readsHole_60 : decode cX8_readsHole 60 = .ok (.getfield 13, 3) := by decide +kernel
theorem dX8_readsHole_63 : decode cX8_readsHole 63 = .ok (.iload_n 2, 1) := by decide +kernel
theorem dX8_readsHole_64 : decode cX8_readsHole 64 = .ok (.iaload, 1) := by decide +kernel
theorem dX8_readsHole_65 : decode cX8_readsHole 65 = .ok (.aload_n 0, 1) := by decide +kernel
theorem dX8_readsHole_66 : decode cX8_readsHole 66 = .ok (.getfield 13, 3) := by decide +kernel
theorem dX8_readsHole_69 : decode cX8_readsHole 69 = .ok (.iload_n 1, 1) := by decide +kernel
theorem dX8_readsHole_70 : decode cX8_readsHole 70 = .ok (.iaload, 1) := by decide +kernel
theorem dX8_readsHole_71 : decode cX8_readsHole 71 = .ok (.if_icmp .ne 24, 3) := by decide +kernel
theorem dX8_readsHole_74 : decode cX8_readsHole 74 = .ok (.aload_n 0, 1) := by decide +kernel
theorem dX8_readsHole_75 : decode cX8_readsHole 75 = .ok (.getfield 13, 3) := by decide +kernel
theorem dX8_readsHole_78 : decode cX8_readsHole 78 = .ok (.iload_n 2, 1) := by decide +kernel
theorem dX8_readsHole_79 : decode cX8_readsHole 79 = .ok (.iconst 1, 1) := by decide +kernel
theorem dX8_readsHole_80 : decode cX8_readsHole 80 = .ok (.iadd, 1) := by decide +kernel
theorem dX8_readsHole_81 : decode cX8_readsHole 81 = .ok (.iaload, 1) := by decide +kernel
theorem dX8_readsHole_82 : decode cX8_readsHole 82 = .ok (.aload_n 0, 1) := by decide +kernel
theorem dX8_readsHole_83 : decode cX8_readsHole 83 = .ok (.getfield 13, 3) := by decide +kernel
theorem dX8_readsHole_86 : decode cX8_readsHole 86 = .ok (.iload_n 1, 1) := by decide +kernel
theorem dX8_readsHole_87 : decode cX8_readsHole 87 = .ok (.iconst 1, 1) := by decide +kernel
theorem dX8_readsHole_88 : decode cX8_readsHole 88 = .ok (.iadd, 1) := by decide +kernel
theorem dX8_readsHole_89 : decode cX8_readsHole 89 = .ok (.iaload, 1) := by decide +kernel
theorem dX8_readsHole_90 : decode cX8_readsHole 90 = .ok (.if_icmp .ne 5, 3) := by decide +kernel
theorem dX8_readsHole_93 : decode cX8_readsHole 93 = .ok (.iconst 0, 1) := by decide +kernel
theorem dX8_readsHole_94 : decode cX8_readsHole 94 = .ok (.ireturn, 1) := by decide +kernel
theorem dX8_readsHole_95 : decode cX8_readsHole 95 = .ok (.iinc 2 2, 3) := by decide +kernel
theorem dX8_readsHole_98 : decode cX8_readsHole 98 = .ok (.goto (-44), 3) := by decide +kernel
theorem dX8_readsHole_101 : decode cX8_readsHole 101 = .ok (.aload_n 0, 1) := by decide +kernel
theorem dX8_readsHole_102 : decode cX8_readsHole 102 = .ok (.getfield 13, 3) := by decide +kernel
theorem dX8_readsHole_105 : decode cX8_readsHole 105 = .ok (.bipush 31, 2) := by decide +kernel
theorem dX8_readsHole_107 : decode cX8_readsHole 107 = .ok (.dup2, 1) := by decide +kernel
theorem dX8_readsHole_108 : decode cX8_readsHole 108 = .ok (.iaload, 1) := by decide +kernel
theorem dX8_readsHole_109 : decode cX8_readsHole 109 = .ok (.iconst 1, 1) := by decide +kernel
theorem dX8_readsHole_110 : decode cX8_readsHole 110 = .ok (.iadd, 1) := by decide +kernel
theorem dX8_readsHole_111 : decode cX8_readsHole 111 = .ok (.iastore, 1) := by decide +kernel
theorem dX8_readsHole_112 : decode cX8_readsHole 112 = .ok (.iconst 1, 1) := by decide +kernel
theorem dX8_readsHole_113 : decode cX8_readsHole 113 = .ok (.ireturn, 1) := by decide +kernel
theorem dX8_readsItem_0 : decode cX8_readsItem 0 = .ok (.aload_n 0, 1) := by decide +kernel
theorem dX8_readsItem_1 : decode cX8_readsItem 1 = .ok (.invokevirtual 71, 3) := by decide +kernel
theorem dX8_readsItem_4 : decode cX8_readsItem 4 = .ok (.aload_n 0, 1) := by decide +kernel
theorem dX8_readsItem_5 : decode cX8_readsItem 5 = .ok (.bipush 97, 2) := by decide +kernel
theorem dX8_readsItem_7 : decode cX8_readsItem 7 = .ok (.bipush 122, 2) := by decide +kernel
theorem dX8_readsItem_9 : decode cX8_readsItem 9 = .ok (.invokevirtual 74, 3) := by decide +kernel
theorem dX8_readsItem_12 : decode cX8_readsItem 12 = .ok (.ifCond .eq 16, 3) := by decide +kernel
theorem dX8_readsItem_15 : decode cX8_readsItem 15 = .ok (.aload_n 0, 1) := by decide +kernel
theorem dX8_readsItem_16 : decode cX8_readsItem 16 = .ok (.dup, 1) := by decide +kernel
theorem dX8_readsItem_17 : decode cX8_readsItem 17 = .ok (.getfield 57, 3) := by decide +kernel
theorem dX8_readsItem_20 : decode cX8_readsItem 20 = .ok (.iconst 1, 1) := by decide +kernel
theorem dX8_readsItem_21 : decode cX8_readsItem 21 = .ok (.iadd, 1) := by decide +kernel
theorem dX8_readsItem_22 : decode cX8_readsItem 22 = .ok (.putfield 57, 3) := by decide +kernel
theorem dX8_readsItem_25 : decode cX8_readsItem 25 = .ok (.goto (-21), 3) := by decide +kernel
theorem dX8_readsItem_28 : decode cX8_readsItem 28 = .ok (.aload_n 0, 1) := by decide +kernel
theorem dX8_readsItem_29 : decode cX8_readsItem 29 = .ok (.bipush 119, 2) := by decide +kernel
theorem dX8_readsItem_31 : decode cX8_readsItem 31 = .ok (.bipush 97, 2) := by decide +kernel
theorem dX8_readsItem_33 : decode cX8_readsItem 33 = .ok (.bipush 108, 2) := by decide +kernel
theorem dX8_readsItem_35 : decode cX8_readsItem 35 = .ok (.bipush 108, 2) := by decide +kernel
theorem dX8_readsItem_37 : decode cX8_readsItem 37 = .ok (.invokevirtual 85, 3) := by decide +kernel
theorem dX8_readsItem_40 : decode cX8_readsItem 40 = .ok (.ifCond .eq 8, 3) := by decide +kernel
theorem dX8_readsItem_43 : decode cX8_readsItem 43 = .ok (.aload_n 0, 1) := by decide +kernel
theorem dX8_readsItem_44 : decode cX8_readsItem 44 = .ok (.invokevirtual 89, 3) := by decide +kernel
theorem dX8_readsItem_47 : decode cX8_readsItem 47 = .ok (.ireturn, 1) := by decide +kernel
theorem dX8_readsItem_48 : decode cX8_readsItem 48 = .ok (.aload_n 0, 1) := by decide +kernel
theorem dX8_readsItem_49 : decode cX8_readsItem 49 = .ok (.bipush 112, 2) := by decide +kernel
theorem dX8_readsItem_51 : decode cX8_readsItem 51 = .ok (.bipush 105, 2) := by decide +kernel
theorem dX8_readsItem_53 : decode cX8_readsItem 53 = .ok (.bipush 99, 2) := by decide +kernel
theorem dX8_readsItem_55 : decode cX8_readsItem 55 = .ok (.iconst 0, 1) := by decide +kernel
theorem dX8_readsItem_56 : decode cX8_readsItem 56 = .ok (.invokevirtual 85, 3) := by decide +kernel
theorem dX8_readsItem_59 : decode cX8_readsItem 59 = .ok (.ifCond .eq 8, 3) := by decide +kernel
theorem dX8_readsItem_62 : decode cX8_readsItem 62 = .ok (.aload_n 0, 1) := by decide +kernel
theorem dX8_readsItem_63 : decode cX8_readsItem 63 = .ok (.invokevirtual 93, 3) := by decide +kernel
theorem dX8_readsItem_66 : decode cX8_readsItem 66 = .ok (.ireturn, 1) := by decide +kernel
theorem dX8_readsItem_67 : decode cX8_readsItem 67 = .ok (.aload_n 0, 1) := by decide +kernel
theorem dX8_readsItem_68 : decode cX8_readsItem 68 = .ok (.bipush 100, 2) := by decide +kernel
theorem dX8_readsItem_70 : decode cX8_readsItem 70 = .ok (.bipush 111, 2) := by decide +kernel
theorem dX8_readsItem_72 : decode cX8_readsItem 72 = .ok (.bipush 111, 2) := by decide +kernel
theorem dX8_readsItem_74 : decode cX8_readsItem 74 = .ok (.bipush 114, 2) := by decide +kernel
theorem dX8_readsItem_76 : decode cX8_readsItem 76 = .ok (.invokevirtual 85, 3) := by decide +kernel
theorem dX8_readsItem_79 : decode cX8_readsItem 79 = .ok (.ifCond .eq 8, 3) := by decide +kernel
theorem dX8_readsItem_82 : decode cX8_readsItem 82 = .ok (.aload_n 0, 1) := by decide +kernel
theorem dX8_readsItem_83 : decode cX8_readsItem 83 = .ok (.invokevirtual 96, 3) := by decide +kernel
theorem dX8_readsItem_86 : decode cX8_readsItem 86 = .ok (.ireturn, 1) := by decide +kernel
theorem dX8_readsItem_87 : decode cX8_readsItem 87 = .ok (.aload_n 0, 1) := by decide +kernel
theorem dX8_readsItem_88 : decode cX8_readsItem 88 = .ok (.bipush 104, 2) := by decide +kernel
theorem dX8_readsItem_90 : decode cX8_readsItem 90 = .ok (.bipush 111, 2) := by decide +kernel
theorem dX8_readsItem_92 : decode cX8_readsItem 92 = .ok (.bipush 108, 2) := by decide +kernel
theorem dX8_readsItem_94 : decode cX8_readsItem 94 = .ok (.bipush 101, 2) := by decide +kernel
theorem dX8_readsItem_96 : decode cX8_readsItem 96 = .ok (.invokevirtual 85, 3) := by decide +kernel
theorem dX8_readsItem_99 : decode cX8_readsItem 99 = .ok (.ifCond .eq 14, 3) := by decide +kernel
theorem dX8_readsItem_102 : decode cX8_readsItem 102 = .ok (.aload_n 0, 1) := by decide +kernel
theorem dX8_readsItem_103 : decode cX8_readsItem 103 = .ok (.invokevirtual 99, 3) := by decide +kernel
theorem dX8_readsItem_106 : decode cX8_readsItem 106 = .ok (.ifCond .eq 7, 3) := by decide +kernel
theorem dX8_readsItem_109 : decode cX8_readsItem 109 = .ok (.iconst 1, 1) := by decide +kernel
theorem dX8_readsItem_110 : decode cX8_readsItem 110 = .ok (.goto 4, 3) := by decide +kernel
theorem dX8_readsItem_113 : decode cX8_readsItem 113 = .ok (.iconst 0, 1) := by decide +kernel
theorem dX8_readsItem_114 : decode cX8_readsItem 114 = .ok (.ireturn, 1) := by decide +kernel
theorem dX8_reads_0 : decode cX8_reads 0 = .ok (.aload_n 0, 1) := by decide +kernel
theorem dX8_reads_1 : decode cX8_reads 1 = .ok (.getfield 13, 3) := by decide +kernel
theorem dX8_reads_4 : decode cX8_reads 4 = .ok (.invokestatic 53, 3) := by decide +kernel
theorem dX8_reads_7 : decode cX8_reads 7 = .ok (.aload_n 0, 1) := by decide +kernel
theorem dX8_reads_8 : decode cX8_reads 8 = .ok (.iconst 0, 1) := by decide +kernel
theorem dX8_reads_9 : decode cX8_reads 9 = .ok (.putfield 78, 3) := by decide +kernel
theorem dX8_reads_12 : decode cX8_reads 12 = .ok (.aload_n 0, 1) := by decide +kernel
theorem dX8_reads_13 : decode cX8_reads 13 = .ok (.iconst 0, 1) := by decide +kernel
theorem dX8_reads_14 : decode cX8_reads 14 = .ok (.putfield 57, 3) := by decide +kernel
theorem dX8_reads_17 : decode cX8_reads 17 = .ok (.iconst 0, 1) := by decide +kernel
theorem dX8_reads_18 : decode cX8_reads 18 = .ok (.istore_n 1, 1) := by decide +kernel
theorem dX8_reads_19 : decode cX8_reads 19 = .ok (.aload_n 0, 1) := by decide +kernel
theorem dX8_reads_20 : decode cX8_reads 20 = .ok (.invokevirtual 71, 3) := by decide +kernel
theorem dX8_reads_23 : decode cX8_reads 23 = .ok (.aload_n 0, 1) := by decide +kernel
theorem dX8_reads_24 : decode cX8_reads 24 = .ok (.getfield 57, 3) := by decide +kernel
theorem dX8_reads_27 : decode cX8_reads 27 = .ok (.aload_n 0, 1) := by decide +kernel
theorem dX8_reads_28 : decode cX8_reads 28 = .ok (.getfield 61, 3) := by decide +kernel
theorem dX8_reads_31 : decode cX8_reads 31 = .ok (.if_icmp .ge 29, 3) := by decide +kernel
theorem dX8_reads_34 : decode cX8_reads 34 = .ok (.aload_n 0, 1) := by decide +kernel
theorem dX8_reads_35 : decode cX8_reads 35 = .ok (.invokevirtual 102, 3) := by decide +kernel
theorem dX8_reads_38 : decode cX8_reads 38 = .ok (.ifCond .eq 10, 3) := by decide +kernel
theorem dX8_reads_41 : decode cX8_reads 41 = .ok (.aload_n 0, 1) := by decide +kernel
theorem dX8_reads_42 : decode cX8_reads 42 = .ok (.invokevirtual 105, 3) := by decide +kernel
theorem dX8_reads_45 : decode cX8_reads 45 = .ok (.ifCond .ne 5, 3) := by decide +kernel
theorem dX8_reads_48 : decode cX8_reads 48 = .ok (.iconst (-1), 1) := by decide +kernel
theorem dX8_reads_49 : decode cX8_reads 49 = .ok (.ireturn, 1) := by decide +kernel
theorem dX8_reads_50 : decode cX8_reads 50 = .ok (.iinc 1 1, 3) := by decide +kernel
theorem dX8_reads_53 : decode cX8_reads 53 = .ok (.aload_n 0, 1) := by decide +kernel
theorem dX8_reads_54 : decode cX8_reads 54 = .ok (.invokevirtual 71, 3) := by decide +kernel
theorem dX8_reads_57 : decode cX8_reads 57 = .ok (.goto (-34), 3) := by decide +kernel
theorem dX8_reads_60 : decode cX8_reads 60 = .ok (.iload_n 1, 1) := by decide +kernel
theorem dX8_reads_61 : decode cX8_reads 61 = .ok (.ireturn, 1) := by decide +kernel
theorem dX8_type_0 : decode cX8_type 0 = .ok (.iload_n 1, 1) := by decide +kernel
theorem dX8_type_1 : decode cX8_type 1 = .ok (.iconst 0, 1) := by decide +kernel
theorem dX8_type_2 : decode cX8_type 2 = .ok (.sipush 255, 3) := by decide +kernel
theorem dX8_type_5 : decode cX8_type 5 = .ok (.invokestatic 67, 3) := by decide +kernel
theorem dX8_type_8 : decode cX8_type 8 = .ok (.ifCond .ne 5, 3) := by decide +kernel
theorem dX8_type_11 : decode cX8_type 11 = .ok (.iconst (-1), 1) := by decide +kernel
theorem dX8_type_12 : decode cX8_type 12 = .ok (.ireturn, 1) := by decide +kernel
theorem dX8_type_13 : decode cX8_type 13 = .ok (.aload_n 0, 1) := by decide +kernel
theorem dX8_type_14 : decode cX8_type 14 = .ok (.getfield 61, 3) := by decide +kernel
theorem dX8_type_17 : decode cX8_type 17 = .ok (.bipush 120, 2) := by decide +kernel
theorem dX8_type_19 : decode cX8_type 19 = .ok (.if_icmp .ne 6, 3) := by decide +kernel
theorem dX8_type_22 : decode cX8_type 22 = .ok (.bipush (-3), 2) := by decide +kernel
theorem dX8_type_24 : decode cX8_type 24 = .ok (.ireturn, 1) := by decide +kernel
theorem dX8_type_25 : decode cX8_type 25 = .ok (.aload_n 0, 1) := by decide +kernel
theorem dX8_type_26 : decode cX8_type 26 = .ok (.getfield 32, 3) := by decide +kernel
theorem dX8_type_29 : decode cX8_type 29 = .ok (.aload_n 0, 1) := by decide +kernel
theorem dX8_type_30 : decode cX8_type 30 = .ok (.getfield 61, 3) := by decide +kernel
theorem dX8_type_33 : decode cX8_type 33 = .ok (.iload_n 1, 1) := by decide +kernel
theorem dX8_type_34 : decode cX8_type 34 = .ok (.iastore, 1) := by decide +kernel
theorem dX8_type_35 : decode cX8_type 35 = .ok (.aload_n 0, 1) := by decide +kernel
theorem dX8_type_36 : decode cX8_type 36 = .ok (.dup, 1) := by decide +kernel
theorem dX8_type_37 : decode cX8_type 37 = .ok (.getfield 61, 3) := by decide +kernel
theorem dX8_type_40 : decode cX8_type 40 = .ok (.iconst 1, 1) := by decide +kernel
theorem dX8_type_41 : decode cX8_type 41 = .ok (.iadd, 1) := by decide +kernel
theorem dX8_type_42 : decode cX8_type 42 = .ok (.putfield 61, 3) := by decide +kernel
theorem dX8_type_45 : decode cX8_type 45 = .ok (.aload_n 0, 1) := by decide +kernel
theorem dX8_type_46 : decode cX8_type 46 = .ok (.getfield 61, 3) := by decide +kernel
theorem dX8_type_49 : decode cX8_type 49 = .ok (.ireturn, 1) := by decide +kernel
theorem dX8_clear_0 : decode cX8_clear 0 = .ok (.aload_n 0, 1) := by decide +kernel
theorem dX8_clear_1 : decode cX8_clear 1 = .ok (.getfield 61, 3) := by decide +kernel
theorem dX8_clear_4 : decode cX8_clear 4 = .ok (.istore_n 1, 1) := by decide +kernel
theorem dX8_clear_5 : decode cX8_clear 5 = .ok (.aload_n 0, 1) := by decide +kernel
theorem dX8_clear_6 : decode cX8_clear 6 = .ok (.iconst 0, 1) := by decide +kernel
theorem dX8_clear_7 : decode cX8_clear 7 = .ok (.putfield 61, 3) := by decide +kernel
theorem dX8_clear_10 : decode cX8_clear 10 = .ok (.iload_n 1, 1) := by decide +kernel
theorem dX8_clear_11 : decode cX8_clear 11 = .ok (.ireturn, 1) := by decide +kernel
theorem dX8_keeps_0 : decode cX8_keeps 0 = .ok (.aload_n 0, 1) := by decide +kernel
theorem dX8_keeps_1 : decode cX8_keeps 1 = .ok (.getfield 108, 3) := by decide +kernel
theorem dX8_keeps_4 : decode cX8_keeps 4 = .ok (.bipush 6, 2) := by decide +kernel
theorem dX8_keeps_6 : decode cX8_keeps 6 = .ok (.if_icmp .ne 43, 3) := by decide +kernel
theorem dX8_keeps_9 : decode cX8_keeps 9 = .ok (.iconst 0, 1) := by decide +kernel
theorem dX8_keeps_10 : decode cX8_keeps 10 = .ok (.istore_n 1, 1) := by decide +kernel
theorem dX8_keeps_11 : decode cX8_keeps 11 = .ok (.iload_n 1, 1) := by decide +kernel
theorem dX8_keeps_12 : decode cX8_keeps 12 = .ok (.sipush 345, 3) := by decide +kernel
theorem dX8_keeps_15 : decode cX8_keeps 15 = .ok (.if_icmp .ge 24, 3) := by decide +kernel
theorem dX8_keeps_18 : decode cX8_keeps 18 = .ok (.aload_n 0, 1) := by decide +kernel
theorem dX8_keeps_19 : decode cX8_keeps 19 = .ok (.getfield 16, 3) := by decide +kernel
theorem dX8_keeps_22 : decode cX8_keeps 22 = .ok (.iload_n 1, 1) := by decide +kernel
theorem dX8_keeps_23 : decode cX8_keeps 23 = .ok (.aload_n 0, 1) := by decide +kernel
theorem dX8_keeps_24 : decode cX8_keeps 24 = .ok (.getfield 16, 3) := by decide +kernel
theorem dX8_keeps_27 : decode cX8_keeps 27 = .ok (.iload_n 1, 1) := by decide +kernel
theorem dX8_keeps_28 : decode cX8_keeps 28 = .ok (.bipush 69, 2) := by decide +kernel
theorem dX8_keeps_30 : decode cX8_keeps 30 = .ok (.iadd, 1) := by decide +kernel
theorem dX8_keeps_31 : decode cX8_keeps 31 = .ok (.iaload, 1) := by decide +kernel
theorem dX8_keeps_32 : decode cX8_keeps 32 = .ok (.iastore, 1) := by decide +kernel
theorem dX8_keeps_33 : decode cX8_keeps 33 = .ok (.iinc 1 1, 3) := by decide +kernel
theorem dX8_keeps_36 : decode cX8_keeps 36 = .ok (.goto (-25), 3) := by decide +kernel
theorem dX8_keeps_39 : decode cX8_keeps 39 = .ok (.aload_n 0, 1) := by decide +kernel
theorem dX8_keeps_40 : decode cX8_keeps 40 = .ok (.dup, 1) := by decide +kernel
theorem dX8_keeps_41 : decode cX8_keeps 41 = .ok (.getfield 108, 3) := by decide +kernel
theorem dX8_keeps_44 : decode cX8_keeps 44 = .ok (.iconst 1, 1) := by decide +kernel
theorem dX8_keeps_45 : decode cX8_keeps 45 = .ok (.isub, 1) := by decide +kernel
theorem dX8_keeps_46 : decode cX8_keeps 46 = .ok (.putfield 108, 3) := by decide +kernel
theorem dX8_keeps_49 : decode cX8_keeps 49 = .ok (.iconst 0, 1) := by decide +kernel
theorem dX8_keeps_50 : decode cX8_keeps 50 = .ok (.istore_n 1, 1) := by decide +kernel
theorem dX8_keeps_51 : decode cX8_keeps 51 = .ok (.iload_n 1, 1) := by decide +kernel
theorem dX8_keeps_52 : decode cX8_keeps 52 = .ok (.bipush 69, 2) := by decide +kernel
theorem dX8_keeps_54 : decode cX8_keeps 54 = .ok (.if_icmp .ge 29, 3) := by decide +kernel
theorem dX8_keeps_57 : decode cX8_keeps 57 = .ok (.aload_n 0, 1) := by decide +kernel
theorem dX8_keeps_58 : decode cX8_keeps 58 = .ok (.getfield 16, 3) := by decide +kernel
theorem dX8_keeps_61 : decode cX8_keeps 61 = .ok (.bipush 69, 2) := by decide +kernel
theorem dX8_keeps_63 : decode cX8_keeps 63 = .ok (.aload_n 0, 1) := by decide +kernel
theorem dX8_keeps_64 : decode cX8_keeps 64 = .ok (.getfield 108, 3) := by decide +kernel
theorem dX8_keeps_67 : decode cX8_keeps 67 = .ok (.imul, 1) := by decide +kernel
theorem dX8_keeps_68 : decode cX8_keeps 68 = .ok (.iload_n 1, 1) := by decide +kernel
theorem dX8_keeps_69 : decode cX8_keeps 69 = .ok (.iadd, 1) := by decide +kernel
theorem dX8_keeps_70 : decode cX8_keeps 70 = .ok (.aload_n 0, 1) := by decide +kernel
theorem dX8_keeps_71 : decode cX8_keeps 71 = .ok (.getfield 7, 3) := by decide +kernel
theorem dX8_keeps_74 : decode cX8_keeps 74 = .ok (.iload_n 1, 1) := by decide +kernel
theorem dX8_keeps_75 : decode cX8_keeps 75 = .ok (.iaload, 1) := by decide +kernel
theorem dX8_keeps_76 : decode cX8_keeps 76 = .ok (.iastore, 1) := by decide +kernel
theorem dX8_keeps_77 : decode cX8_keeps 77 = .ok (.iinc 1 1, 3) := by decide +kernel
theorem dX8_keeps_80 : decode cX8_keeps 80 = .ok (.goto (-29), 3) := by decide +kernel
theorem dX8_keeps_83 : decode cX8_keeps 83 = .ok (.aload_n 0, 1) := by decide +kernel
theorem dX8_keeps_84 : decode cX8_keeps 84 = .ok (.dup, 1) := by decide +kernel
theorem dX8_keeps_85 : decode cX8_keeps 85 = .ok (.getfield 108, 3) := by decide +kernel
theorem dX8_keeps_88 : decode cX8_keeps 88 = .ok (.iconst 1, 1) := by decide +kernel
theorem dX8_keeps_89 : decode cX8_keeps 89 = .ok (.iadd, 1) := by decide +kernel
theorem dX8_keeps_90 : decode cX8_keeps 90 = .ok (.putfield 108, 3) := by decide +kernel
theorem dX8_keeps_93 : decode cX8_keeps 93 = .ok (.return_, 1) := by decide +kernel
theorem dX8_tells_0 : decode cX8_tells 0 = .ok (.aload_n 0, 1) := by decide +kernel
theorem dX8_tells_1 : decode cX8_tells 1 = .ok (.invokevirtual 111, 3) := by decide +kernel
theorem dX8_tells_4 : decode cX8_tells 4 = .ok (.istore_n 1, 1) := by decide +kernel
theorem dX8_tells_5 : decode cX8_tells 5 = .ok (.iload_n 1, 1) := by decide +kernel
theorem dX8_tells_6 : decode cX8_tells 6 = .ok (.ifCond .ge 11, 3) := by decide +kernel
theorem dX8_tells_9 : decode cX8_tells 9 = .ok (.bipush (-10), 2) := by decide +kernel
theorem dX8_tells_11 : decode cX8_tells 11 = .ok (.aload_n 0, 1) := by decide +kernel
theorem dX8_tells_12 : decode cX8_tells 12 = .ok (.getfield 64, 3) := by decide +kernel
theorem dX8_tells_15 : decode cX8_tells 15 = .ok (.isub, 1) := by decide +kernel
theorem dX8_tells_16 : decode cX8_tells 16 = .ok (.ireturn, 1) := by decide +kernel
theorem dX8_tells_17 : decode cX8_tells 17 = .ok (.aload_n 0, 1) := by decide +kernel
theorem dX8_tells_18 : decode cX8_tells 18 = .ok (.invokevirtual 115, 3) := by decide +kernel
theorem dX8_tells_21 : decode cX8_tells 21 = .ok (.iconst 0, 1) := by decide +kernel
theorem dX8_tells_22 : decode cX8_tells 22 = .ok (.istore_n 2, 1) := by decide +kernel
theorem dX8_tells_23 : decode cX8_tells 23 = .ok (.iload_n 2, 1) := by decide +kernel
theorem dX8_tells_24 : decode cX8_tells 24 = .ok (.bipush 69, 2) := by decide +kernel
theorem dX8_tells_26 : decode cX8_tells 26 = .ok (.if_icmp .ge 21, 3) := by decide +kernel
theorem dX8_tells_29 : decode cX8_tells 29 = .ok (.aload_n 0, 1) := by decide +kernel
theorem dX8_tells_30 : decode cX8_tells 30 = .ok (.getfield 7, 3) := by decide +kernel
theorem dX8_tells_33 : decode cX8_tells 33 = .ok (.iload_n 2, 1) := by decide +kernel
theorem dX8_tells_34 : decode cX8_tells 34 = .ok (.aload_n 0, 1) := by decide +kernel
theorem dX8_tells_35 : decode cX8_tells 35 = .ok (.getfield 13, 3) := by decide +kernel
theorem dX8_tells_38 : decode cX8_tells 38 = .ok (.iload_n 2, 1) := by decide +kernel
theorem dX8_tells_39 : decode cX8_tells 39 = .ok (.iaload, 1) := by decide +kernel
theorem dX8_tells_40 : decode cX8_tells 40 = .ok (.iastore, 1) := by decide +kernel
theorem dX8_tells_41 : decode cX8_tells 41 = .ok (.iinc 2 1, 3) := by decide +kernel
theorem dX8_tells_44 : decode cX8_tells 44 = .ok (.goto (-21), 3) := by decide +kernel
theorem dX8_tells_47 : decode cX8_tells 47 = .ok (.aload_n 0, 1) := by decide +kernel
theorem dX8_tells_48 : decode cX8_tells 48 = .ok (.iconst 0, 1) := by decide +kernel
theorem dX8_tells_49 : decode cX8_tells 49 = .ok (.putfield 61, 3) := by decide +kernel
theorem dX8_tells_52 : decode cX8_tells 52 = .ok (.iload_n 1, 1) := by decide +kernel
theorem dX8_tells_53 : decode cX8_tells 53 = .ok (.ireturn, 1) := by decide +kernel
theorem dX8_isPicture_0 : decode cX8_isPicture 0 = .ok (.iload_n 1, 1) := by decide +kernel
theorem dX8_isPicture_1 : decode cX8_isPicture 1 = .ok (.iconst 0, 1) := by decide +kernel
theorem dX8_isPicture_2 : decode cX8_isPicture 2 = .ok (.aload_n 0, 1) := by decide +kernel
theorem dX8_isPicture_3 : decode cX8_isPicture 3 = .ok (.getfield 7, 3) := by decide +kernel
theorem dX8_isPicture_6 : decode cX8_isPicture 6 = .ok (.iconst 3, 1) := by decide +kernel
theorem dX8_isPicture_7 : decode cX8_isPicture 7 = .ok (.iaload, 1) := by decide +kernel
theorem dX8_isPicture_8 : decode cX8_isPicture 8 = .ok (.iconst 1, 1) := by decide +kernel
theorem dX8_isPicture_9 : decode cX8_isPicture 9 = .ok (.isub, 1) := by decide +kernel
theorem dX8_isPicture_10 : decode cX8_isPicture 10 = .ok (.invokestatic 67, 3) := by decide +kernel
theorem dX8_isPicture_13 : decode cX8_isPicture 13 = .ok (.ireturn, 1) := by decide +kernel
theorem dX8_ofPicture_0 : decode cX8_ofPicture 0 = .ok (.aload_n 0, 1) := by decide +kernel
theorem dX8_ofPicture_1 : decode cX8_ofPicture 1 = .ok (.getfield 7, 3) := by decide +kernel
theorem dX8_ofPicture_4 : decode cX8_ofPicture 4 = .ok (.iconst 4, 1) := by decide +kernel
theorem dX8_ofPicture_5 : decode cX8_ofPicture 5 = .ok (.iconst 4, 1) := by decide +kernel
theorem dX8_ofPicture_6 : decode cX8_ofPicture 6 = .ok (.iload_n 1, 1) := by decide +kernel
theorem dX8_ofPicture_7 : decode cX8_ofPicture 7 = .ok (.imul, 1) := by decide +kernel
theorem dX8_ofPicture_8 : decode cX8_ofPicture 8 = .ok (.iadd, 1) := by decide +kernel
theorem dX8_ofPicture_9 : decode cX8_ofPicture 9 = .ok (.iload_n 2, 1) := by decide +kernel
theorem dX8_ofPicture_10 : decode cX8_ofPicture 10 = .ok (.iadd, 1) := by decide +kernel
theorem dX8_ofPicture_11 : decode cX8_ofPicture 11 = .ok (.iaload, 1) := by decide +kernel
theorem dX8_ofPicture_12 : decode cX8_ofPicture 12 = .ok (.ireturn, 1) := by decide +kernel
theorem dX8_hookX_0 : decode cX8_hookX 0 = .ok (.iconst 2, 1) := by decide +kernel
theorem dX8_hookX_1 : decode cX8_hookX 1 = .ok (.iload_n 2, 1) := by decide +kernel
theorem dX8_hookX_2 : decode cX8_hookX 2 = .ok (.imul, 1) := by decide +kernel
theorem dX8_hookX_3 : decode cX8_hookX 3 = .ok (.aload_n 0, 1) := by decide +kernel
theorem dX8_hookX_4 : decode cX8_hookX 4 = .ok (.iload_n 1, 1) := by decide +kernel
theorem dX8_hookX_5 : decode cX8_hookX 5 = .ok (.iconst 0, 1) := by decide +kernel
theorem dX8_hookX_6 : decode cX8_hookX 6 = .ok (.invokevirtual 118, 3) := by decide +kernel
theorem dX8_hookX_9 : decode cX8_hookX 9 = .ok (.iadd, 1) := by decide +kernel
theorem dX8_hookX_10 : decode cX8_hookX 10 = .ok (.ireturn, 1) := by decide +kernel
theorem dX8_hookY_0 : decode cX8_hookY 0 = .ok (.iconst 2, 1) := by decide +kernel
theorem dX8_hookY_1 : decode cX8_hookY 1 = .ok (.aload_n 0, 1) := by decide +kernel
theorem dX8_hookY_2 : decode cX8_hookY 2 = .ok (.getfield 7, 3) := by decide +kernel
theorem dX8_hookY_5 : decode cX8_hookY 5 = .ok (.iconst 1, 1) := by decide +kernel
theorem dX8_hookY_6 : decode cX8_hookY 6 = .ok (.iaload, 1) := by decide +kernel
theorem dX8_hookY_7 : decode cX8_hookY 7 = .ok (.imul, 1) := by decide +kernel
theorem dX8_hookY_8 : decode cX8_hookY 8 = .ok (.aload_n 0, 1) := by decide +kernel
theorem dX8_hookY_9 : decode cX8_hookY 9 = .ok (.iload_n 1, 1) := by decide +kernel
theorem dX8_hookY_10 : decode cX8_hookY 10 = .ok (.iconst 1, 1) := by decide +kernel
theorem dX8_hookY_11 : decode cX8_hookY 11 = .ok (.invokevirtual 118, 3) := by decide +kernel
theorem dX8_hookY_14 : decode cX8_hookY 14 = .ok (.iadd, 1) := by decide +kernel
theorem dX8_hookY_15 : decode cX8_hookY 15 = .ok (.iconst 2, 1) := by decide +kernel
theorem dX8_hookY_16 : decode cX8_hookY 16 = .ok (.aload_n 0, 1) := by decide +kernel
theorem dX8_hookY_17 : decode cX8_hookY 17 = .ok (.iload_n 1, 1) := by decide +kernel
theorem dX8_hookY_18 : decode cX8_hookY 18 = .ok (.iconst 2, 1) := by decide +kernel
theorem dX8_hookY_19 : decode cX8_hookY 19 = .ok (.invokevirtual 118, 3) := by decide +kernel
theorem dX8_hookY_22 : decode cX8_hookY 22 = .ok (.imul, 1) := by decide +kernel
theorem dX8_hookY_23 : decode cX8_hookY 23 = .ok (.isub, 1) := by decide +kernel
theorem dX8_hookY_24 : decode cX8_hookY 24 = .ok (.ireturn, 1) := by decide +kernel
theorem dX8_doesFit_0 : decode cX8_doesFit 0 = .ok (.iload_n 2, 1) := by decide +kernel
theorem dX8_doesFit_1 : decode cX8_doesFit 1 = .ok (.aload_n 0, 1) := by decide +kernel
theorem dX8_doesFit_2 : decode cX8_doesFit 2 = .ok (.iload_n 1, 1) := by decide +kernel
theorem dX8_doesFit_3 : decode cX8_doesFit 3 = .ok (.iconst 0, 1) := by decide +kernel
theorem dX8_doesFit_4 : decode cX8_doesFit 4 = .ok (.invokevirtual 118, 3) := by decide +kernel
theorem dX8_doesFit_7 : decode cX8_doesFit 7 = .ok (.iadd, 1) := by decide +kernel
theorem dX8_doesFit_8 : decode cX8_doesFit 8 = .ok (.istore_n 3, 1) := by decide +kernel
theorem dX8_doesFit_9 : decode cX8_doesFit 9 = .ok (.iload_n 2, 1) := by decide +kernel
theorem dX8_doesFit_10 : decode cX8_doesFit 10 = .ok (.ifCond .lt 17, 3) := by decide +kernel
theorem dX8_doesFit_13 : decode cX8_doesFit 13 = .ok (.iload_n 3, 1) := by decide +kernel
theorem dX8_doesFit_14 : decode cX8_doesFit 14 = .ok (.aload_n 0, 1) := by decide +kernel
theorem dX8_doesFit_15 : decode cX8_doesFit 15 = .ok (.getfield 7, 3) := by decide +kernel
theorem dX8_doesFit_18 : decode cX8_doesFit 18 = .ok (.iconst 0, 1) := by decide +kernel
theorem dX8_doesFit_19 : decode cX8_doesFit 19 = .ok (.iaload, 1) := by decide +kernel
theorem dX8_doesFit_20 : decode cX8_doesFit 20 = .ok (.if_icmp .gt 7, 3) := by decide +kernel
theorem dX8_doesFit_23 : decode cX8_doesFit 23 = .ok (.iconst 1, 1) := by decide +kernel
theorem dX8_doesFit_24 : decode cX8_doesFit 24 = .ok (.goto 4, 3) := by decide +kernel
theorem dX8_doesFit_27 : decode cX8_doesFit 27 = .ok (.iconst 0, 1) := by decide +kernel
theorem dX8_doesFit_28 : decode cX8_doesFit 28 = .ok (.istore 4, 2) := by decide +kernel
theorem dX8_doesFit_30 : decode cX8_doesFit 30 = .ok (.iconst 0, 1) := by decide +kernel
theorem dX8_doesFit_31 : decode cX8_doesFit 31 = .ok (.istore 5, 2) := by decide +kernel
theorem dX8_doesFit_33 : decode cX8_doesFit 33 = .ok (.iload 5, 2) := by decide +kernel
theorem dX8_doesFit_35 : decode cX8_doesFit 35 = .ok (.aload_n 0, 1) := by decide +kernel
theorem dX8_doesFit_36 : decode cX8_doesFit 36 = .ok (.getfield 7, 3) := by decide +kernel
theorem dX8_doesFit_39 : decode cX8_doesFit 39 = .ok (.bipush 24, 2) := by decide +kernel
theorem dX8_doesFit_41 : decode cX8_doesFit 41 = .ok (.iaload, 1) := by decide +kernel
theorem dX8_doesFit_42 : decode cX8_doesFit 42 = .ok (.if_icmp .ge 55, 3) := by decide +kernel
theorem dX8_doesFit_45 : decode cX8_doesFit 45 = .ok (.iload 4, 2) := by decide +kernel
theorem dX8_doesFit_47 : decode cX8_doesFit 47 = .ok (.ifCond .eq 41, 3) := by decide +kernel
theorem dX8_doesFit_50 : decode cX8_doesFit 50 = .ok (.iload_n 3, 1) := by decide +kernel
theorem dX8_doesFit_51 : decode cX8_doesFit 51 = .ok (.aload_n 0, 1) := by decide +kernel
theorem dX8_doesFit_52 : decode cX8_doesFit 52 = .ok (.getfield 7, 3) := by decide +kernel
theorem dX8_doesFit_55 : decode cX8_doesFit 55 = .ok (.bipush 25, 2) := by decide +kernel
theorem dX8_doesFit_57 : decode cX8_doesFit 57 = .ok (.iconst 2, 1) := by decide +kernel
theorem dX8_doesFit_58 : decode cX8_doesFit 58 = .ok (.iload 5, 2) := by decide +kernel
theorem dX8_doesFit_60 : decode cX8_doesFit 60 = .ok (.imul, 1) := by decide +kernel
theorem dX8_doesFit_61 : decode cX8_doesFit 61 = .ok (.iadd, 1) := by decide +kernel
theorem dX8_doesFit_62 : decode cX8_doesFit 62 = .ok (.iaload, 1) := by decide +kernel
theorem dX8_doesFit_63 : decode cX8_doesFit 63 = .ok (.if_icmp .le 21, 3) := by decide +kernel
theorem dX8_doesFit_66 : decode cX8_doesFit 66 = .ok (.iload_n 2, 1) := by decide +kernel
theorem dX8_doesFit_67 : decode cX8_doesFit 67 = .ok (.aload_n 0, 1) := by decide +kernel
theorem dX8_doesFit_68 : decode cX8_doesFit 68 = .ok (.getfield 7, 3) := by decide +kernel
theorem dX8_doesFit_71 : decode cX8_doesFit 71 = .ok (.bipush 25, 2) := by decide +kernel
theorem dX8_doesFit_73 : decode cX8_doesFit 73 = .ok (.iconst 2, 1) := by decide +kernel
theorem dX8_doesFit_74 : decode cX8_doesFit 74 = .ok (.iload 5, 2) := by decide +kernel
theorem dX8_doesFit_76 : decode cX8_doesFit 76 = .ok (.imul, 1) := by decide +kernel
theorem dX8_doesFit_77 : decode cX8_doesFit 77 = .ok (.iadd, 1) := by decide +kernel
theorem dX8_doesFit_78 : decode cX8_doesFit 78 = .ok (.iconst 1, 1) := by decide +kernel
theorem dX8_doesFit_79 : decode cX8_doesFit 79 = .ok (.iadd, 1) := by decide +kernel
theorem dX8_doesFit_80 : decode cX8_doesFit 80 = .ok (.iaload, 1) := by decide +kernel
theorem dX8_doesFit_81 : decode cX8_doesFit 81 = .ok (.if_icmp .lt 7, 3) := by decide +kernel
theorem dX8_doesFit_84 : decode cX8_doesFit 84 = .ok (.iconst 1, 1) := by decide +kernel
theorem dX8_doesFit_85 : decode cX8_doesFit 85 = .ok (.goto 4, 3) := by decide +kernel
theorem dX8_doesFit_88 : decode cX8_doesFit 88 = .ok (.iconst 0, 1) := by decide +kernel
theorem dX8_doesFit_89 : decode cX8_doesFit 89 = .ok (.istore 4, 2) := by decide +kernel
theorem dX8_doesFit_91 : decode cX8_doesFit 91 = .ok (.iinc 5 1, 3) := by decide +kernel
theorem dX8_doesFit_94 : decode cX8_doesFit 94 = .ok (.goto (-61), 3) := by decide +kernel
theorem dX8_doesFit_97 : decode cX8_doesFit 97 = .ok (.iload 4, 2) := by decide +kernel
theorem dX8_doesFit_99 : decode cX8_doesFit 99 = .ok (.ireturn, 1) := by decide +kernel
theorem dX8_hangsNow_0 : decode cX8_hangsNow 0 = .ok (.aload_n 0, 1) := by decide +kernel
theorem dX8_hangsNow_1 : decode cX8_hangsNow 1 = .ok (.getfield 7, 3) := by decide +kernel
theorem dX8_hangsNow_4 : decode cX8_hangsNow 4 = .ok (.bipush 64, 2) := by decide +kernel
theorem dX8_hangsNow_6 : decode cX8_hangsNow 6 = .ok (.iload_n 1, 1) := by decide +kernel
theorem dX8_hangsNow_7 : decode cX8_hangsNow 7 = .ok (.iadd, 1) := by decide +kernel
theorem dX8_hangsNow_8 : decode cX8_hangsNow 8 = .ok (.iaload, 1) := by decide +kernel
theorem dX8_hangsNow_9 : decode cX8_hangsNow 9 = .ok (.bipush (-9), 2) := by decide +kernel
theorem dX8_hangsNow_11 : decode cX8_hangsNow 11 = .ok (.if_icmp .eq 7, 3) := by decide +kernel
theorem dX8_hangsNow_14 : decode cX8_hangsNow 14 = .ok (.iconst 1, 1) := by decide +kernel
theorem dX8_hangsNow_15 : decode cX8_hangsNow 15 = .ok (.goto 4, 3) := by decide +kernel
theorem dX8_hangsNow_18 : decode cX8_hangsNow 18 = .ok (.iconst 0, 1) := by decide +kernel
theorem dX8_hangsNow_19 : decode cX8_hangsNow 19 = .ok (.ireturn, 1) := by decide +kernel
theorem dX8_isApart_0 : decode cX8_isApart 0 = .ok (.iconst 1, 1) := by decide +kernel
theorem dX8_isApart_1 : decode cX8_isApart 1 = .ok (.istore_n 3, 1) := by decide +kernel
theorem dX8_isApart_2 : decode cX8_isApart 2 = .ok (.iconst 0, 1) := by decide +kernel
theorem dX8_isApart_3 : decode cX8_isApart 3 = .ok (.istore 4, 2) := by decide +kernel
theorem dX8_isApart_5 : decode cX8_isApart 5 = .ok (.iload 4, 2) := by decide +kernel
theorem dX8_isApart_7 : decode cX8_isApart 7 = .ok (.aload_n 0, 1) := by decide +kernel
theorem dX8_isApart_8 : decode cX8_isApart 8 = .ok (.getfield 7, 3) := by decide +kernel
theorem dX8_isApart_11 : decode cX8_isApart 11 = .ok (.iconst 3, 1) := by decide +kernel
theorem dX8_isApart_12 : decode cX8_isApart 12 = .ok (.iaload, 1) := by decide +kernel
theorem dX8_isApart_13 : decode cX8_isApart 13 = .ok (.if_icmp .ge 105, 3) := by decide +kernel
theorem dX8_isApart_16 : decode cX8_isApart 16 = .ok (.aload_n 0, 1) := by decide +kernel
theorem dX8_isApart_17 : decode cX8_isApart 17 = .ok (.getfield 7, 3) := by decide +kernel
theorem dX8_isApart_20 : decode cX8_isApart 20 = .ok (.bipush 64, 2) := by decide +kernel
theorem dX8_isApart_22 : decode cX8_isApart 22 = .ok (.iload 4, 2) := by decide +kernel
theorem dX8_isApart_24 : decode cX8_isApart 24 = .ok (.iadd, 1) := by decide +kernel
theorem dX8_isApart_25 : decode cX8_isApart 25 = .ok (.iaload, 1) := by decide +kernel
theorem dX8_isApart_26 : decode cX8_isApart 26 = .ok (.istore 5, 2) := by decide +kernel
theorem dX8_isApart_28 : decode cX8_isApart 28 = .ok (.iload_n 2, 1) := by decide +kernel
theorem dX8_isApart_29 : decode cX8_isApart 29 = .ok (.aload_n 0, 1) := by decide +kernel
theorem dX8_isApart_30 : decode cX8_isApart 30 = .ok (.iload_n 1, 1) := by decide +kernel
theorem dX8_isApart_31 : decode cX8_isApart 31 = .ok (.iconst 0, 1) := by decide +kernel
theorem dX8_isApart_32 : decode cX8_isApart 32 = .ok (.invokevirtual 118, 3) := by decide +kernel
theorem dX8_isApart_35 : decode cX8_isApart 35 = .ok (.iadd, 1) := by decide +kernel
theorem dX8_isApart_36 : decode cX8_isApart 36 = .ok (.aload_n 0, 1) := by decide +kernel
theorem dX8_isApart_37 : decode cX8_isApart 37 = .ok (.getfield 7, 3) := by decide +kernel
theorem dX8_isApart_40 : decode cX8_isApart 40 = .ok (.iconst 2, 1) := by decide +kernel
theorem dX8_isApart_41 : decode cX8_isApart 41 = .ok (.iaload, 1) := by decide +kernel
theorem dX8_isApart_42 : decode cX8_isApart 42 = .ok (.iadd, 1) := by decide +kernel
theorem dX8_isApart_43 : decode cX8_isApart 43 = .ok (.iload 5, 2) := by decide +kernel
theorem dX8_isApart_45 : decode cX8_isApart 45 = .ok (.if_icmp .gt 7, 3) := by decide +kernel
theorem dX8_isApart_48 : decode cX8_isApart 48 = .ok (.iconst 1, 1) := by decide +kernel
theorem dX8_isApart_49 : decode cX8_isApart 49 = .ok (.goto 4, 3) := by decide +kernel
theorem dX8_isApart_52 : decode cX8_isApart 52 = .ok (.iconst 0, 1) := by decide +kernel
theorem dX8_isApart_53 : decode cX8_isApart 53 = .ok (.istore 6, 2) := by decide +kernel
theorem dX8_isApart_55 : decode cX8_isApart 55 = .ok (.iload 5, 2) := by decide +kernel
theorem dX8_isApart_57 : decode cX8_isApart 57 = .ok (.aload_n 0, 1) := by decide +kernel
theorem dX8_isApart_58 : decode cX8_isApart 58 = .ok (.iload 4, 2) := by decide +kernel
theorem dX8_isApart_60 : decode cX8_isApart 60 = .ok (.iconst 0, 1) := by decide +kernel
theorem dX8_isApart_61 : decode cX8_isApart 61 = .ok (.invokevirtual 118, 3) := by decide +kernel
theorem dX8_isApart_64 : decode cX8_isApart 64 = .ok (.iadd, 1) := by decide +kernel
theorem dX8_isApart_65 : decode cX8_isApart 65 = .ok (.aload_n 0, 1) := by decide +kernel
theorem dX8_isApart_66 : decode cX8_isApart 66 = .ok (.getfield 7, 3) := by decide +kernel
theorem dX8_isApart_69 : decode cX8_isApart 69 = .ok (.iconst 2, 1) := by decide +kernel
theorem dX8_isApart_70 : decode cX8_isApart 70 = .ok (.iaload, 1) := by decide +kernel
theorem dX8_isApart_71 : decode cX8_isApart 71 = .ok (.iadd, 1) := by decide +kernel
theorem dX8_isApart_72 : decode cX8_isApart 72 = .ok (.iload_n 2, 1) := by decide +kernel
theorem dX8_isApart_73 : decode cX8_isApart 73 = .ok (.if_icmp .gt 7, 3) := by decide +kernel
theorem dX8_isApart_76 : decode cX8_isApart 76 = .ok (.iconst 1, 1) := by decide +kernel
theorem dX8_isApart_77 : decode cX8_isApart 77 = .ok (.goto 4, 3) := by decide +kernel
theorem dX8_isApart_80 : decode cX8_isApart 80 = .ok (.iconst 0, 1) := by decide +kernel
theorem dX8_isApart_81 : decode cX8_isApart 81 = .ok (.istore 7, 2) := by decide +kernel
theorem dX8_isApart_83 : decode cX8_isApart 83 = .ok (.iload_n 3, 1) := by decide +kernel
theorem dX8_isApart_84 : decode cX8_isApart 84 = .ok (.ifCond .eq 26, 3) := by decide +kernel
theorem dX8_isApart_87 : decode cX8_isApart 87 = .ok (.aload_n 0, 1) := by decide +kernel
theorem dX8_isApart_88 : decode cX8_isApart 88 = .ok (.iload 4, 2) := by decide +kernel
theorem dX8_isApart_90 : decode cX8_isApart 90 = .ok (.invokevirtual 122, 3) := by decide +kernel
theorem dX8_isApart_93 : decode cX8_isApart 93 = .ok (.ifCond .eq 13, 3) := by decide +kernel
theorem dX8_isApart_96 : decode cX8_isApart 96 = .ok (.iload 6, 2) := by decide +kernel
theorem dX8_isApart_98 : decode cX8_isApart 98 = .ok (.ifCond .ne 8, 3) := by decide +kernel
theorem dX8_isApart_101 : decode cX8_isApart 101 = .ok (.iload 7, 2) := by decide +kernel
theorem dX8_isApart_103 : decode cX8_isApart 103 = .ok (.ifCond .eq 7, 3) := by decide +kernel
theorem dX8_isApart_106 : decode cX8_isApart 106 = .ok (.iconst 1, 1) := by decide +kernel
theorem dX8_isApart_107 : decode cX8_isApart 107 = .ok (.goto 4, 3) := by decide +kernel
theorem dX8_isApart_110 : decode cX8_isApart 110 = .ok (.iconst 0, 1) := by decide +kernel
theorem dX8_isApart_111 : decode cX8_isApart 111 = .ok (.istore_n 3, 1) := by decide +kernel
theorem dX8_isApart_112 : decode cX8_isApart 112 = .ok (.iinc 4 1, 3) := by decide +kernel
theorem dX8_isApart_115 : decode cX8_isApart 115 = .ok (.goto (-110), 3) := by decide +kernel
theorem dX8_isApart_118 : decode cX8_isApart 118 = .ok (.iload_n 3, 1) := by decide +kernel
theorem dX8_isApart_119 : decode cX8_isApart 119 = .ok (.ireturn, 1) := by decide +kernel
theorem dX8_holeAt_0 : decode cX8_holeAt 0 = .ok (.bipush (-9), 2) := by decide +kernel
theorem dX8_holeAt_2 : decode cX8_holeAt 2 = .ok (.istore_n 3, 1) := by decide +kernel
theorem dX8_holeAt_3 : decode cX8_holeAt 3 = .ok (.iconst 0, 1) := by decide +kernel
theorem dX8_holeAt_4 : decode cX8_holeAt 4 = .ok (.istore 4, 2) := by decide +kernel
theorem dX8_holeAt_6 : decode cX8_holeAt 6 = .ok (.iload 4, 2) := by decide +kernel
theorem dX8_holeAt_8 : decode cX8_holeAt 8 = .ok (.aload_n 0, 1) := by decide +kernel
theorem dX8_holeAt_9 : decode cX8_holeAt 9 = .ok (.getfield 7, 3) := by decide +kernel
theorem dX8_holeAt_12 : decode cX8_holeAt 12 = .ok (.bipush 31, 2) := by decide +kernel
theorem dX8_holeAt_14 : decode cX8_holeAt 14 = .ok (.iaload, 1) := by decide +kernel
theorem dX8_holeAt_15 : decode cX8_holeAt 15 = .ok (.if_icmp .ge 50, 3) := by decide +kernel
theorem dX8_holeAt_18 : decode cX8_holeAt 18 = .ok (.aload_n 0, 1) := by decide +kernel
theorem dX8_holeAt_19 : decode cX8_holeAt 19 = .ok (.getfield 7, 3) := by decide +kernel
theorem dX8_holeAt_22 : decode cX8_holeAt 22 = .ok (.bipush 32, 2) := by decide +kernel
theorem dX8_holeAt_24 : decode cX8_holeAt 24 = .ok (.iconst 2, 1) := by decide +kernel
theorem dX8_holeAt_25 : decode cX8_holeAt 25 = .ok (.iload 4, 2) := by decide +kernel
theorem dX8_holeAt_27 : decode cX8_holeAt 27 = .ok (.imul, 1) := by decide +kernel
theorem dX8_holeAt_28 : decode cX8_holeAt 28 = .ok (.iadd, 1) := by decide +kernel
theorem dX8_holeAt_29 : decode cX8_holeAt 29 = .ok (.iaload, 1) := by decide +kernel
theorem dX8_holeAt_30 : decode cX8_holeAt 30 = .ok (.iload_n 1, 1) := by decide +kernel
theorem dX8_holeAt_31 : decode cX8_holeAt 31 = .ok (.if_icmp .ne 26, 3) := by decide +kernel
theorem dX8_holeAt_34 : decode cX8_holeAt 34 = .ok (.aload_n 0, 1) := by decide +kernel
theorem dX8_holeAt_35 : decode cX8_holeAt 35 = .ok (.getfield 7, 3) := by decide +kernel
theorem dX8_holeAt_38 : decode cX8_holeAt 38 = .ok (.bipush 32, 2) := by decide +kernel
theorem dX8_holeAt_40 : decode cX8_holeAt 40 = .ok (.iconst 2, 1) := by decide +kernel
theorem dX8_holeAt_41 : decode cX8_holeAt 41 = .ok (.iload 4, 2) := by decide +kernel
theorem dX8_holeAt_43 : decode cX8_holeAt 43 = .ok (.imul, 1) := by decide +kernel
theorem dX8_holeAt_44 : decode cX8_holeAt 44 = .ok (.iadd, 1) := by decide +kernel
theorem dX8_holeAt_45 : decode cX8_holeAt 45 = .ok (.iconst 1, 1) := by decide +kernel
theorem dX8_holeAt_46 : decode cX8_holeAt 46 = .ok (.iadd, 1) := by decide +kernel
theorem dX8_holeAt_47 : decode cX8_holeAt 47 = .ok (.iaload, 1) := by decide +kernel
theorem dX8_holeAt_48 : decode cX8_holeAt 48 = .ok (.iload_n 2, 1) := by decide +kernel
theorem dX8_holeAt_49 : decode cX8_holeAt 49 = .ok (.if_icmp .ne 8, 3) := by decide +kernel
theorem dX8_holeAt_52 : decode cX8_holeAt 52 = .ok (.iload 4, 2) := by decide +kernel
theorem dX8_holeAt_54 : decode cX8_holeAt 54 = .ok (.goto 4, 3) := by decide +kernel
theorem dX8_holeAt_57 : decode cX8_holeAt 57 = .ok (.iload_n 3, 1) := by decide +kernel
theorem dX8_holeAt_58 : decode cX8_holeAt 58 = .ok (.istore_n 3, 1) := by decide +kernel
theorem dX8_holeAt_59 : decode cX8_holeAt 59 = .ok (.iinc 4 1, 3) := by decide +kernel
theorem dX8_holeAt_62 : decode cX8_holeAt 62 = .ok (.goto (-56), 3) := by decide +kernel
theorem dX8_holeAt_65 : decode cX8_holeAt 65 = .ok (.iload_n 3, 1) := by decide +kernel
theorem dX8_holeAt_66 : decode cX8_holeAt 66 = .ok (.ireturn, 1) := by decide +kernel
theorem dX8_hasHole_0 : decode cX8_hasHole 0 = .ok (.aload_n 0, 1) := by decide +kernel
theorem dX8_hasHole_1 : decode cX8_hasHole 1 = .ok (.aload_n 0, 1) := by decide +kernel
theorem dX8_hasHole_2 : decode cX8_hasHole 2 = .ok (.iload_n 1, 1) := by decide +kernel
theorem dX8_hasHole_3 : decode cX8_hasHole 3 = .ok (.iload_n 2, 1) := by decide +kernel
theorem dX8_hasHole_4 : decode cX8_hasHole 4 = .ok (.invokevirtual 126, 3) := by decide +kernel
theorem dX8_hasHole_7 : decode cX8_hasHole 7 = .ok (.aload_n 0, 1) := by decide +kernel
theorem dX8_hasHole_8 : decode cX8_hasHole 8 = .ok (.iload_n 1, 1) := by decide +kernel
theorem dX8_hasHole_9 : decode cX8_hasHole 9 = .ok (.invokevirtual 129, 3) := by decide +kernel
theorem dX8_hasHole_12 : decode cX8_hasHole 12 = .ok (.invokevirtual 133, 3) := by decide +kernel
theorem dX8_hasHole_15 : decode cX8_hasHole 15 = .ok (.bipush (-9), 2) := by decide +kernel
theorem dX8_hasHole_17 : decode cX8_hasHole 17 = .ok (.if_icmp .eq 7, 3) := by decide +kernel
theorem dX8_hasHole_20 : decode cX8_hasHole 20 = .ok (.iconst 1, 1) := by decide +kernel
theorem dX8_hasHole_21 : decode cX8_hasHole 21 = .ok (.goto 4, 3) := by decide +kernel
theorem dX8_hasHole_24 : decode cX8_hasHole 24 = .ok (.iconst 0, 1) := by decide +kernel
theorem dX8_hasHole_25 : decode cX8_hasHole 25 = .ok (.ireturn, 1) := by decide +kernel
theorem dX8_hangingAt_0 : decode cX8_hangingAt 0 = .ok (.bipush (-9), 2) := by decide +kernel
theorem dX8_hangingAt_2 : decode cX8_hangingAt 2 = .ok (.istore_n 2, 1) := by decide +kernel
theorem dX8_hangingAt_3 : decode cX8_hangingAt 3 = .ok (.iconst 0, 1) := by decide +kernel
theorem dX8_hangingAt_4 : decode cX8_hangingAt 4 = .ok (.istore_n 3, 1) := by decide +kernel
theorem dX8_hangingAt_5 : decode cX8_hangingAt 5 = .ok (.iload_n 3, 1) := by decide +kernel
theorem dX8_hangingAt_6 : decode cX8_hangingAt 6 = .ok (.aload_n 0, 1) := by decide +kernel
theorem dX8_hangingAt_7 : decode cX8_hangingAt 7 = .ok (.getfield 7, 3) := by decide +kernel
theorem dX8_hangingAt_10 : decode cX8_hangingAt 10 = .ok (.iconst 3, 1) := by decide +kernel
theorem dX8_hangingAt_11 : decode cX8_hangingAt 11 = .ok (.iaload, 1) := by decide +kernel
theorem dX8_hangingAt_12 : decode cX8_hangingAt 12 = .ok (.if_icmp .ge 84, 3) := by decide +kernel
theorem dX8_hangingAt_15 : decode cX8_hangingAt 15 = .ok (.aload_n 0, 1) := by decide +kernel
theorem dX8_hangingAt_16 : decode cX8_hangingAt 16 = .ok (.iload_n 3, 1) := by decide +kernel
theorem dX8_hangingAt_17 : decode cX8_hangingAt 17 = .ok (.invokevirtual 122, 3) := by decide +kernel
theorem dX8_hangingAt_20 : decode cX8_hangingAt 20 = .ok (.ifCond .eq 56, 3) := by decide +kernel
theorem dX8_hangingAt_23 : decode cX8_hangingAt 23 = .ok (.aload_n 0, 1) := by decide +kernel
theorem dX8_hangingAt_24 : decode cX8_hangingAt 24 = .ok (.iload_n 3, 1) := by decide +kernel
theorem dX8_hangingAt_25 : decode cX8_hangingAt 25 = .ok (.aload_n 0, 1) := by decide +kernel
theorem dX8_hangingAt_26 : decode cX8_hangingAt 26 = .ok (.getfield 7, 3) := by decide +kernel
theorem dX8_hangingAt_29 : decode cX8_hangingAt 29 = .ok (.bipush 64, 2) := by decide +kernel
theorem dX8_hangingAt_31 : decode cX8_hangingAt 31 = .ok (.iload_n 3, 1) := by decide +kernel
theorem dX8_hangingAt_32 : decode cX8_hangingAt 32 = .ok (.iadd, 1) := by decide +kernel
theorem dX8_hangingAt_33 : decode cX8_hangingAt 33 = .ok (.iaload, 1) := by decide +kernel
theorem dX8_hangingAt_34 : decode cX8_hangingAt 34 = .ok (.invokevirtual 126, 3) := by decide +kernel
theorem dX8_hangingAt_37 : decode cX8_hangingAt 37 = .ok (.aload_n 0, 1) := by decide +kernel
theorem dX8_hangingAt_38 : decode cX8_hangingAt 38 = .ok (.getfield 7, 3) := by decide +kernel
theorem dX8_hangingAt_41 : decode cX8_hangingAt 41 = .ok (.bipush 32, 2) := by decide +kernel
theorem dX8_hangingAt_43 : decode cX8_hangingAt 43 = .ok (.iconst 2, 1) := by decide +kernel
theorem dX8_hangingAt_44 : decode cX8_hangingAt 44 = .ok (.iload_n 1, 1) := by decide +kernel
theorem dX8_hangingAt_45 : decode cX8_hangingAt 45 = .ok (.imul, 1) := by decide +kernel
theorem dX8_hangingAt_46 : decode cX8_hangingAt 46 = .ok (.iadd, 1) := by decide +kernel
theorem dX8_hangingAt_47 : decode cX8_hangingAt 47 = .ok (.iaload, 1) := by decide +kernel
theorem dX8_hangingAt_48 : decode cX8_hangingAt 48 = .ok (.if_icmp .ne 28, 3) := by decide +kernel
theorem dX8_hangingAt_51 : decode cX8_hangingAt 51 = .ok (.aload_n 0, 1) := by decide +kernel
theorem dX8_hangingAt_52 : decode cX8_hangingAt 52 = .ok (.iload_n 3, 1) := by decide +kernel
theorem dX8_hangingAt_53 : decode cX8_hangingAt 53 = .ok (.invokevirtual 129, 3) := by decide +kernel
theorem dX8_hangingAt_56 : decode cX8_hangingAt 56 = .ok (.aload_n 0, 1) := by decide +kernel
theorem dX8_hangingAt_57 : decode cX8_hangingAt 57 = .ok (.getfield 7, 3) := by decide +kernel
theorem dX8_hangingAt_60 : decode cX8_hangingAt 60 = .ok (.bipush 32, 2) := by decide +kernel
theorem dX8_hangingAt_62 : decode cX8_hangingAt 62 = .ok (.iconst 2, 1) := by decide +kernel
theorem dX8_hangingAt_63 : decode cX8_hangingAt 63 = .ok (.iload_n 1, 1) := by decide +kernel
theorem dX8_hangingAt_64 : decode cX8_hangingAt 64 = .ok (.imul, 1) := by decide +kernel
theorem dX8_hangingAt_65 : decode cX8_hangingAt 65 = .ok (.iadd, 1) := by decide +kernel
theorem dX8_hangingAt_66 : decode cX8_hangingAt 66 = .ok (.iconst 1, 1) := by decide +kernel
theorem dX8_hangingAt_67 : decode cX8_hangingAt 67 = .ok (.iadd, 1) := by decide +kernel
theorem dX8_hangingAt_68 : decode cX8_hangingAt 68 = .ok (.iaload, 1) := by decide +kernel
theorem dX8_hangingAt_69 : decode cX8_hangingAt 69 = .ok (.if_icmp .ne 7, 3) := by decide +kernel
theorem dX8_hangingAt_72 : decode cX8_hangingAt 72 = .ok (.iconst 1, 1) := by decide +kernel
theorem dX8_hangingAt_73 : decode cX8_hangingAt 73 = .ok (.goto 4, 3) := by decide +kernel
theorem dX8_hangingAt_76 : decode cX8_hangingAt 76 = .ok (.iconst 0, 1) := by decide +kernel
theorem dX8_hangingAt_77 : decode cX8_hangingAt 77 = .ok (.istore 4, 2) := by decide +kernel
theorem dX8_hangingAt_79 : decode cX8_hangingAt 79 = .ok (.iload 4, 2) := by decide +kernel
theorem dX8_hangingAt_81 : decode cX8_hangingAt 81 = .ok (.ifCond .eq 7, 3) := by decide +kernel
theorem dX8_hangingAt_84 : decode cX8_hangingAt 84 = .ok (.iload_n 3, 1) := by decide +kernel
theorem dX8_hangingAt_85 : decode cX8_hangingAt 85 = .ok (.goto 4, 3) := by decide +kernel
theorem dX8_hangingAt_88 : decode cX8_hangingAt 88 = .ok (.iload_n 2, 1) := by decide +kernel
theorem dX8_hangingAt_89 : decode cX8_hangingAt 89 = .ok (.istore_n 2, 1) := by decide +kernel
theorem dX8_hangingAt_90 : decode cX8_hangingAt 90 = .ok (.iinc 3 1, 3) := by decide +kernel
theorem dX8_hangingAt_93 : decode cX8_hangingAt 93 = .ok (.goto (-88), 3) := by decide +kernel
theorem dX8_hangingAt_96 : decode cX8_hangingAt 96 = .ok (.iload_n 2, 1) := by decide +kernel
theorem dX8_hangingAt_97 : decode cX8_hangingAt 97 = .ok (.ireturn, 1) := by decide +kernel
theorem dX8_hangs_0 : decode cX8_hangs 0 = .ok (.aload_n 0, 1) := by decide +kernel
theorem dX8_hangs_1 : decode cX8_hangs 1 = .ok (.iload_n 1, 1) := by decide +kernel
theorem dX8_hangs_2 : decode cX8_hangs 2 = .ok (.invokevirtual 136, 3) := by decide +kernel
theorem dX8_hangs_5 : decode cX8_hangs 5 = .ok (.ifCond .eq 13, 3) := by decide +kernel
theorem dX8_hangs_8 : decode cX8_hangs 8 = .ok (.iload_n 2, 1) := by decide +kernel
theorem dX8_hangs_9 : decode cX8_hangs 9 = .ok (.iconst 0, 1) := by decide +kernel
theorem dX8_hangs_10 : decode cX8_hangs 10 = .ok (.bipush 39, 2) := by decide +kernel
theorem dX8_hangs_12 : decode cX8_hangs 12 = .ok (.invokestatic 67, 3) := by decide +kernel
theorem dX8_hangs_15 : decode cX8_hangs 15 = .ok (.ifCond .ne 5, 3) := by decide +kernel
theorem dX8_hangs_18 : decode cX8_hangs 18 = .ok (.iconst (-1), 1) := by decide +kernel
theorem dX8_hangs_19 : decode cX8_hangs 19 = .ok (.ireturn, 1) := by decide +kernel
theorem dX8_hangs_20 : decode cX8_hangs 20 = .ok (.aload_n 0, 1) := by decide +kernel
theorem dX8_hangs_21 : decode cX8_hangs 21 = .ok (.iload_n 1, 1) := by decide +kernel
theorem dX8_hangs_22 : decode cX8_hangs 22 = .ok (.invokevirtual 122, 3) := by decide +kernel
theorem dX8_hangs_25 : decode cX8_hangs 25 = .ok (.ifCond .ne 21, 3) := by decide +kernel
theorem dX8_hangs_28 : decode cX8_hangs 28 = .ok (.aload_n 0, 1) := by decide +kernel
theorem dX8_hangs_29 : decode cX8_hangs 29 = .ok (.iload_n 1, 1) := by decide +kernel
theorem dX8_hangs_30 : decode cX8_hangs 30 = .ok (.iload_n 2, 1) := by decide +kernel
theorem dX8_hangs_31 : decode cX8_hangs 31 = .ok (.invokevirtual 139, 3) := by decide +kernel
theorem dX8_hangs_34 : decode cX8_hangs 34 = .ok (.ifCond .eq 12, 3) := by decide +kernel
theorem dX8_hangs_37 : decode cX8_hangs 37 = .ok (.aload_n 0, 1) := by decide +kernel
theorem dX8_hangs_38 : decode cX8_hangs 38 = .ok (.iload_n 1, 1) := by decide +kernel
theorem dX8_hangs_39 : decode cX8_hangs 39 = .ok (.iload_n 2, 1) := by decide +kernel
theorem dX8_hangs_40 : decode cX8_hangs 40 = .ok (.invokevirtual 142, 3) := by decide +kernel
theorem dX8_hangs_43 : decode cX8_hangs 43 = .ok (.ifCond .ne 6, 3) := by decide +kernel
theorem dX8_hangs_46 : decode cX8_hangs 46 = .ok (.bipush (-2), 2) := by decide +kernel
theorem dX8_hangs_48 : decode cX8_hangs 48 = .ok (.ireturn, 1) := by decide +kernel
theorem dX8_hangs_49 : decode cX8_hangs 49 = .ok (.aload_n 0, 1) := by decide +kernel
theorem dX8_hangs_50 : decode cX8_hangs 50 = .ok (.iload_n 1, 1) := by decide +kernel
theorem dX8_hangs_51 : decode cX8_hangs 51 = .ok (.iload_n 2, 1) := by decide +kernel
theorem dX8_hangs_52 : decode cX8_hangs 52 = .ok (.invokevirtual 145, 3) := by decide +kernel
theorem dX8_hangs_55 : decode cX8_hangs 55 = .ok (.ifCond .ne 7, 3) := by decide +kernel
theorem dX8_hangs_58 : decode cX8_hangs 58 = .ok (.iconst 1, 1) := by decide +kernel
theorem dX8_hangs_59 : decode cX8_hangs 59 = .ok (.goto 4, 3) := by decide +kernel
theorem dX8_hangs_62 : decode cX8_hangs 62 = .ok (.iconst 0, 1) := by decide +kernel
theorem dX8_hangs_63 : decode cX8_hangs 63 = .ok (.istore_n 3, 1) := by decide +kernel
theorem dX8_hangs_64 : decode cX8_hangs 64 = .ok (.iload_n 3, 1) := by decide +kernel
theorem dX8_hangs_65 : decode cX8_hangs 65 = .ok (.ifCond .eq 18, 3) := by decide +kernel
theorem dX8_hangs_68 : decode cX8_hangs 68 = .ok (.aload_n 0, 1) := by decide +kernel
theorem dX8_hangs_69 : decode cX8_hangs 69 = .ok (.getfield 7, 3) := by decide +kernel
theorem dX8_hangs_72 : decode cX8_hangs 72 = .ok (.bipush 31, 2) := by decide +kernel
theorem dX8_hangs_74 : decode cX8_hangs 74 = .ok (.iaload, 1) := by decide +kernel
theorem dX8_hangs_75 : decode cX8_hangs 75 = .ok (.bipush 16, 2) := by decide +kernel
theorem dX8_hangs_77 : decode cX8_hangs 77 = .ok (.if_icmp .ne 6, 3) := by decide +kernel
theorem dX8_hangs_80 : decode cX8_hangs 80 = .ok (.bipush (-3), 2) := by decide +kernel
theorem dX8_hangs_82 : decode cX8_hangs 82 = .ok (.ireturn, 1) := by decide +kernel
theorem dX8_hangs_83 : decode cX8_hangs 83 = .ok (.aload_n 0, 1) := by decide +kernel
theorem dX8_hangs_84 : decode cX8_hangs 84 = .ok (.invokevirtual 115, 3) := by decide +kernel
theorem dX8_hangs_87 : decode cX8_hangs 87 = .ok (.aload_n 0, 1) := by decide +kernel
theorem dX8_hangs_88 : decode cX8_hangs 88 = .ok (.getfield 7, 3) := by decide +kernel
theorem dX8_hangs_91 : decode cX8_hangs 91 = .ok (.bipush 64, 2) := by decide +kernel
theorem dX8_hangs_93 : decode cX8_hangs 93 = .ok (.iload_n 1, 1) := by decide +kernel
theorem dX8_hangs_94 : decode cX8_hangs 94 = .ok (.iadd, 1) := by decide +kernel
theorem dX8_hangs_95 : decode cX8_hangs 95 = .ok (.iload_n 2, 1) := by decide +kernel
theorem dX8_hangs_96 : decode cX8_hangs 96 = .ok (.iastore, 1) := by decide +kernel
theorem dX8_hangs_97 : decode cX8_hangs 97 = .ok (.iload_n 3, 1) := by decide +kernel
theorem dX8_hangs_98 : decode cX8_hangs 98 = .ok (.ifCond .eq 55, 3) := by decide +kernel
theorem dX8_hangs_101 : decode cX8_hangs 101 = .ok (.bipush 32, 2) := by decide +kernel
theorem dX8_hangs_103 : decode cX8_hangs 103 = .ok (.iconst 2, 1) := by decide +kernel
theorem dX8_hangs_104 : decode cX8_hangs 104 = .ok (.aload_n 0, 1) := by decide +kernel
theorem dX8_hangs_105 : decode cX8_hangs 105 = .ok (.getfield 7, 3) := by decide +kernel
theorem dX8_hangs_108 : decode cX8_hangs 108 = .ok (.bipush 31, 2) := by decide +kernel
theorem dX8_hangs_110 : decode cX8_hangs 110 = .ok (.iaload, 1) := by decide +kernel
theorem dX8_hangs_111 : decode cX8_hangs 111 = .ok (.imul, 1) := by decide +kernel
theorem dX8_hangs_112 : decode cX8_hangs 112 = .ok (.iadd, 1) := by decide +kernel
theorem dX8_hangs_113 : decode cX8_hangs 113 = .ok (.istore 4, 2) := by decide +kernel
theorem dX8_hangs_115 : decode cX8_hangs 115 = .ok (.aload_n 0, 1) := by decide +kernel
theorem dX8_hangs_116 : decode cX8_hangs 116 = .ok (.getfield 7, 3) := by decide +kernel
theorem dX8_hangs_119 : decode cX8_hangs 119 = .ok (.iload 4, 2) := by decide +kernel
theorem dX8_hangs_121 : decode cX8_hangs 121 = .ok (.aload_n 0, 1) := by decide +kernel
theorem dX8_hangs_122 : decode cX8_hangs 122 = .ok (.iload_n 1, 1) := by decide +kernel
theorem dX8_hangs_123 : decode cX8_hangs 123 = .ok (.iload_n 2, 1) := by decide +kernel
theorem dX8_hangs_124 : decode cX8_hangs 124 = .ok (.invokevirtual 126, 3) := by decide +kernel
theorem dX8_hangs_127 : decode cX8_hangs 127 = .ok (.iastore, 1) := by decide +kernel
theorem dX8_hangs_128 : decode cX8_hangs 128 = .ok (.aload_n 0, 1) := by decide +kernel
theorem dX8_hangs_129 : decode cX8_hangs 129 = .ok (.getfield 7, 3) := by decide +kernel
theorem dX8_hangs_132 : decode cX8_hangs 132 = .ok (.iload 4, 2) := by decide +kernel
theorem dX8_hangs_134 : decode cX8_hangs 134 = .ok (.iconst 1, 1) := by decide +kernel
theorem dX8_hangs_135 : decode cX8_hangs 135 = .ok (.iadd, 1) := by decide +kernel
theorem dX8_hangs_136 : decode cX8_hangs 136 = .ok (.aload_n 0, 1) := by decide +kernel
theorem dX8_hangs_137 : decode cX8_hangs 137 = .ok (.iload_n 1, 1) := by decide +kernel
theorem dX8_hangs_138 : decode cX8_hangs 138 = .ok (.invokevirtual 129, 3) := by decide +kernel
theorem dX8_hangs_141 : decode cX8_hangs 141 = .ok (.iastore, 1) := by decide +kernel
theorem dX8_hangs_142 : decode cX8_hangs 142 = .ok (.aload_n 0, 1) := by decide +kernel
theorem dX8_hangs_143 : decode cX8_hangs 143 = .ok (.getfield 7, 3) := by decide +kernel
theorem dX8_hangs_146 : decode cX8_hangs 146 = .ok (.bipush 31, 2) := by decide +kernel
theorem dX8_hangs_148 : decode cX8_hangs 148 = .ok (.dup2, 1) := by decide +kernel
theorem dX8_hangs_149 : decode cX8_hangs 149 = .ok (.iaload, 1) := by decide +kernel
theorem dX8_hangs_150 : decode cX8_hangs 150 = .ok (.iconst 1, 1) := by decide +kernel
theorem dX8_hangs_151 : decode cX8_hangs 151 = .ok (.iadd, 1) := by decide +kernel
theorem dX8_hangs_152 : decode cX8_hangs 152 = .ok (.iastore, 1) := by decide +kernel
theorem dX8_hangs_153 : decode cX8_hangs 153 = .ok (.iload_n 3, 1) := by decide +kernel
theorem dX8_hangs_154 : decode cX8_hangs 154 = .ok (.ifCond .eq 7, 3) := by decide +kernel
theorem dX8_hangs_157 : decode cX8_hangs 157 = .ok (.iconst 1, 1) := by decide +kernel
theorem dX8_hangs_158 : decode cX8_hangs 158 = .ok (.goto 4, 3) := by decide +kernel
theorem dX8_hangs_161 : decode cX8_hangs 161 = .ok (.iconst 0, 1) := by decide +kernel
theorem dX8_hangs_162 : decode cX8_hangs 162 = .ok (.ireturn, 1) := by decide +kernel
theorem dX8_takes_0 : decode cX8_takes 0 = .ok (.aload_n 0, 1) := by decide +kernel
theorem dX8_takes_1 : decode cX8_takes 1 = .ok (.iload_n 1, 1) := by decide +kernel
theorem dX8_takes_2 : decode cX8_takes 2 = .ok (.invokevirtual 136, 3) := by decide +kernel
theorem dX8_takes_5 : decode cX8_takes 5 = .ok (.ifCond .ne 5, 3) := by decide +kernel
theorem dX8_takes_8 : decode cX8_takes 8 = .ok (.iconst (-1), 1) := by decide +kernel
theorem dX8_takes_9 : decode cX8_takes 9 = .ok (.ireturn, 1) := by decide +kernel
theorem dX8_takes_10 : decode cX8_takes 10 = .ok (.aload_n 0, 1) := by decide +kernel
theorem dX8_takes_11 : decode cX8_takes 11 = .ok (.iload_n 1, 1) := by decide +kernel
theorem dX8_takes_12 : decode cX8_takes 12 = .ok (.invokevirtual 122, 3) := by decide +kernel
theorem dX8_takes_15 : decode cX8_takes 15 = .ok (.ifCond .ne 6, 3) := by decide +kernel
theorem dX8_takes_18 : decode cX8_takes 18 = .ok (.bipush (-2), 2) := by decide +kernel
theorem dX8_takes_20 : decode cX8_takes 20 = .ok (.ireturn, 1) := by decide +kernel
theorem dX8_takes_21 : decode cX8_takes 21 = .ok (.aload_n 0, 1) := by decide +kernel
theorem dX8_takes_22 : decode cX8_takes 22 = .ok (.invokevirtual 115, 3) := by decide +kernel
theorem dX8_takes_25 : decode cX8_takes 25 = .ok (.aload_n 0, 1) := by decide +kernel
theorem dX8_takes_26 : decode cX8_takes 26 = .ok (.getfield 7, 3) := by decide +kernel
theorem dX8_takes_29 : decode cX8_takes 29 = .ok (.bipush 64, 2) := by decide +kernel
theorem dX8_takes_31 : decode cX8_takes 31 = .ok (.iload_n 1, 1) := by decide +kernel
theorem dX8_takes_32 : decode cX8_takes 32 = .ok (.iadd, 1) := by decide +kernel
theorem dX8_takes_33 : decode cX8_takes 33 = .ok (.iaload, 1) := by decide +kernel
theorem dX8_takes_34 : decode cX8_takes 34 = .ok (.istore_n 2, 1) := by decide +kernel
theorem dX8_takes_35 : decode cX8_takes 35 = .ok (.aload_n 0, 1) := by decide +kernel
theorem dX8_takes_36 : decode cX8_takes 36 = .ok (.getfield 7, 3) := by decide +kernel
theorem dX8_takes_39 : decode cX8_takes 39 = .ok (.bipush 64, 2) := by decide +kernel
theorem dX8_takes_41 : decode cX8_takes 41 = .ok (.iload_n 1, 1) := by decide +kernel
theorem dX8_takes_42 : decode cX8_takes 42 = .ok (.iadd, 1) := by decide +kernel
theorem dX8_takes_43 : decode cX8_takes 43 = .ok (.bipush (-9), 2) := by decide +kernel
theorem dX8_takes_45 : decode cX8_takes 45 = .ok (.iastore, 1) := by decide +kernel
theorem dX8_takes_46 : decode cX8_takes 46 = .ok (.iload_n 2, 1) := by decide +kernel
theorem dX8_takes_47 : decode cX8_takes 47 = .ok (.ireturn, 1) := by decide +kernel
theorem dX8_isHole_0 : decode cX8_isHole 0 = .ok (.iload_n 1, 1) := by decide +kernel
theorem dX8_isHole_1 : decode cX8_isHole 1 = .ok (.iconst 0, 1) := by decide +kernel
theorem dX8_isHole_2 : decode cX8_isHole 2 = .ok (.aload_n 0, 1) := by decide +kernel
theorem dX8_isHole_3 : decode cX8_isHole 3 = .ok (.getfield 7, 3) := by decide +kernel
theorem dX8_isHole_6 : decode cX8_isHole 6 = .ok (.bipush 31, 2) := by decide +kernel
theorem dX8_isHole_8 : decode cX8_isHole 8 = .ok (.iaload, 1) := by decide +kernel
theorem dX8_isHole_9 : decode cX8_isHole 9 = .ok (.iconst 1, 1) := by decide +kernel
theorem dX8_isHole_10 : decode cX8_isHole 10 = .ok (.isub, 1) := by decide +kernel
theorem dX8_isHole_11 : decode cX8_isHole 11 = .ok (.invokestatic 67, 3) := by decide +kernel
theorem dX8_isHole_14 : decode cX8_isHole 14 = .ok (.ireturn, 1) := by decide +kernel
theorem dX8_fills_0 : decode cX8_fills 0 = .ok (.aload_n 0, 1) := by decide +kernel
theorem dX8_fills_1 : decode cX8_fills 1 = .ok (.iload_n 1, 1) := by decide +kernel
theorem dX8_fills_2 : decode cX8_fills 2 = .ok (.invokevirtual 148, 3) := by decide +kernel
theorem dX8_fills_5 : decode cX8_fills 5 = .ok (.ifCond .ne 5, 3) := by decide +kernel
theorem dX8_fills_8 : decode cX8_fills 8 = .ok (.iconst (-1), 1) := by decide +kernel
theorem dX8_fills_9 : decode cX8_fills 9 = .ok (.ireturn, 1) := by decide +kernel
theorem dX8_fills_10 : decode cX8_fills 10 = .ok (.aload_n 0, 1) := by decide +kernel
theorem dX8_fills_11 : decode cX8_fills 11 = .ok (.iload_n 1, 1) := by decide +kernel
theorem dX8_fills_12 : decode cX8_fills 12 = .ok (.invokevirtual 151, 3) := by decide +kernel
theorem dX8_fills_15 : decode cX8_fills 15 = .ok (.bipush (-9), 2) := by decide +kernel
theorem dX8_fills_17 : decode cX8_fills 17 = .ok (.if_icmp .eq 6, 3) := by decide +kernel
theorem dX8_fills_20 : decode cX8_fills 20 = .ok (.bipush (-2), 2) := by decide +kernel
theorem dX8_fills_22 : decode cX8_fills 22 = .ok (.ireturn, 1) := by decide +kernel
theorem dX8_fills_23 : decode cX8_fills 23 = .ok (.aload_n 0, 1) := by decide +kernel
theorem dX8_fills_24 : decode cX8_fills 24 = .ok (.invokevirtual 115, 3) := by decide +kernel
theorem dX8_fills_27 : decode cX8_fills 27 = .ok (.aload_n 0, 1) := by decide +kernel
theorem dX8_fills_28 : decode cX8_fills 28 = .ok (.getfield 7, 3) := by decide +kernel
theorem dX8_fills_31 : decode cX8_fills 31 = .ok (.bipush 31, 2) := by decide +kernel
theorem dX8_fills_33 : decode cX8_fills 33 = .ok (.dup2, 1) := by decide +kernel
theorem dX8_fills_34 : decode cX8_fills 34 = .ok (.iaload, 1) := by decide +kernel
theorem dX8_fills_35 : decode cX8_fills 35 = .ok (.iconst 1, 1) := by decide +kernel
theorem dX8_fills_36 : decode cX8_fills 36 = .ok (.isub, 1) := by decide +kernel
theorem dX8_fills_37 : decode cX8_fills 37 = .ok (.iastore, 1) := by decide +kernel
theorem dX8_fills_38 : decode cX8_fills 38 = .ok (.bipush 32, 2) := by decide +kernel
theorem dX8_fills_40 : decode cX8_fills 40 = .ok (.iconst 2, 1) := by decide +kernel
theorem dX8_fills_41 : decode cX8_fills 41 = .ok (.iload_n 1, 1) := by decide +kernel
theorem dX8_fills_42 : decode cX8_fills 42 = .ok (.imul, 1) := by decide +kernel
theorem dX8_fills_43 : decode cX8_fills 43 = .ok (.iadd, 1) := by decide +kernel
theorem dX8_fills_44 : decode cX8_fills 44 = .ok (.istore_n 2, 1) := by decide +kernel
theorem dX8_fills_45 : decode cX8_fills 45 = .ok (.iload_n 2, 1) := by decide +kernel
theorem dX8_fills_46 : decode cX8_fills 46 = .ok (.bipush 32, 2) := by decide +kernel
theorem dX8_fills_48 : decode cX8_fills 48 = .ok (.iconst 2, 1) := by decide +kernel
theorem dX8_fills_49 : decode cX8_fills 49 = .ok (.aload_n 0, 1) := by decide +kernel
theorem dX8_fills_50 : decode cX8_fills 50 = .ok (.getfield 7, 3) := by decide +kernel
theorem dX8_fills_53 : decode cX8_fills 53 = .ok (.bipush 31, 2) := by decide +kernel
theorem dX8_fills_55 : decode cX8_fills 55 = .ok (.iaload, 1) := by decide +kernel
theorem dX8_fills_56 : decode cX8_fills 56 = .ok (.imul, 1) := by decide +kernel
theorem dX8_fills_57 : decode cX8_fills 57 = .ok (.iadd, 1) := by decide +kernel
theorem dX8_fills_58 : decode cX8_fills 58 = .ok (.if_icmp .ge 23, 3) := by decide +kernel
theorem dX8_fills_61 : decode cX8_fills 61 = .ok (.aload_n 0, 1) := by decide +kernel
theorem dX8_fills_62 : decode cX8_fills 62 = .ok (.getfield 7, 3) := by decide +kernel
theorem dX8_fills_65 : decode cX8_fills 65 = .ok (.iload_n 2, 1) := by decide +kernel
theorem dX8_fills_66 : decode cX8_fills 66 = .ok (.aload_n 0, 1) := by decide +kernel
theorem dX8_fills_67 : decode cX8_fills 67 = .ok (.getfield 7, 3) := by decide +kernel
theorem dX8_fills_70 : decode cX8_fills 70 = .ok (.iload_n 2, 1) := by decide +kernel
theorem dX8_fills_71 : decode cX8_fills 71 = .ok (.iconst 2, 1) := by decide +kernel
theorem dX8_fills_72 : decode cX8_fills 72 = .ok (.iadd, 1) := by decide +kernel
theorem dX8_fills_73 : decode cX8_fills 73 = .ok (.iaload, 1) := by decide +kernel
theorem dX8_fills_74 : decode cX8_fills 74 = .ok (.iastore, 1) := by decide +kernel
theorem dX8_fills_75 : decode cX8_fills 75 = .ok (.iinc 2 1, 3) := by decide +kernel
theorem dX8_fills_78 : decode cX8_fills 78 = .ok (.goto (-33), 3) := by decide +kernel
theorem dX8_fills_81 : decode cX8_fills 81 = .ok (.aload_n 0, 1) := by decide +kernel
theorem dX8_fills_82 : decode cX8_fills 82 = .ok (.getfield 7, 3) := by decide +kernel
theorem dX8_fills_85 : decode cX8_fills 85 = .ok (.bipush 31, 2) := by decide +kernel
theorem dX8_fills_87 : decode cX8_fills 87 = .ok (.iaload, 1) := by decide +kernel
theorem dX8_fills_88 : decode cX8_fills 88 = .ok (.ireturn, 1) := by decide +kernel
theorem dX8_lines_0 : decode cX8_lines 0 = .ok (.iload_n 1, 1) := by decide +kernel
theorem dX8_lines_1 : decode cX8_lines 1 = .ok (.iconst 5, 1) := by decide +kernel
theorem dX8_lines_2 : decode cX8_lines 2 = .ok (.bipush 20, 2) := by decide +kernel
theorem dX8_lines_4 : decode cX8_lines 4 = .ok (.invokestatic 67, 3) := by decide +kernel
theorem dX8_lines_7 : decode cX8_lines 7 = .ok (.ifCond .ne 5, 3) := by decide +kernel
theorem dX8_lines_10 : decode cX8_lines 10 = .ok (.iconst (-1), 1) := by decide +kernel
theorem dX8_lines_11 : decode cX8_lines 11 = .ok (.ireturn, 1) := by decide +kernel
theorem dX8_lines_12 : decode cX8_lines 12 = .ok (.aload_n 0, 1) := by decide +kernel
theorem dX8_lines_13 : decode cX8_lines 13 = .ok (.getfield 7, 3) := by decide +kernel
theorem dX8_lines_16 : decode cX8_lines 16 = .ok (.iconst 1, 1) := by decide +kernel
theorem dX8_lines_17 : decode cX8_lines 17 = .ok (.iaload, 1) := by decide +kernel
theorem dX8_lines_18 : decode cX8_lines 18 = .ok (.istore_n 2, 1) := by decide +kernel
theorem dX8_lines_19 : decode cX8_lines 19 = .ok (.iload_n 2, 1) := by decide +kernel
theorem dX8_lines_20 : decode cX8_lines 20 = .ok (.iload_n 1, 1) := by decide +kernel
theorem dX8_lines_21 : decode cX8_lines 21 = .ok (.if_icmp .ne 6, 3) := by decide +kernel
theorem dX8_lines_24 : decode cX8_lines 24 = .ok (.bipush (-2), 2) := by decide +kernel
theorem dX8_lines_26 : decode cX8_lines 26 = .ok (.ireturn, 1) := by decide +kernel
theorem dX8_lines_27 : decode cX8_lines 27 = .ok (.aload_n 0, 1) := by decide +kernel
theorem dX8_lines_28 : decode cX8_lines 28 = .ok (.invokevirtual 115, 3) := by decide +kernel
theorem dX8_lines_31 : decode cX8_lines 31 = .ok (.aload_n 0, 1) := by decide +kernel
theorem dX8_lines_32 : decode cX8_lines 32 = .ok (.getfield 7, 3) := by decide +kernel
theorem dX8_lines_35 : decode cX8_lines 35 = .ok (.iconst 1, 1) := by decide +kernel
theorem dX8_lines_36 : decode cX8_lines 36 = .ok (.iload_n 1, 1) := by decide +kernel
theorem dX8_lines_37 : decode cX8_lines 37 = .ok (.iastore, 1) := by decide +kernel
theorem dX8_lines_38 : decode cX8_lines 38 = .ok (.iconst 0, 1) := by decide +kernel
theorem dX8_lines_39 : decode cX8_lines 39 = .ok (.istore_n 3, 1) := by decide +kernel
theorem dX8_lines_40 : decode cX8_lines 40 = .ok (.iload_n 3, 1) := by decide +kernel
theorem dX8_lines_41 : decode cX8_lines 41 = .ok (.iconst 5, 1) := by decide +kernel
theorem dX8_lines_42 : decode cX8_lines 42 = .ok (.if_icmp .ge 20, 3) := by decide +kernel
theorem dX8_lines_45 : decode cX8_lines 45 = .ok (.aload_n 0, 1) := by decide +kernel
theorem dX8_lines_46 : decode cX8_lines 46 = .ok (.getfield 7, 3) := by decide +kernel
theorem dX8_lines_49 : decode cX8_lines 49 = .ok (.bipush 64, 2) := by decide +kernel
theorem dX8_lines_51 : decode cX8_lines 51 = .ok (.iload_n 3, 1) := by decide +kernel
theorem dX8_lines_52 : decode cX8_lines 52 = .ok (.iadd, 1) := by decide +kernel
theorem dX8_lines_53 : decode cX8_lines 53 = .ok (.bipush (-9), 2) := by decide +kernel
theorem dX8_lines_55 : decode cX8_lines 55 = .ok (.iastore, 1) := by decide +kernel
theorem dX8_lines_56 : decode cX8_lines 56 = .ok (.iinc 3 1, 3) := by decide +kernel
theorem dX8_lines_59 : decode cX8_lines 59 = .ok (.goto (-19), 3) := by decide +kernel
theorem dX8_lines_62 : decode cX8_lines 62 = .ok (.iload_n 2, 1) := by decide +kernel
theorem dX8_lines_63 : decode cX8_lines 63 = .ok (.ireturn, 1) := by decide +kernel
theorem dX8_undo_0 : decode cX8_undo 0 = .ok (.aload_n 0, 1) := by decide +kernel
theorem dX8_undo_1 : decode cX8_undo 1 = .ok (.getfield 108, 3) := by decide +kernel
theorem dX8_undo_4 : decode cX8_undo 4 = .ok (.ifCond .ne 6, 3) := by decide +kernel
theorem dX8_undo_7 : decode cX8_undo 7 = .ok (.bipush (-2), 2) := by decide +kernel
