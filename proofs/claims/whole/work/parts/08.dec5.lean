theorem dX8_undo_9 : decode cX8_undo 9 = .ok (.ireturn, 1) := by decide +kernel
theorem dX8_undo_10 : decode cX8_undo 10 = .ok (.aload_n 0, 1) := by decide +kernel
theorem dX8_undo_11 : decode cX8_undo 11 = .ok (.dup, 1) := by decide +kernel
theorem dX8_undo_12 : decode cX8_undo 12 = .ok (.getfield 108, 3) := by decide +kernel
theorem dX8_undo_15 : decode cX8_undo 15 = .ok (.iconst 1, 1) := by decide +kernel
theorem dX8_undo_16 : decode cX8_undo 16 = .ok (.isub, 1) := by decide +kernel
theorem dX8_undo_17 : decode cX8_undo 17 = .ok (.putfield 108, 3) := by decide +kernel
theorem dX8_undo_20 : decode cX8_undo 20 = .ok (.iconst 0, 1) := by decide +kernel
theorem dX8_undo_21 : decode cX8_undo 21 = .ok (.istore_n 1, 1) := by decide +kernel
theorem dX8_undo_22 : decode cX8_undo 22 = .ok (.iload_n 1, 1) := by decide +kernel
theorem dX8_undo_23 : decode cX8_undo 23 = .ok (.bipush 69, 2) := by decide +kernel
theorem dX8_undo_25 : decode cX8_undo 25 = .ok (.if_icmp .ge 29, 3) := by decide +kernel
theorem dX8_undo_28 : decode cX8_undo 28 = .ok (.aload_n 0, 1) := by decide +kernel
theorem dX8_undo_29 : decode cX8_undo 29 = .ok (.getfield 7, 3) := by decide +kernel
theorem dX8_undo_32 : decode cX8_undo 32 = .ok (.iload_n 1, 1) := by decide +kernel
theorem dX8_undo_33 : decode cX8_undo 33 = .ok (.aload_n 0, 1) := by decide +kernel
theorem dX8_undo_34 : decode cX8_undo 34 = .ok (.getfield 16, 3) := by decide +kernel
theorem dX8_undo_37 : decode cX8_undo 37 = .ok (.bipush 69, 2) := by decide +kernel
theorem dX8_undo_39 : decode cX8_undo 39 = .ok (.aload_n 0, 1) := by decide +kernel
theorem dX8_undo_40 : decode cX8_undo 40 = .ok (.getfield 108, 3) := by decide +kernel
theorem dX8_undo_43 : decode cX8_undo 43 = .ok (.imul, 1) := by decide +kernel
theorem dX8_undo_44 : decode cX8_undo 44 = .ok (.iload_n 1, 1) := by decide +kernel
theorem dX8_undo_45 : decode cX8_undo 45 = .ok (.iadd, 1) := by decide +kernel
theorem dX8_undo_46 : decode cX8_undo 46 = .ok (.iaload, 1) := by decide +kernel
theorem dX8_undo_47 : decode cX8_undo 47 = .ok (.iastore, 1) := by decide +kernel
theorem dX8_undo_48 : decode cX8_undo 48 = .ok (.iinc 1 1, 3) := by decide +kernel
theorem dX8_undo_51 : decode cX8_undo 51 = .ok (.goto (-29), 3) := by decide +kernel
theorem dX8_undo_54 : decode cX8_undo 54 = .ok (.aload_n 0, 1) := by decide +kernel
theorem dX8_undo_55 : decode cX8_undo 55 = .ok (.getfield 108, 3) := by decide +kernel
theorem dX8_undo_58 : decode cX8_undo 58 = .ok (.ireturn, 1) := by decide +kernel
theorem dX8_picture_0 : decode cX8_picture 0 = .ok (.aload_n 0, 1) := by decide +kernel
theorem dX8_picture_1 : decode cX8_picture 1 = .ok (.iload_n 1, 1) := by decide +kernel
theorem dX8_picture_2 : decode cX8_picture 2 = .ok (.invokevirtual 136, 3) := by decide +kernel
theorem dX8_picture_5 : decode cX8_picture 5 = .ok (.ifCond .eq 12, 3) := by decide +kernel
theorem dX8_picture_8 : decode cX8_picture 8 = .ok (.iload_n 2, 1) := by decide +kernel
theorem dX8_picture_9 : decode cX8_picture 9 = .ok (.iconst 0, 1) := by decide +kernel
theorem dX8_picture_10 : decode cX8_picture 10 = .ok (.iconst 5, 1) := by decide +kernel
theorem dX8_picture_11 : decode cX8_picture 11 = .ok (.invokestatic 67, 3) := by decide +kernel
theorem dX8_picture_14 : decode cX8_picture 14 = .ok (.ifCond .ne 6, 3) := by decide +kernel
theorem dX8_picture_17 : decode cX8_picture 17 = .ok (.ldc 154, 2) := by decide +kernel
theorem dX8_picture_19 : decode cX8_picture 19 = .ok (.ireturn, 1) := by decide +kernel
theorem dX8_picture_20 : decode cX8_picture 20 = .ok (.iload_n 2, 1) := by decide +kernel
theorem dX8_picture_21 : decode cX8_picture 21 = .ok (.iconst 4, 1) := by decide +kernel
theorem dX8_picture_22 : decode cX8_picture 22 = .ok (.if_icmp .ge 12, 3) := by decide +kernel
theorem dX8_picture_25 : decode cX8_picture 25 = .ok (.aload_n 0, 1) := by decide +kernel
theorem dX8_picture_26 : decode cX8_picture 26 = .ok (.iload_n 1, 1) := by decide +kernel
theorem dX8_picture_27 : decode cX8_picture 27 = .ok (.iload_n 2, 1) := by decide +kernel
theorem dX8_picture_28 : decode cX8_picture 28 = .ok (.invokevirtual 118, 3) := by decide +kernel
theorem dX8_picture_31 : decode cX8_picture 31 = .ok (.goto 25, 3) := by decide +kernel
theorem dX8_picture_34 : decode cX8_picture 34 = .ok (.iload_n 2, 1) := by decide +kernel
theorem dX8_picture_35 : decode cX8_picture 35 = .ok (.iconst 4, 1) := by decide +kernel
theorem dX8_picture_36 : decode cX8_picture 36 = .ok (.if_icmp .ne 15, 3) := by decide +kernel
theorem dX8_picture_39 : decode cX8_picture 39 = .ok (.aload_n 0, 1) := by decide +kernel
theorem dX8_picture_40 : decode cX8_picture 40 = .ok (.getfield 7, 3) := by decide +kernel
theorem dX8_picture_43 : decode cX8_picture 43 = .ok (.bipush 64, 2) := by decide +kernel
theorem dX8_picture_45 : decode cX8_picture 45 = .ok (.iload_n 1, 1) := by decide +kernel
theorem dX8_picture_46 : decode cX8_picture 46 = .ok (.iadd, 1) := by decide +kernel
theorem dX8_picture_47 : decode cX8_picture 47 = .ok (.iaload, 1) := by decide +kernel
theorem dX8_picture_48 : decode cX8_picture 48 = .ok (.goto 8, 3) := by decide +kernel
theorem dX8_picture_51 : decode cX8_picture 51 = .ok (.aload_n 0, 1) := by decide +kernel
theorem dX8_picture_52 : decode cX8_picture 52 = .ok (.iload_n 1, 1) := by decide +kernel
theorem dX8_picture_53 : decode cX8_picture 53 = .ok (.invokevirtual 129, 3) := by decide +kernel
theorem dX8_picture_56 : decode cX8_picture 56 = .ok (.ireturn, 1) := by decide +kernel
theorem dX8_hole_0 : decode cX8_hole 0 = .ok (.aload_n 0, 1) := by decide +kernel
theorem dX8_hole_1 : decode cX8_hole 1 = .ok (.iload_n 1, 1) := by decide +kernel
theorem dX8_hole_2 : decode cX8_hole 2 = .ok (.invokevirtual 148, 3) := by decide +kernel
theorem dX8_hole_5 : decode cX8_hole 5 = .ok (.ifCond .eq 12, 3) := by decide +kernel
theorem dX8_hole_8 : decode cX8_hole 8 = .ok (.iload_n 2, 1) := by decide +kernel
theorem dX8_hole_9 : decode cX8_hole 9 = .ok (.iconst 0, 1) := by decide +kernel
theorem dX8_hole_10 : decode cX8_hole 10 = .ok (.iconst 2, 1) := by decide +kernel
theorem dX8_hole_11 : decode cX8_hole 11 = .ok (.invokestatic 67, 3) := by decide +kernel
theorem dX8_hole_14 : decode cX8_hole 14 = .ok (.ifCond .ne 6, 3) := by decide +kernel
theorem dX8_hole_17 : decode cX8_hole 17 = .ok (.ldc 154, 2) := by decide +kernel
theorem dX8_hole_19 : decode cX8_hole 19 = .ok (.ireturn, 1) := by decide +kernel
theorem dX8_hole_20 : decode cX8_hole 20 = .ok (.iload_n 2, 1) := by decide +kernel
theorem dX8_hole_21 : decode cX8_hole 21 = .ok (.iconst 2, 1) := by decide +kernel
theorem dX8_hole_22 : decode cX8_hole 22 = .ok (.if_icmp .ge 19, 3) := by decide +kernel
theorem dX8_hole_25 : decode cX8_hole 25 = .ok (.aload_n 0, 1) := by decide +kernel
theorem dX8_hole_26 : decode cX8_hole 26 = .ok (.getfield 7, 3) := by decide +kernel
theorem dX8_hole_29 : decode cX8_hole 29 = .ok (.bipush 32, 2) := by decide +kernel
theorem dX8_hole_31 : decode cX8_hole 31 = .ok (.iconst 2, 1) := by decide +kernel
theorem dX8_hole_32 : decode cX8_hole 32 = .ok (.iload_n 1, 1) := by decide +kernel
theorem dX8_hole_33 : decode cX8_hole 33 = .ok (.imul, 1) := by decide +kernel
theorem dX8_hole_34 : decode cX8_hole 34 = .ok (.iadd, 1) := by decide +kernel
theorem dX8_hole_35 : decode cX8_hole 35 = .ok (.iload_n 2, 1) := by decide +kernel
theorem dX8_hole_36 : decode cX8_hole 36 = .ok (.iadd, 1) := by decide +kernel
theorem dX8_hole_37 : decode cX8_hole 37 = .ok (.iaload, 1) := by decide +kernel
theorem dX8_hole_38 : decode cX8_hole 38 = .ok (.goto 8, 3) := by decide +kernel
theorem dX8_hole_41 : decode cX8_hole 41 = .ok (.aload_n 0, 1) := by decide +kernel
theorem dX8_hole_42 : decode cX8_hole 42 = .ok (.iload_n 1, 1) := by decide +kernel
theorem dX8_hole_43 : decode cX8_hole 43 = .ok (.invokevirtual 151, 3) := by decide +kernel
theorem dX8_hole_46 : decode cX8_hole 46 = .ok (.ireturn, 1) := by decide +kernel
theorem dX8_door_0 : decode cX8_door 0 = .ok (.iload_n 1, 1) := by decide +kernel
theorem dX8_door_1 : decode cX8_door 1 = .ok (.iconst 0, 1) := by decide +kernel
theorem dX8_door_2 : decode cX8_door 2 = .ok (.aload_n 0, 1) := by decide +kernel
theorem dX8_door_3 : decode cX8_door 3 = .ok (.getfield 7, 3) := by decide +kernel
theorem dX8_door_6 : decode cX8_door 6 = .ok (.bipush 24, 2) := by decide +kernel
theorem dX8_door_8 : decode cX8_door 8 = .ok (.iaload, 1) := by decide +kernel
theorem dX8_door_9 : decode cX8_door 9 = .ok (.iconst 1, 1) := by decide +kernel
theorem dX8_door_10 : decode cX8_door 10 = .ok (.isub, 1) := by decide +kernel
theorem dX8_door_11 : decode cX8_door 11 = .ok (.invokestatic 67, 3) := by decide +kernel
theorem dX8_door_14 : decode cX8_door 14 = .ok (.ifCond .eq 28, 3) := by decide +kernel
theorem dX8_door_17 : decode cX8_door 17 = .ok (.iload_n 2, 1) := by decide +kernel
theorem dX8_door_18 : decode cX8_door 18 = .ok (.iconst 0, 1) := by decide +kernel
theorem dX8_door_19 : decode cX8_door 19 = .ok (.iconst 1, 1) := by decide +kernel
theorem dX8_door_20 : decode cX8_door 20 = .ok (.invokestatic 67, 3) := by decide +kernel
theorem dX8_door_23 : decode cX8_door 23 = .ok (.ifCond .eq 19, 3) := by decide +kernel
theorem dX8_door_26 : decode cX8_door 26 = .ok (.aload_n 0, 1) := by decide +kernel
theorem dX8_door_27 : decode cX8_door 27 = .ok (.getfield 7, 3) := by decide +kernel
theorem dX8_door_30 : decode cX8_door 30 = .ok (.bipush 25, 2) := by decide +kernel
theorem dX8_door_32 : decode cX8_door 32 = .ok (.iconst 2, 1) := by decide +kernel
theorem dX8_door_33 : decode cX8_door 33 = .ok (.iload_n 1, 1) := by decide +kernel
theorem dX8_door_34 : decode cX8_door 34 = .ok (.imul, 1) := by decide +kernel
theorem dX8_door_35 : decode cX8_door 35 = .ok (.iadd, 1) := by decide +kernel
theorem dX8_door_36 : decode cX8_door 36 = .ok (.iload_n 2, 1) := by decide +kernel
theorem dX8_door_37 : decode cX8_door 37 = .ok (.iadd, 1) := by decide +kernel
theorem dX8_door_38 : decode cX8_door 38 = .ok (.iaload, 1) := by decide +kernel
theorem dX8_door_39 : decode cX8_door 39 = .ok (.goto 4, 3) := by decide +kernel
theorem dX8_door_42 : decode cX8_door 42 = .ok (.iconst (-1), 1) := by decide +kernel
theorem dX8_door_43 : decode cX8_door 43 = .ok (.ireturn, 1) := by decide +kernel
theorem dX8_leanOf_0 : decode cX8_leanOf 0 = .ok (.aload_n 0, 1) := by decide +kernel
theorem dX8_leanOf_1 : decode cX8_leanOf 1 = .ok (.iload_n 1, 1) := by decide +kernel
theorem dX8_leanOf_2 : decode cX8_leanOf 2 = .ok (.iconst 3, 1) := by decide +kernel
theorem dX8_leanOf_3 : decode cX8_leanOf 3 = .ok (.invokevirtual 118, 3) := by decide +kernel
theorem dX8_leanOf_6 : decode cX8_leanOf 6 = .ok (.aload_n 0, 1) := by decide +kernel
theorem dX8_leanOf_7 : decode cX8_leanOf 7 = .ok (.iload_n 1, 1) := by decide +kernel
theorem dX8_leanOf_8 : decode cX8_leanOf 8 = .ok (.iload_n 2, 1) := by decide +kernel
theorem dX8_leanOf_9 : decode cX8_leanOf 9 = .ok (.invokevirtual 126, 3) := by decide +kernel
theorem dX8_leanOf_12 : decode cX8_leanOf 12 = .ok (.aload_n 0, 1) := by decide +kernel
theorem dX8_leanOf_13 : decode cX8_leanOf 13 = .ok (.getfield 7, 3) := by decide +kernel
theorem dX8_leanOf_16 : decode cX8_leanOf 16 = .ok (.iconst 0, 1) := by decide +kernel
theorem dX8_leanOf_17 : decode cX8_leanOf 17 = .ok (.iaload, 1) := by decide +kernel
theorem dX8_leanOf_18 : decode cX8_leanOf 18 = .ok (.isub, 1) := by decide +kernel
theorem dX8_leanOf_19 : decode cX8_leanOf 19 = .ok (.imul, 1) := by decide +kernel
theorem dX8_leanOf_20 : decode cX8_leanOf 20 = .ok (.ireturn, 1) := by decide +kernel
theorem dX8_momentNow_0 : decode cX8_momentNow 0 = .ok (.iconst 0, 1) := by decide +kernel
theorem dX8_momentNow_1 : decode cX8_momentNow 1 = .ok (.istore_n 1, 1) := by decide +kernel
theorem dX8_momentNow_2 : decode cX8_momentNow 2 = .ok (.iconst 0, 1) := by decide +kernel
theorem dX8_momentNow_3 : decode cX8_momentNow 3 = .ok (.istore_n 2, 1) := by decide +kernel
theorem dX8_momentNow_4 : decode cX8_momentNow 4 = .ok (.iload_n 2, 1) := by decide +kernel
theorem dX8_momentNow_5 : decode cX8_momentNow 5 = .ok (.aload_n 0, 1) := by decide +kernel
theorem dX8_momentNow_6 : decode cX8_momentNow 6 = .ok (.getfield 7, 3) := by decide +kernel
theorem dX8_momentNow_9 : decode cX8_momentNow 9 = .ok (.iconst 3, 1) := by decide +kernel
theorem dX8_momentNow_10 : decode cX8_momentNow 10 = .ok (.iaload, 1) := by decide +kernel
theorem dX8_momentNow_11 : decode cX8_momentNow 11 = .ok (.if_icmp .ge 38, 3) := by decide +kernel
theorem dX8_momentNow_14 : decode cX8_momentNow 14 = .ok (.iload_n 1, 1) := by decide +kernel
theorem dX8_momentNow_15 : decode cX8_momentNow 15 = .ok (.aload_n 0, 1) := by decide +kernel
theorem dX8_momentNow_16 : decode cX8_momentNow 16 = .ok (.iload_n 2, 1) := by decide +kernel
theorem dX8_momentNow_17 : decode cX8_momentNow 17 = .ok (.invokevirtual 122, 3) := by decide +kernel
theorem dX8_momentNow_20 : decode cX8_momentNow 20 = .ok (.ifCond .eq 20, 3) := by decide +kernel
theorem dX8_momentNow_23 : decode cX8_momentNow 23 = .ok (.aload_n 0, 1) := by decide +kernel
theorem dX8_momentNow_24 : decode cX8_momentNow 24 = .ok (.iload_n 2, 1) := by decide +kernel
theorem dX8_momentNow_25 : decode cX8_momentNow 25 = .ok (.aload_n 0, 1) := by decide +kernel
theorem dX8_momentNow_26 : decode cX8_momentNow 26 = .ok (.getfield 7, 3) := by decide +kernel
theorem dX8_momentNow_29 : decode cX8_momentNow 29 = .ok (.bipush 64, 2) := by decide +kernel
theorem dX8_momentNow_31 : decode cX8_momentNow 31 = .ok (.iload_n 2, 1) := by decide +kernel
theorem dX8_momentNow_32 : decode cX8_momentNow 32 = .ok (.iadd, 1) := by decide +kernel
theorem dX8_momentNow_33 : decode cX8_momentNow 33 = .ok (.iaload, 1) := by decide +kernel
theorem dX8_momentNow_34 : decode cX8_momentNow 34 = .ok (.invokevirtual 155, 3) := by decide +kernel
theorem dX8_momentNow_37 : decode cX8_momentNow 37 = .ok (.goto 4, 3) := by decide +kernel
theorem dX8_momentNow_40 : decode cX8_momentNow 40 = .ok (.iconst 0, 1) := by decide +kernel
theorem dX8_momentNow_41 : decode cX8_momentNow 41 = .ok (.iadd, 1) := by decide +kernel
theorem dX8_momentNow_42 : decode cX8_momentNow 42 = .ok (.istore_n 1, 1) := by decide +kernel
theorem dX8_momentNow_43 : decode cX8_momentNow 43 = .ok (.iinc 2 1, 3) := by decide +kernel
theorem dX8_momentNow_46 : decode cX8_momentNow 46 = .ok (.goto (-42), 3) := by decide +kernel
theorem dX8_momentNow_49 : decode cX8_momentNow 49 = .ok (.iload_n 1, 1) := by decide +kernel
theorem dX8_momentNow_50 : decode cX8_momentNow 50 = .ok (.ireturn, 1) := by decide +kernel
theorem dX8_off_0 : decode cX8_off 0 = .ok (.iload_n 0, 1) := by decide +kernel
theorem dX8_off_1 : decode cX8_off 1 = .ok (.ifCond .ge 8, 3) := by decide +kernel
theorem dX8_off_4 : decode cX8_off 4 = .ok (.iload_n 0, 1) := by decide +kernel
theorem dX8_off_5 : decode cX8_off 5 = .ok (.ineg, 1) := by decide +kernel
theorem dX8_off_6 : decode cX8_off 6 = .ok (.goto 4, 3) := by decide +kernel
theorem dX8_off_9 : decode cX8_off 9 = .ok (.iload_n 0, 1) := by decide +kernel
theorem dX8_off_10 : decode cX8_off 10 = .ok (.ireturn, 1) := by decide +kernel
theorem dX8_moment_0 : decode cX8_moment 0 = .ok (.iload_n 1, 1) := by decide +kernel
theorem dX8_moment_1 : decode cX8_moment 1 = .ok (.ifCond .ne 10, 3) := by decide +kernel
theorem dX8_moment_4 : decode cX8_moment 4 = .ok (.aload_n 0, 1) := by decide +kernel
theorem dX8_moment_5 : decode cX8_moment 5 = .ok (.invokevirtual 158, 3) := by decide +kernel
theorem dX8_moment_8 : decode cX8_moment 8 = .ok (.goto 20, 3) := by decide +kernel
theorem dX8_moment_11 : decode cX8_moment 11 = .ok (.iload_n 1, 1) := by decide +kernel
theorem dX8_moment_12 : decode cX8_moment 12 = .ok (.iconst 1, 1) := by decide +kernel
theorem dX8_moment_13 : decode cX8_moment 13 = .ok (.if_icmp .ne 13, 3) := by decide +kernel
theorem dX8_moment_16 : decode cX8_moment 16 = .ok (.aload_n 0, 1) := by decide +kernel
theorem dX8_moment_17 : decode cX8_moment 17 = .ok (.invokevirtual 158, 3) := by decide +kernel
theorem dX8_moment_20 : decode cX8_moment 20 = .ok (.invokestatic 161, 3) := by decide +kernel
theorem dX8_moment_23 : decode cX8_moment 23 = .ok (.goto 5, 3) := by decide +kernel
theorem dX8_moment_26 : decode cX8_moment 26 = .ok (.ldc 154, 2) := by decide +kernel
theorem dX8_moment_28 : decode cX8_moment 28 = .ok (.ireturn, 1) := by decide +kernel
theorem dX8_laysPlaces_0 : decode cX8_laysPlaces 0 = .ok (.iconst 0, 1) := by decide +kernel
theorem dX8_laysPlaces_1 : decode cX8_laysPlaces 1 = .ok (.istore_n 1, 1) := by decide +kernel
theorem dX8_laysPlaces_2 : decode cX8_laysPlaces 2 = .ok (.iload_n 1, 1) := by decide +kernel
theorem dX8_laysPlaces_3 : decode cX8_laysPlaces 3 = .ok (.bipush 40, 2) := by decide +kernel
theorem dX8_laysPlaces_5 : decode cX8_laysPlaces 5 = .ok (.aload_n 0, 1) := by decide +kernel
theorem dX8_laysPlaces_6 : decode cX8_laysPlaces 6 = .ok (.getfield 7, 3) := by decide +kernel
theorem dX8_laysPlaces_9 : decode cX8_laysPlaces 9 = .ok (.iconst 3, 1) := by decide +kernel
theorem dX8_laysPlaces_10 : decode cX8_laysPlaces 10 = .ok (.iaload, 1) := by decide +kernel
theorem dX8_laysPlaces_11 : decode cX8_laysPlaces 11 = .ok (.imul, 1) := by decide +kernel
theorem dX8_laysPlaces_12 : decode cX8_laysPlaces 12 = .ok (.if_icmp .ge 62, 3) := by decide +kernel
theorem dX8_laysPlaces_15 : decode cX8_laysPlaces 15 = .ok (.aload_n 0, 1) := by decide +kernel
theorem dX8_laysPlaces_16 : decode cX8_laysPlaces 16 = .ok (.getfield 44, 3) := by decide +kernel
theorem dX8_laysPlaces_19 : decode cX8_laysPlaces 19 = .ok (.iload_n 1, 1) := by decide +kernel
theorem dX8_laysPlaces_20 : decode cX8_laysPlaces 20 = .ok (.aload_n 0, 1) := by decide +kernel
theorem dX8_laysPlaces_21 : decode cX8_laysPlaces 21 = .ok (.iload_n 1, 1) := by decide +kernel
theorem dX8_laysPlaces_22 : decode cX8_laysPlaces 22 = .ok (.bipush 40, 2) := by decide +kernel
theorem dX8_laysPlaces_24 : decode cX8_laysPlaces 24 = .ok (.idiv, 1) := by decide +kernel
theorem dX8_laysPlaces_25 : decode cX8_laysPlaces 25 = .ok (.iload_n 1, 1) := by decide +kernel
theorem dX8_laysPlaces_26 : decode cX8_laysPlaces 26 = .ok (.bipush 40, 2) := by decide +kernel
theorem dX8_laysPlaces_28 : decode cX8_laysPlaces 28 = .ok (.irem, 1) := by decide +kernel
theorem dX8_laysPlaces_29 : decode cX8_laysPlaces 29 = .ok (.invokevirtual 139, 3) := by decide +kernel
theorem dX8_laysPlaces_32 : decode cX8_laysPlaces 32 = .ok (.bastore, 1) := by decide +kernel
theorem dX8_laysPlaces_33 : decode cX8_laysPlaces 33 = .ok (.aload_n 0, 1) := by decide +kernel
theorem dX8_laysPlaces_34 : decode cX8_laysPlaces 34 = .ok (.getfield 47, 3) := by decide +kernel
theorem dX8_laysPlaces_37 : decode cX8_laysPlaces 37 = .ok (.iload_n 1, 1) := by decide +kernel
theorem dX8_laysPlaces_38 : decode cX8_laysPlaces 38 = .ok (.aload_n 0, 1) := by decide +kernel
theorem dX8_laysPlaces_39 : decode cX8_laysPlaces 39 = .ok (.getfield 44, 3) := by decide +kernel
theorem dX8_laysPlaces_42 : decode cX8_laysPlaces 42 = .ok (.iload_n 1, 1) := by decide +kernel
theorem dX8_laysPlaces_43 : decode cX8_laysPlaces 43 = .ok (.baload, 1) := by decide +kernel
theorem dX8_laysPlaces_44 : decode cX8_laysPlaces 44 = .ok (.ifCond .eq 22, 3) := by decide +kernel
theorem dX8_laysPlaces_47 : decode cX8_laysPlaces 47 = .ok (.aload_n 0, 1) := by decide +kernel
theorem dX8_laysPlaces_48 : decode cX8_laysPlaces 48 = .ok (.iload_n 1, 1) := by decide +kernel
theorem dX8_laysPlaces_49 : decode cX8_laysPlaces 49 = .ok (.bipush 40, 2) := by decide +kernel
theorem dX8_laysPlaces_51 : decode cX8_laysPlaces 51 = .ok (.idiv, 1) := by decide +kernel
theorem dX8_laysPlaces_52 : decode cX8_laysPlaces 52 = .ok (.iload_n 1, 1) := by decide +kernel
theorem dX8_laysPlaces_53 : decode cX8_laysPlaces 53 = .ok (.bipush 40, 2) := by decide +kernel
theorem dX8_laysPlaces_55 : decode cX8_laysPlaces 55 = .ok (.irem, 1) := by decide +kernel
theorem dX8_laysPlaces_56 : decode cX8_laysPlaces 56 = .ok (.invokevirtual 145, 3) := by decide +kernel
theorem dX8_laysPlaces_59 : decode cX8_laysPlaces 59 = .ok (.ifCond .eq 7, 3) := by decide +kernel
theorem dX8_laysPlaces_62 : decode cX8_laysPlaces 62 = .ok (.iconst 1, 1) := by decide +kernel
theorem dX8_laysPlaces_63 : decode cX8_laysPlaces 63 = .ok (.goto 4, 3) := by decide +kernel
theorem dX8_laysPlaces_66 : decode cX8_laysPlaces 66 = .ok (.iconst 0, 1) := by decide +kernel
theorem dX8_laysPlaces_67 : decode cX8_laysPlaces 67 = .ok (.bastore, 1) := by decide +kernel
theorem dX8_laysPlaces_68 : decode cX8_laysPlaces 68 = .ok (.iinc 1 1, 3) := by decide +kernel
theorem dX8_laysPlaces_71 : decode cX8_laysPlaces 71 = .ok (.goto (-69), 3) := by decide +kernel
theorem dX8_laysPlaces_74 : decode cX8_laysPlaces 74 = .ok (.return_, 1) := by decide +kernel
theorem dX8_isOrder_0 : decode cX8_isOrder 0 = .ok (.iload_n 1, 1) := by decide +kernel
theorem dX8_isOrder_1 : decode cX8_isOrder 1 = .ok (.istore_n 2, 1) := by decide +kernel
theorem dX8_isOrder_2 : decode cX8_isOrder 2 = .ok (.iconst 0, 1) := by decide +kernel
theorem dX8_isOrder_3 : decode cX8_isOrder 3 = .ok (.istore_n 3, 1) := by decide +kernel
theorem dX8_isOrder_4 : decode cX8_isOrder 4 = .ok (.aload_n 0, 1) := by decide +kernel
theorem dX8_isOrder_5 : decode cX8_isOrder 5 = .ok (.getfield 7, 3) := by decide +kernel
theorem dX8_isOrder_8 : decode cX8_isOrder 8 = .ok (.iconst 3, 1) := by decide +kernel
theorem dX8_isOrder_9 : decode cX8_isOrder 9 = .ok (.iaload, 1) := by decide +kernel
theorem dX8_isOrder_10 : decode cX8_isOrder 10 = .ok (.iconst 1, 1) := by decide +kernel
theorem dX8_isOrder_11 : decode cX8_isOrder 11 = .ok (.isub, 1) := by decide +kernel
theorem dX8_isOrder_12 : decode cX8_isOrder 12 = .ok (.istore 4, 2) := by decide +kernel
theorem dX8_isOrder_14 : decode cX8_isOrder 14 = .ok (.iload 4, 2) := by decide +kernel
theorem dX8_isOrder_16 : decode cX8_isOrder 16 = .ok (.ifCond .lt 45, 3) := by decide +kernel
theorem dX8_isOrder_19 : decode cX8_isOrder 19 = .ok (.aload_n 0, 1) := by decide +kernel
theorem dX8_isOrder_20 : decode cX8_isOrder 20 = .ok (.getfield 35, 3) := by decide +kernel
theorem dX8_isOrder_23 : decode cX8_isOrder 23 = .ok (.iload 4, 2) := by decide +kernel
theorem dX8_isOrder_25 : decode cX8_isOrder 25 = .ok (.iload_n 2, 1) := by decide +kernel
theorem dX8_isOrder_26 : decode cX8_isOrder 26 = .ok (.aload_n 0, 1) := by decide +kernel
theorem dX8_isOrder_27 : decode cX8_isOrder 27 = .ok (.getfield 7, 3) := by decide +kernel
theorem dX8_isOrder_30 : decode cX8_isOrder 30 = .ok (.iconst 3, 1) := by decide +kernel
theorem dX8_isOrder_31 : decode cX8_isOrder 31 = .ok (.iaload, 1) := by decide +kernel
theorem dX8_isOrder_32 : decode cX8_isOrder 32 = .ok (.irem, 1) := by decide +kernel
theorem dX8_isOrder_33 : decode cX8_isOrder 33 = .ok (.iastore, 1) := by decide +kernel
theorem dX8_isOrder_34 : decode cX8_isOrder 34 = .ok (.iload_n 2, 1) := by decide +kernel
theorem dX8_isOrder_35 : decode cX8_isOrder 35 = .ok (.aload_n 0, 1) := by decide +kernel
theorem dX8_isOrder_36 : decode cX8_isOrder 36 = .ok (.getfield 7, 3) := by decide +kernel
theorem dX8_isOrder_39 : decode cX8_isOrder 39 = .ok (.iconst 3, 1) := by decide +kernel
theorem dX8_isOrder_40 : decode cX8_isOrder 40 = .ok (.iaload, 1) := by decide +kernel
theorem dX8_isOrder_41 : decode cX8_isOrder 41 = .ok (.idiv, 1) := by decide +kernel
theorem dX8_isOrder_42 : decode cX8_isOrder 42 = .ok (.istore_n 2, 1) := by decide +kernel
theorem dX8_isOrder_43 : decode cX8_isOrder 43 = .ok (.iload_n 3, 1) := by decide +kernel
theorem dX8_isOrder_44 : decode cX8_isOrder 44 = .ok (.iconst 1, 1) := by decide +kernel
theorem dX8_isOrder_45 : decode cX8_isOrder 45 = .ok (.aload_n 0, 1) := by decide +kernel
theorem dX8_isOrder_46 : decode cX8_isOrder 46 = .ok (.getfield 35, 3) := by decide +kernel
theorem dX8_isOrder_49 : decode cX8_isOrder 49 = .ok (.iload 4, 2) := by decide +kernel
theorem dX8_isOrder_51 : decode cX8_isOrder 51 = .ok (.iaload, 1) := by decide +kernel
theorem dX8_isOrder_52 : decode cX8_isOrder 52 = .ok (.ishl, 1) := by decide +kernel
theorem dX8_isOrder_53 : decode cX8_isOrder 53 = .ok (.ior, 1) := by decide +kernel
theorem dX8_isOrder_54 : decode cX8_isOrder 54 = .ok (.istore_n 3, 1) := by decide +kernel
theorem dX8_isOrder_55 : decode cX8_isOrder 55 = .ok (.iinc 4 (-1), 3) := by decide +kernel
theorem dX8_isOrder_58 : decode cX8_isOrder 58 = .ok (.goto (-44), 3) := by decide +kernel
theorem dX8_isOrder_61 : decode cX8_isOrder 61 = .ok (.iload_n 3, 1) := by decide +kernel
theorem dX8_isOrder_62 : decode cX8_isOrder 62 = .ok (.iconst 1, 1) := by decide +kernel
theorem dX8_isOrder_63 : decode cX8_isOrder 63 = .ok (.aload_n 0, 1) := by decide +kernel
theorem dX8_isOrder_64 : decode cX8_isOrder 64 = .ok (.getfield 7, 3) := by decide +kernel
theorem dX8_isOrder_67 : decode cX8_isOrder 67 = .ok (.iconst 3, 1) := by decide +kernel
theorem dX8_isOrder_68 : decode cX8_isOrder 68 = .ok (.iaload, 1) := by decide +kernel
theorem dX8_isOrder_69 : decode cX8_isOrder 69 = .ok (.ishl, 1) := by decide +kernel
theorem dX8_isOrder_70 : decode cX8_isOrder 70 = .ok (.iconst 1, 1) := by decide +kernel
theorem dX8_isOrder_71 : decode cX8_isOrder 71 = .ok (.isub, 1) := by decide +kernel
theorem dX8_isOrder_72 : decode cX8_isOrder 72 = .ok (.if_icmp .ne 7, 3) := by decide +kernel
theorem dX8_isOrder_75 : decode cX8_isOrder 75 = .ok (.iconst 1, 1) := by decide +kernel
theorem dX8_isOrder_76 : decode cX8_isOrder 76 = .ok (.goto 4, 3) := by decide +kernel
theorem dX8_isOrder_79 : decode cX8_isOrder 79 = .ok (.iconst 0, 1) := by decide +kernel
theorem dX8_isOrder_80 : decode cX8_isOrder 80 = .ok (.ireturn, 1) := by decide +kernel
theorem dX8_tries_0 : decode cX8_tries 0 = .ok (.iload_n 2, 1) := by decide +kernel
theorem dX8_tries_1 : decode cX8_tries 1 = .ok (.istore_n 3, 1) := by decide +kernel
theorem dX8_tries_2 : decode cX8_tries 2 = .ok (.iconst 0, 1) := by decide +kernel
theorem dX8_tries_3 : decode cX8_tries 3 = .ok (.istore 4, 2) := by decide +kernel
theorem dX8_tries_5 : decode cX8_tries 5 = .ok (.iconst 0, 1) := by decide +kernel
theorem dX8_tries_6 : decode cX8_tries 6 = .ok (.istore 5, 2) := by decide +kernel
theorem dX8_tries_8 : decode cX8_tries 8 = .ok (.iconst 0, 1) := by decide +kernel
theorem dX8_tries_9 : decode cX8_tries 9 = .ok (.istore 6, 2) := by decide +kernel
theorem dX8_tries_11 : decode cX8_tries 11 = .ok (.iload 6, 2) := by decide +kernel
theorem dX8_tries_13 : decode cX8_tries 13 = .ok (.aload_n 0, 1) := by decide +kernel
theorem dX8_tries_14 : decode cX8_tries 14 = .ok (.getfield 7, 3) := by decide +kernel
theorem dX8_tries_17 : decode cX8_tries 17 = .ok (.iconst 3, 1) := by decide +kernel
theorem dX8_tries_18 : decode cX8_tries 18 = .ok (.iaload, 1) := by decide +kernel
theorem dX8_tries_19 : decode cX8_tries 19 = .ok (.if_icmp .ge 89, 3) := by decide +kernel
theorem dX8_tries_22 : decode cX8_tries 22 = .ok (.aload_n 0, 1) := by decide +kernel
theorem dX8_tries_23 : decode cX8_tries 23 = .ok (.getfield 35, 3) := by decide +kernel
theorem dX8_tries_26 : decode cX8_tries 26 = .ok (.iload 6, 2) := by decide +kernel
theorem dX8_tries_28 : decode cX8_tries 28 = .ok (.iaload, 1) := by decide +kernel
theorem dX8_tries_29 : decode cX8_tries 29 = .ok (.istore 7, 2) := by decide +kernel
theorem dX8_tries_31 : decode cX8_tries 31 = .ok (.iload_n 3, 1) := by decide +kernel
theorem dX8_tries_32 : decode cX8_tries 32 = .ok (.bipush 39, 2) := by decide +kernel
theorem dX8_tries_34 : decode cX8_tries 34 = .ok (.if_icmp .gt 18, 3) := by decide +kernel
theorem dX8_tries_37 : decode cX8_tries 37 = .ok (.aload_n 0, 1) := by decide +kernel
theorem dX8_tries_38 : decode cX8_tries 38 = .ok (.getfield 44, 3) := by decide +kernel
theorem dX8_tries_41 : decode cX8_tries 41 = .ok (.bipush 40, 2) := by decide +kernel
theorem dX8_tries_43 : decode cX8_tries 43 = .ok (.iload 7, 2) := by decide +kernel
theorem dX8_tries_45 : decode cX8_tries 45 = .ok (.imul, 1) := by decide +kernel
theorem dX8_tries_46 : decode cX8_tries 46 = .ok (.iload_n 3, 1) := by decide +kernel
theorem dX8_tries_47 : decode cX8_tries 47 = .ok (.iadd, 1) := by decide +kernel
theorem dX8_tries_48 : decode cX8_tries 48 = .ok (.baload, 1) := by decide +kernel
theorem dX8_tries_49 : decode cX8_tries 49 = .ok (.ifCond .ne 4, 3) := by decide +kernel
theorem dX8_tries_52 : decode cX8_tries 52 = .ok (.return_, 1) := by decide +kernel
theorem dX8_tries_53 : decode cX8_tries 53 = .ok (.iload 4, 2) := by decide +kernel
theorem dX8_tries_55 : decode cX8_tries 55 = .ok (.aload_n 0, 1) := by decide +kernel
theorem dX8_tries_56 : decode cX8_tries 56 = .ok (.getfield 47, 3) := by decide +kernel
theorem dX8_tries_59 : decode cX8_tries 59 = .ok (.bipush 40, 2) := by decide +kernel
theorem dX8_tries_61 : decode cX8_tries 61 = .ok (.iload 7, 2) := by decide +kernel
theorem dX8_tries_63 : decode cX8_tries 63 = .ok (.imul, 1) := by decide +kernel
theorem dX8_tries_64 : decode cX8_tries 64 = .ok (.iload_n 3, 1) := by decide +kernel
theorem dX8_tries_65 : decode cX8_tries 65 = .ok (.iadd, 1) := by decide +kernel
theorem dX8_tries_66 : decode cX8_tries 66 = .ok (.baload, 1) := by decide +kernel
theorem dX8_tries_67 : decode cX8_tries 67 = .ok (.ifCond .eq 7, 3) := by decide +kernel
theorem dX8_tries_70 : decode cX8_tries 70 = .ok (.iconst 0, 1) := by decide +kernel
theorem dX8_tries_71 : decode cX8_tries 71 = .ok (.goto 4, 3) := by decide +kernel
theorem dX8_tries_74 : decode cX8_tries 74 = .ok (.iconst 1, 1) := by decide +kernel
theorem dX8_tries_75 : decode cX8_tries 75 = .ok (.iadd, 1) := by decide +kernel
theorem dX8_tries_76 : decode cX8_tries 76 = .ok (.istore 4, 2) := by decide +kernel
theorem dX8_tries_78 : decode cX8_tries 78 = .ok (.iload 5, 2) := by decide +kernel
theorem dX8_tries_80 : decode cX8_tries 80 = .ok (.aload_n 0, 1) := by decide +kernel
theorem dX8_tries_81 : decode cX8_tries 81 = .ok (.iload 7, 2) := by decide +kernel
theorem dX8_tries_83 : decode cX8_tries 83 = .ok (.iload_n 3, 1) := by decide +kernel
theorem dX8_tries_84 : decode cX8_tries 84 = .ok (.invokevirtual 155, 3) := by decide +kernel
theorem dX8_tries_87 : decode cX8_tries 87 = .ok (.iadd, 1) := by decide +kernel
theorem dX8_tries_88 : decode cX8_tries 88 = .ok (.istore 5, 2) := by decide +kernel
theorem dX8_tries_90 : decode cX8_tries 90 = .ok (.iload_n 3, 1) := by decide +kernel
theorem dX8_tries_91 : decode cX8_tries 91 = .ok (.aload_n 0, 1) := by decide +kernel
theorem dX8_tries_92 : decode cX8_tries 92 = .ok (.iload 7, 2) := by decide +kernel
theorem dX8_tries_94 : decode cX8_tries 94 = .ok (.iconst 0, 1) := by decide +kernel
theorem dX8_tries_95 : decode cX8_tries 95 = .ok (.invokevirtual 118, 3) := by decide +kernel
theorem dX8_tries_98 : decode cX8_tries 98 = .ok (.iload_n 1, 1) := by decide +kernel
theorem dX8_tries_99 : decode cX8_tries 99 = .ok (.iadd, 1) := by decide +kernel
theorem dX8_tries_100 : decode cX8_tries 100 = .ok (.iadd, 1) := by decide +kernel
theorem dX8_tries_101 : decode cX8_tries 101 = .ok (.istore_n 3, 1) := by decide +kernel
theorem dX8_tries_102 : decode cX8_tries 102 = .ok (.iinc 6 1, 3) := by decide +kernel
theorem dX8_tries_105 : decode cX8_tries 105 = .ok (.goto (-94), 3) := by decide +kernel
theorem dX8_tries_108 : decode cX8_tries 108 = .ok (.iload 5, 2) := by decide +kernel
theorem dX8_tries_110 : decode cX8_tries 110 = .ok (.invokestatic 161, 3) := by decide +kernel
theorem dX8_tries_113 : decode cX8_tries 113 = .ok (.istore 6, 2) := by decide +kernel
theorem dX8_tries_115 : decode cX8_tries 115 = .ok (.aload_n 0, 1) := by decide +kernel
theorem dX8_tries_116 : decode cX8_tries 116 = .ok (.getfield 164, 3) := by decide +kernel
theorem dX8_tries_119 : decode cX8_tries 119 = .ok (.ifCond .eq 14, 3) := by decide +kernel
theorem dX8_tries_122 : decode cX8_tries 122 = .ok (.iload 4, 2) := by decide +kernel
theorem dX8_tries_124 : decode cX8_tries 124 = .ok (.aload_n 0, 1) := by decide +kernel
theorem dX8_tries_125 : decode cX8_tries 125 = .ok (.getfield 41, 3) := by decide +kernel
theorem dX8_tries_128 : decode cX8_tries 128 = .ok (.iconst 0, 1) := by decide +kernel
theorem dX8_tries_129 : decode cX8_tries 129 = .ok (.iaload, 1) := by decide +kernel
theorem dX8_tries_130 : decode cX8_tries 130 = .ok (.if_icmp .ge 7, 3) := by decide +kernel
theorem dX8_tries_133 : decode cX8_tries 133 = .ok (.iconst 1, 1) := by decide +kernel
theorem dX8_tries_134 : decode cX8_tries 134 = .ok (.goto 4, 3) := by decide +kernel
theorem dX8_tries_137 : decode cX8_tries 137 = .ok (.iconst 0, 1) := by decide +kernel
theorem dX8_tries_138 : decode cX8_tries 138 = .ok (.istore 7, 2) := by decide +kernel
theorem dX8_tries_140 : decode cX8_tries 140 = .ok (.iload 7, 2) := by decide +kernel
theorem dX8_tries_142 : decode cX8_tries 142 = .ok (.ifCond .ne 73, 3) := by decide +kernel
theorem dX8_tries_145 : decode cX8_tries 145 = .ok (.iload 4, 2) := by decide +kernel
theorem dX8_tries_147 : decode cX8_tries 147 = .ok (.aload_n 0, 1) := by decide +kernel
theorem dX8_tries_148 : decode cX8_tries 148 = .ok (.getfield 41, 3) := by decide +kernel
theorem dX8_tries_151 : decode cX8_tries 151 = .ok (.iconst 0, 1) := by decide +kernel
theorem dX8_tries_152 : decode cX8_tries 152 = .ok (.iaload, 1) := by decide +kernel
theorem dX8_tries_153 : decode cX8_tries 153 = .ok (.if_icmp .ne 62, 3) := by decide +kernel
theorem dX8_tries_156 : decode cX8_tries 156 = .ok (.iload 6, 2) := by decide +kernel
theorem dX8_tries_158 : decode cX8_tries 158 = .ok (.aload_n 0, 1) := by decide +kernel
theorem dX8_tries_159 : decode cX8_tries 159 = .ok (.getfield 41, 3) := by decide +kernel
theorem dX8_tries_162 : decode cX8_tries 162 = .ok (.iconst 1, 1) := by decide +kernel
theorem dX8_tries_163 : decode cX8_tries 163 = .ok (.iaload, 1) := by decide +kernel
theorem dX8_tries_164 : decode cX8_tries 164 = .ok (.if_icmp .lt 44, 3) := by decide +kernel
theorem dX8_tries_167 : decode cX8_tries 167 = .ok (.iload 6, 2) := by decide +kernel
theorem dX8_tries_169 : decode cX8_tries 169 = .ok (.aload_n 0, 1) := by decide +kernel
theorem dX8_tries_170 : decode cX8_tries 170 = .ok (.getfield 41, 3) := by decide +kernel
theorem dX8_tries_173 : decode cX8_tries 173 = .ok (.iconst 1, 1) := by decide +kernel
theorem dX8_tries_174 : decode cX8_tries 174 = .ok (.iaload, 1) := by decide +kernel
theorem dX8_tries_175 : decode cX8_tries 175 = .ok (.if_icmp .ne 37, 3) := by decide +kernel
theorem dX8_tries_178 : decode cX8_tries 178 = .ok (.iload_n 1, 1) := by decide +kernel
theorem dX8_tries_179 : decode cX8_tries 179 = .ok (.aload_n 0, 1) := by decide +kernel
theorem dX8_tries_180 : decode cX8_tries 180 = .ok (.getfield 41, 3) := by decide +kernel
theorem dX8_tries_183 : decode cX8_tries 183 = .ok (.iconst 2, 1) := by decide +kernel
theorem dX8_tries_184 : decode cX8_tries 184 = .ok (.iaload, 1) := by decide +kernel
theorem dX8_tries_185 : decode cX8_tries 185 = .ok (.if_icmp .lt 23, 3) := by decide +kernel
theorem dX8_tries_188 : decode cX8_tries 188 = .ok (.iload_n 1, 1) := by decide +kernel
theorem dX8_tries_189 : decode cX8_tries 189 = .ok (.aload_n 0, 1) := by decide +kernel
theorem dX8_tries_190 : decode cX8_tries 190 = .ok (.getfield 41, 3) := by decide +kernel
theorem dX8_tries_193 : decode cX8_tries 193 = .ok (.iconst 2, 1) := by decide +kernel
theorem dX8_tries_194 : decode cX8_tries 194 = .ok (.iaload, 1) := by decide +kernel
theorem dX8_tries_195 : decode cX8_tries 195 = .ok (.if_icmp .ne 17, 3) := by decide +kernel
theorem dX8_tries_198 : decode cX8_tries 198 = .ok (.iload_n 2, 1) := by decide +kernel
theorem dX8_tries_199 : decode cX8_tries 199 = .ok (.aload_n 0, 1) := by decide +kernel
theorem dX8_tries_200 : decode cX8_tries 200 = .ok (.getfield 41, 3) := by decide +kernel
theorem dX8_tries_203 : decode cX8_tries 203 = .ok (.iconst 3, 1) := by decide +kernel
theorem dX8_tries_204 : decode cX8_tries 204 = .ok (.iaload, 1) := by decide +kernel
theorem dX8_tries_205 : decode cX8_tries 205 = .ok (.if_icmp .ge 7, 3) := by decide +kernel
theorem dX8_tries_208 : decode cX8_tries 208 = .ok (.iconst 1, 1) := by decide +kernel
theorem dX8_tries_209 : decode cX8_tries 209 = .ok (.goto 4, 3) := by decide +kernel
theorem dX8_tries_212 : decode cX8_tries 212 = .ok (.iconst 0, 1) := by decide +kernel
theorem dX8_tries_213 : decode cX8_tries 213 = .ok (.istore 7, 2) := by decide +kernel
theorem dX8_tries_215 : decode cX8_tries 215 = .ok (.iload 7, 2) := by decide +kernel
theorem dX8_tries_217 : decode cX8_tries 217 = .ok (.ifCond .eq 72, 3) := by decide +kernel
theorem dX8_tries_220 : decode cX8_tries 220 = .ok (.aload_n 0, 1) := by decide +kernel
theorem dX8_tries_221 : decode cX8_tries 221 = .ok (.iconst 1, 1) := by decide +kernel
theorem dX8_tries_222 : decode cX8_tries 222 = .ok (.putfield 164, 3) := by decide +kernel
theorem dX8_tries_225 : decode cX8_tries 225 = .ok (.aload_n 0, 1) := by decide +kernel
theorem dX8_tries_226 : decode cX8_tries 226 = .ok (.getfield 41, 3) := by decide +kernel
theorem dX8_tries_229 : decode cX8_tries 229 = .ok (.iconst 0, 1) := by decide +kernel
theorem dX8_tries_230 : decode cX8_tries 230 = .ok (.iload 4, 2) := by decide +kernel
theorem dX8_tries_232 : decode cX8_tries 232 = .ok (.iastore, 1) := by decide +kernel
theorem dX8_tries_233 : decode cX8_tries 233 = .ok (.aload_n 0, 1) := by decide +kernel
theorem dX8_tries_234 : decode cX8_tries 234 = .ok (.getfield 41, 3) := by decide +kernel
theorem dX8_tries_237 : decode cX8_tries 237 = .ok (.iconst 1, 1) := by decide +kernel
theorem dX8_tries_238 : decode cX8_tries 238 = .ok (.iload 6, 2) := by decide +kernel
theorem dX8_tries_240 : decode cX8_tries 240 = .ok (.iastore, 1) := by decide +kernel
theorem dX8_tries_241 : decode cX8_tries 241 = .ok (.aload_n 0, 1) := by decide +kernel
theorem dX8_tries_242 : decode cX8_tries 242 = .ok (.getfield 41, 3) := by decide +kernel
theorem dX8_tries_245 : decode cX8_tries 245 = .ok (.iconst 2, 1) := by decide +kernel
theorem dX8_tries_246 : decode cX8_tries 246 = .ok (.iload_n 1, 1) := by decide +kernel
theorem dX8_tries_247 : decode cX8_tries 247 = .ok (.iastore, 1) := by decide +kernel
theorem dX8_tries_248 : decode cX8_tries 248 = .ok (.aload_n 0, 1) := by decide +kernel
theorem dX8_tries_249 : decode cX8_tries 249 = .ok (.getfield 41, 3) := by decide +kernel
theorem dX8_tries_252 : decode cX8_tries 252 = .ok (.iconst 3, 1) := by decide +kernel
theorem dX8_tries_253 : decode cX8_tries 253 = .ok (.iload_n 2, 1) := by decide +kernel
theorem dX8_tries_254 : decode cX8_tries 254 = .ok (.iastore, 1) := by decide +kernel
theorem dX8_tries_255 : decode cX8_tries 255 = .ok (.iconst 0, 1) := by decide +kernel
theorem dX8_tries_256 : decode cX8_tries 256 = .ok (.istore 8, 2) := by decide +kernel
theorem dX8_tries_258 : decode cX8_tries 258 = .ok (.iload 8, 2) := by decide +kernel
theorem dX8_tries_260 : decode cX8_tries 260 = .ok (.aload_n 0, 1) := by decide +kernel
theorem dX8_tries_261 : decode cX8_tries 261 = .ok (.getfield 7, 3) := by decide +kernel
theorem dX8_tries_264 : decode cX8_tries 264 = .ok (.iconst 3, 1) := by decide +kernel
theorem dX8_tries_265 : decode cX8_tries 265 = .ok (.iaload, 1) := by decide +kernel
theorem dX8_tries_266 : decode cX8_tries 266 = .ok (.if_icmp .ge 23, 3) := by decide +kernel
theorem dX8_tries_269 : decode cX8_tries 269 = .ok (.aload_n 0, 1) := by decide +kernel
theorem dX8_tries_270 : decode cX8_tries 270 = .ok (.getfield 38, 3) := by decide +kernel
theorem dX8_tries_273 : decode cX8_tries 273 = .ok (.iload 8, 2) := by decide +kernel
theorem dX8_tries_275 : decode cX8_tries 275 = .ok (.aload_n 0, 1) := by decide +kernel
theorem dX8_tries_276 : decode cX8_tries 276 = .ok (.getfield 35, 3) := by decide +kernel
theorem dX8_tries_279 : decode cX8_tries 279 = .ok (.iload 8, 2) := by decide +kernel
theorem dX8_tries_281 : decode cX8_tries 281 = .ok (.iaload, 1) := by decide +kernel
theorem dX8_tries_282 : decode cX8_tries 282 = .ok (.iastore, 1) := by decide +kernel
theorem dX8_tries_283 : decode cX8_tries 283 = .ok (.iinc 8 1, 3) := by decide +kernel
theorem dX8_tries_286 : decode cX8_tries 286 = .ok (.goto (-28), 3) := by decide +kernel
theorem dX8_tries_289 : decode cX8_tries 289 = .ok (.return_, 1) := by decide +kernel
theorem dX8_findsBest_0 : decode cX8_findsBest 0 = .ok (.aload_n 0, 1) := by decide +kernel
theorem dX8_findsBest_1 : decode cX8_findsBest 1 = .ok (.iconst 0, 1) := by decide +kernel
theorem dX8_findsBest_2 : decode cX8_findsBest 2 = .ok (.putfield 164, 3) := by decide +kernel
theorem dX8_findsBest_5 : decode cX8_findsBest 5 = .ok (.aload_n 0, 1) := by decide +kernel
theorem dX8_findsBest_6 : decode cX8_findsBest 6 = .ok (.invokevirtual 167, 3) := by decide +kernel
theorem dX8_findsBest_9 : decode cX8_findsBest 9 = .ok (.iconst 1, 1) := by decide +kernel
theorem dX8_findsBest_10 : decode cX8_findsBest 10 = .ok (.istore_n 1, 1) := by decide +kernel
theorem dX8_findsBest_11 : decode cX8_findsBest 11 = .ok (.iconst 0, 1) := by decide +kernel
theorem dX8_findsBest_12 : decode cX8_findsBest 12 = .ok (.istore_n 2, 1) := by decide +kernel
theorem dX8_findsBest_13 : decode cX8_findsBest 13 = .ok (.iload_n 2, 1) := by decide +kernel
theorem dX8_findsBest_14 : decode cX8_findsBest 14 = .ok (.aload_n 0, 1) := by decide +kernel
theorem dX8_findsBest_15 : decode cX8_findsBest 15 = .ok (.getfield 7, 3) := by decide +kernel
theorem dX8_findsBest_18 : decode cX8_findsBest 18 = .ok (.iconst 3, 1) := by decide +kernel
theorem dX8_findsBest_19 : decode cX8_findsBest 19 = .ok (.iaload, 1) := by decide +kernel
theorem dX8_findsBest_20 : decode cX8_findsBest 20 = .ok (.if_icmp .ge 18, 3) := by decide +kernel
theorem dX8_findsBest_23 : decode cX8_findsBest 23 = .ok (.iload_n 1, 1) := by decide +kernel
theorem dX8_findsBest_24 : decode cX8_findsBest 24 = .ok (.aload_n 0, 1) := by decide +kernel
theorem dX8_findsBest_25 : decode cX8_findsBest 25 = .ok (.getfield 7, 3) := by decide +kernel
theorem dX8_findsBest_28 : decode cX8_findsBest 28 = .ok (.iconst 3, 1) := by decide +kernel
theorem dX8_findsBest_29 : decode cX8_findsBest 29 = .ok (.iaload, 1) := by decide +kernel
theorem dX8_findsBest_30 : decode cX8_findsBest 30 = .ok (.imul, 1) := by decide +kernel
theorem dX8_findsBest_31 : decode cX8_findsBest 31 = .ok (.istore_n 1, 1) := by decide +kernel
theorem dX8_findsBest_32 : decode cX8_findsBest 32 = .ok (.iinc 2 1, 3) := by decide +kernel
theorem dX8_findsBest_35 : decode cX8_findsBest 35 = .ok (.goto (-22), 3) := by decide +kernel
theorem dX8_findsBest_38 : decode cX8_findsBest 38 = .ok (.iconst 0, 1) := by decide +kernel
theorem dX8_findsBest_39 : decode cX8_findsBest 39 = .ok (.istore_n 2, 1) := by decide +kernel
theorem dX8_findsBest_40 : decode cX8_findsBest 40 = .ok (.iload_n 2, 1) := by decide +kernel
theorem dX8_findsBest_41 : decode cX8_findsBest 41 = .ok (.iload_n 1, 1) := by decide +kernel
theorem dX8_findsBest_42 : decode cX8_findsBest 42 = .ok (.if_icmp .ge 77, 3) := by decide +kernel
theorem dX8_findsBest_45 : decode cX8_findsBest 45 = .ok (.aload_n 0, 1) := by decide +kernel
theorem dX8_findsBest_46 : decode cX8_findsBest 46 = .ok (.getfield 7, 3) := by decide +kernel
theorem dX8_findsBest_49 : decode cX8_findsBest 49 = .ok (.iconst 3, 1) := by decide +kernel
theorem dX8_findsBest_50 : decode cX8_findsBest 50 = .ok (.iaload, 1) := by decide +kernel
theorem dX8_findsBest_51 : decode cX8_findsBest 51 = .ok (.ifCond .le 68, 3) := by decide +kernel
theorem dX8_findsBest_54 : decode cX8_findsBest 54 = .ok (.aload_n 0, 1) := by decide +kernel
theorem dX8_findsBest_55 : decode cX8_findsBest 55 = .ok (.iload_n 2, 1) := by decide +kernel
theorem dX8_findsBest_56 : decode cX8_findsBest 56 = .ok (.invokevirtual 170, 3) := by decide +kernel
theorem dX8_findsBest_59 : decode cX8_findsBest 59 = .ok (.istore_n 3, 1) := by decide +kernel
theorem dX8_findsBest_60 : decode cX8_findsBest 60 = .ok (.aload_n 0, 1) := by decide +kernel
theorem dX8_findsBest_61 : decode cX8_findsBest 61 = .ok (.getfield 7, 3) := by decide +kernel
theorem dX8_findsBest_64 : decode cX8_findsBest 64 = .ok (.iconst 2, 1) := by decide +kernel
theorem dX8_findsBest_65 : decode cX8_findsBest 65 = .ok (.iaload, 1) := by decide +kernel
theorem dX8_findsBest_66 : decode cX8_findsBest 66 = .ok (.istore 4, 2) := by decide +kernel
theorem dX8_findsBest_68 : decode cX8_findsBest 68 = .ok (.iload 4, 2) := by decide +kernel
theorem dX8_findsBest_70 : decode cX8_findsBest 70 = .ok (.bipush 20, 2) := by decide +kernel
theorem dX8_findsBest_72 : decode cX8_findsBest 72 = .ok (.if_icmp .gt 41, 3) := by decide +kernel
theorem dX8_findsBest_75 : decode cX8_findsBest 75 = .ok (.iload_n 3, 1) := by decide +kernel
theorem dX8_findsBest_76 : decode cX8_findsBest 76 = .ok (.ifCond .eq 37, 3) := by decide +kernel
theorem dX8_findsBest_79 : decode cX8_findsBest 79 = .ok (.iconst 0, 1) := by decide +kernel
theorem dX8_findsBest_80 : decode cX8_findsBest 80 = .ok (.istore 5, 2) := by decide +kernel
theorem dX8_findsBest_82 : decode cX8_findsBest 82 = .ok (.iload 5, 2) := by decide +kernel
theorem dX8_findsBest_84 : decode cX8_findsBest 84 = .ok (.aload_n 0, 1) := by decide +kernel
theorem dX8_findsBest_85 : decode cX8_findsBest 85 = .ok (.getfield 7, 3) := by decide +kernel
theorem dX8_findsBest_88 : decode cX8_findsBest 88 = .ok (.iconst 0, 1) := by decide +kernel
theorem dX8_findsBest_89 : decode cX8_findsBest 89 = .ok (.iaload, 1) := by decide +kernel
theorem dX8_findsBest_90 : decode cX8_findsBest 90 = .ok (.if_icmp .ge 17, 3) := by decide +kernel
theorem dX8_findsBest_93 : decode cX8_findsBest 93 = .ok (.aload_n 0, 1) := by decide +kernel
theorem dX8_findsBest_94 : decode cX8_findsBest 94 = .ok (.iload 4, 2) := by decide +kernel
theorem dX8_findsBest_96 : decode cX8_findsBest 96 = .ok (.iload 5, 2) := by decide +kernel
theorem dX8_findsBest_98 : decode cX8_findsBest 98 = .ok (.invokevirtual 173, 3) := by decide +kernel
theorem dX8_findsBest_101 : decode cX8_findsBest 101 = .ok (.iinc 5 1, 3) := by decide +kernel
theorem dX8_findsBest_104 : decode cX8_findsBest 104 = .ok (.goto (-22), 3) := by decide +kernel
theorem dX8_findsBest_107 : decode cX8_findsBest 107 = .ok (.iinc 4 1, 3) := by decide +kernel
theorem dX8_findsBest_110 : decode cX8_findsBest 110 = .ok (.goto (-42), 3) := by decide +kernel
theorem dX8_findsBest_113 : decode cX8_findsBest 113 = .ok (.iinc 2 1, 3) := by decide +kernel
theorem dX8_findsBest_116 : decode cX8_findsBest 116 = .ok (.goto (-76), 3) := by decide +kernel
theorem dX8_findsBest_119 : decode cX8_findsBest 119 = .ok (.return_, 1) := by decide +kernel
theorem dX8_best_0 : decode cX8_best 0 = .ok (.iload_n 1, 1) := by decide +kernel
theorem dX8_best_1 : decode cX8_best 1 = .ok (.ifCond .ge 5, 3) := by decide +kernel
theorem dX8_best_4 : decode cX8_best 4 = .ok (.iconst (-1), 1) := by decide +kernel
theorem dX8_best_5 : decode cX8_best 5 = .ok (.ireturn, 1) := by decide +kernel
theorem dX8_best_6 : decode cX8_best 6 = .ok (.aload_n 0, 1) := by decide +kernel
theorem dX8_best_7 : decode cX8_best 7 = .ok (.invokevirtual 177, 3) := by decide +kernel
theorem dX8_best_10 : decode cX8_best 10 = .ok (.aload_n 0, 1) := by decide +kernel
theorem dX8_best_11 : decode cX8_best 11 = .ok (.getfield 164, 3) := by decide +kernel
theorem dX8_best_14 : decode cX8_best 14 = .ok (.ifCond .ne 6, 3) := by decide +kernel
theorem dX8_best_17 : decode cX8_best 17 = .ok (.bipush (-9), 2) := by decide +kernel
theorem dX8_best_19 : decode cX8_best 19 = .ok (.ireturn, 1) := by decide +kernel
theorem dX8_best_20 : decode cX8_best 20 = .ok (.iload_n 1, 1) := by decide +kernel
theorem dX8_best_21 : decode cX8_best 21 = .ok (.iconst 4, 1) := by decide +kernel
theorem dX8_best_22 : decode cX8_best 22 = .ok (.if_icmp .ge 12, 3) := by decide +kernel
theorem dX8_best_25 : decode cX8_best 25 = .ok (.aload_n 0, 1) := by decide +kernel
theorem dX8_best_26 : decode cX8_best 26 = .ok (.getfield 41, 3) := by decide +kernel
theorem dX8_best_29 : decode cX8_best 29 = .ok (.iload_n 1, 1) := by decide +kernel
theorem dX8_best_30 : decode cX8_best 30 = .ok (.iaload, 1) := by decide +kernel
theorem dX8_best_31 : decode cX8_best 31 = .ok (.goto 28, 3) := by decide +kernel
theorem dX8_best_34 : decode cX8_best 34 = .ok (.iload_n 1, 1) := by decide +kernel
theorem dX8_best_35 : decode cX8_best 35 = .ok (.iconst 4, 1) := by decide +kernel
theorem dX8_best_36 : decode cX8_best 36 = .ok (.isub, 1) := by decide +kernel
theorem dX8_best_37 : decode cX8_best 37 = .ok (.aload_n 0, 1) := by decide +kernel
theorem dX8_best_38 : decode cX8_best 38 = .ok (.getfield 7, 3) := by decide +kernel
theorem dX8_best_41 : decode cX8_best 41 = .ok (.iconst 3, 1) := by decide +kernel
theorem dX8_best_42 : decode cX8_best 42 = .ok (.iaload, 1) := by decide +kernel
theorem dX8_best_43 : decode cX8_best 43 = .ok (.if_icmp .ge 14, 3) := by decide +kernel
theorem dX8_best_46 : decode cX8_best 46 = .ok (.aload_n 0, 1) := by decide +kernel
theorem dX8_best_47 : decode cX8_best 47 = .ok (.getfield 38, 3) := by decide +kernel
theorem dX8_best_50 : decode cX8_best 50 = .ok (.iload_n 1, 1) := by decide +kernel
theorem dX8_best_51 : decode cX8_best 51 = .ok (.iconst 4, 1) := by decide +kernel
theorem dX8_best_52 : decode cX8_best 52 = .ok (.isub, 1) := by decide +kernel
theorem dX8_best_53 : decode cX8_best 53 = .ok (.iaload, 1) := by decide +kernel
theorem dX8_best_54 : decode cX8_best 54 = .ok (.goto 5, 3) := by decide +kernel
theorem dX8_best_57 : decode cX8_best 57 = .ok (.bipush (-9), 2) := by decide +kernel
theorem dX8_best_59 : decode cX8_best 59 = .ok (.ireturn, 1) := by decide +kernel
theorem dX8_tellPlaces_0 : decode cX8_tellPlaces 0 = .ok (.iconst 0, 1) := by decide +kernel
theorem dX8_tellPlaces_1 : decode cX8_tellPlaces 1 = .ok (.istore_n 3, 1) := by decide +kernel
theorem dX8_tellPlaces_2 : decode cX8_tellPlaces 2 = .ok (.bipush (-9), 2) := by decide +kernel
theorem dX8_tellPlaces_4 : decode cX8_tellPlaces 4 = .ok (.istore 4, 2) := by decide +kernel
theorem dX8_tellPlaces_6 : decode cX8_tellPlaces 6 = .ok (.bipush (-9), 2) := by decide +kernel
theorem dX8_tellPlaces_8 : decode cX8_tellPlaces 8 = .ok (.istore 5, 2) := by decide +kernel
theorem dX8_tellPlaces_10 : decode cX8_tellPlaces 10 = .ok (.bipush (-9), 2) := by decide +kernel
theorem dX8_tellPlaces_12 : decode cX8_tellPlaces 12 = .ok (.istore 6, 2) := by decide +kernel
theorem dX8_tellPlaces_14 : decode cX8_tellPlaces 14 = .ok (.aload_n 0, 1) := by decide +kernel
theorem dX8_tellPlaces_15 : decode cX8_tellPlaces 15 = .ok (.invokevirtual 158, 3) := by decide +kernel
theorem dX8_tellPlaces_18 : decode cX8_tellPlaces 18 = .ok (.istore 7, 2) := by decide +kernel
theorem dX8_tellPlaces_20 : decode cX8_tellPlaces 20 = .ok (.bipush 39, 2) := by decide +kernel
theorem dX8_tellPlaces_22 : decode cX8_tellPlaces 22 = .ok (.istore 8, 2) := by decide +kernel
theorem dX8_tellPlaces_24 : decode cX8_tellPlaces 24 = .ok (.iload 8, 2) := by decide +kernel
theorem dX8_tellPlaces_26 : decode cX8_tellPlaces 26 = .ok (.ifCond .lt 112, 3) := by decide +kernel
theorem dX8_tellPlaces_29 : decode cX8_tellPlaces 29 = .ok (.aload_n 0, 1) := by decide +kernel
theorem dX8_tellPlaces_30 : decode cX8_tellPlaces 30 = .ok (.iload_n 1, 1) := by decide +kernel
theorem dX8_tellPlaces_31 : decode cX8_tellPlaces 31 = .ok (.iload 8, 2) := by decide +kernel
theorem dX8_tellPlaces_33 : decode cX8_tellPlaces 33 = .ok (.invokevirtual 139, 3) := by decide +kernel
theorem dX8_tellPlaces_36 : decode cX8_tellPlaces 36 = .ok (.ifCond .eq 96, 3) := by decide +kernel
theorem dX8_tellPlaces_39 : decode cX8_tellPlaces 39 = .ok (.aload_n 0, 1) := by decide +kernel
theorem dX8_tellPlaces_40 : decode cX8_tellPlaces 40 = .ok (.iload_n 1, 1) := by decide +kernel
theorem dX8_tellPlaces_41 : decode cX8_tellPlaces 41 = .ok (.iload 8, 2) := by decide +kernel
theorem dX8_tellPlaces_43 : decode cX8_tellPlaces 43 = .ok (.invokevirtual 142, 3) := by decide +kernel
theorem dX8_tellPlaces_46 : decode cX8_tellPlaces 46 = .ok (.ifCond .eq 86, 3) := by decide +kernel
theorem dX8_tellPlaces_49 : decode cX8_tellPlaces 49 = .ok (.iinc 3 1, 3) := by decide +kernel
theorem dX8_tellPlaces_52 : decode cX8_tellPlaces 52 = .ok (.iload 8, 2) := by decide +kernel
theorem dX8_tellPlaces_54 : decode cX8_tellPlaces 54 = .ok (.istore 4, 2) := by decide +kernel
theorem dX8_tellPlaces_56 : decode cX8_tellPlaces 56 = .ok (.aload_n 0, 1) := by decide +kernel
theorem dX8_tellPlaces_57 : decode cX8_tellPlaces 57 = .ok (.iload_n 1, 1) := by decide +kernel
theorem dX8_tellPlaces_58 : decode cX8_tellPlaces 58 = .ok (.iload 8, 2) := by decide +kernel
theorem dX8_tellPlaces_60 : decode cX8_tellPlaces 60 = .ok (.invokevirtual 145, 3) := by decide +kernel
theorem dX8_tellPlaces_63 : decode cX8_tellPlaces 63 = .ok (.ifCond .eq 8, 3) := by decide +kernel
theorem dX8_tellPlaces_66 : decode cX8_tellPlaces 66 = .ok (.iload 8, 2) := by decide +kernel
theorem dX8_tellPlaces_68 : decode cX8_tellPlaces 68 = .ok (.goto 5, 3) := by decide +kernel
theorem dX8_tellPlaces_71 : decode cX8_tellPlaces 71 = .ok (.iload 5, 2) := by decide +kernel
theorem dX8_tellPlaces_73 : decode cX8_tellPlaces 73 = .ok (.istore 5, 2) := by decide +kernel
theorem dX8_tellPlaces_75 : decode cX8_tellPlaces 75 = .ok (.iload 6, 2) := by decide +kernel
theorem dX8_tellPlaces_77 : decode cX8_tellPlaces 77 = .ok (.bipush (-9), 2) := by decide +kernel
theorem dX8_tellPlaces_79 : decode cX8_tellPlaces 79 = .ok (.if_icmp .eq 32, 3) := by decide +kernel
theorem dX8_tellPlaces_82 : decode cX8_tellPlaces 82 = .ok (.iload 7, 2) := by decide +kernel
theorem dX8_tellPlaces_84 : decode cX8_tellPlaces 84 = .ok (.aload_n 0, 1) := by decide +kernel
theorem dX8_tellPlaces_85 : decode cX8_tellPlaces 85 = .ok (.iload_n 1, 1) := by decide +kernel
theorem dX8_tellPlaces_86 : decode cX8_tellPlaces 86 = .ok (.iload 8, 2) := by decide +kernel
theorem dX8_tellPlaces_88 : decode cX8_tellPlaces 88 = .ok (.invokevirtual 155, 3) := by decide +kernel
theorem dX8_tellPlaces_91 : decode cX8_tellPlaces 91 = .ok (.iadd, 1) := by decide +kernel
theorem dX8_tellPlaces_92 : decode cX8_tellPlaces 92 = .ok (.invokestatic 161, 3) := by decide +kernel
theorem dX8_tellPlaces_95 : decode cX8_tellPlaces 95 = .ok (.iload 7, 2) := by decide +kernel
theorem dX8_tellPlaces_97 : decode cX8_tellPlaces 97 = .ok (.aload_n 0, 1) := by decide +kernel
theorem dX8_tellPlaces_98 : decode cX8_tellPlaces 98 = .ok (.iload_n 1, 1) := by decide +kernel
theorem dX8_tellPlaces_99 : decode cX8_tellPlaces 99 = .ok (.iload 6, 2) := by decide +kernel
theorem dX8_tellPlaces_101 : decode cX8_tellPlaces 101 = .ok (.invokevirtual 155, 3) := by decide +kernel
theorem dX8_tellPlaces_104 : decode cX8_tellPlaces 104 = .ok (.iadd, 1) := by decide +kernel
theorem dX8_tellPlaces_105 : decode cX8_tellPlaces 105 = .ok (.invokestatic 161, 3) := by decide +kernel
theorem dX8_tellPlaces_108 : decode cX8_tellPlaces 108 = .ok (.if_icmp .gt 7, 3) := by decide +kernel
theorem dX8_tellPlaces_111 : decode cX8_tellPlaces 111 = .ok (.iconst 1, 1) := by decide +kernel
theorem dX8_tellPlaces_112 : decode cX8_tellPlaces 112 = .ok (.goto 4, 3) := by decide +kernel
theorem dX8_tellPlaces_115 : decode cX8_tellPlaces 115 = .ok (.iconst 0, 1) := by decide +kernel
theorem dX8_tellPlaces_116 : decode cX8_tellPlaces 116 = .ok (.istore 9, 2) := by decide +kernel
theorem dX8_tellPlaces_118 : decode cX8_tellPlaces 118 = .ok (.iload 9, 2) := by decide +kernel
theorem dX8_tellPlaces_120 : decode cX8_tellPlaces 120 = .ok (.ifCond .eq 8, 3) := by decide +kernel
theorem dX8_tellPlaces_123 : decode cX8_tellPlaces 123 = .ok (.iload 8, 2) := by decide +kernel
theorem dX8_tellPlaces_125 : decode cX8_tellPlaces 125 = .ok (.goto 5, 3) := by decide +kernel
theorem dX8_tellPlaces_128 : decode cX8_tellPlaces 128 = .ok (.iload 6, 2) := by decide +kernel
theorem dX8_tellPlaces_130 : decode cX8_tellPlaces 130 = .ok (.istore 6, 2) := by decide +kernel
theorem dX8_tellPlaces_132 : decode cX8_tellPlaces 132 = .ok (.iinc 8 (-1), 3) := by decide +kernel
theorem dX8_tellPlaces_135 : decode cX8_tellPlaces 135 = .ok (.goto (-111), 3) := by decide +kernel
theorem dX8_tellPlaces_138 : decode cX8_tellPlaces 138 = .ok (.iload_n 2, 1) := by decide +kernel
theorem dX8_tellPlaces_139 : decode cX8_tellPlaces 139 = .ok (.ifCond .ne 7, 3) := by decide +kernel
theorem dX8_tellPlaces_142 : decode cX8_tellPlaces 142 = .ok (.iload_n 3, 1) := by decide +kernel
theorem dX8_tellPlaces_143 : decode cX8_tellPlaces 143 = .ok (.goto 25, 3) := by decide +kernel
theorem dX8_tellPlaces_146 : decode cX8_tellPlaces 146 = .ok (.iload_n 2, 1) := by decide +kernel
theorem dX8_tellPlaces_147 : decode cX8_tellPlaces 147 = .ok (.iconst 1, 1) := by decide +kernel
theorem dX8_tellPlaces_148 : decode cX8_tellPlaces 148 = .ok (.if_icmp .ne 8, 3) := by decide +kernel
theorem dX8_tellPlaces_151 : decode cX8_tellPlaces 151 = .ok (.iload 4, 2) := by decide +kernel
theorem dX8_tellPlaces_153 : decode cX8_tellPlaces 153 = .ok (.goto 15, 3) := by decide +kernel
theorem dX8_tellPlaces_156 : decode cX8_tellPlaces 156 = .ok (.iload_n 2, 1) := by decide +kernel
theorem dX8_tellPlaces_157 : decode cX8_tellPlaces 157 = .ok (.iconst 2, 1) := by decide +kernel
theorem dX8_tellPlaces_158 : decode cX8_tellPlaces 158 = .ok (.if_icmp .ne 8, 3) := by decide +kernel
theorem dX8_tellPlaces_161 : decode cX8_tellPlaces 161 = .ok (.iload 5, 2) := by decide +kernel
theorem dX8_tellPlaces_163 : decode cX8_tellPlaces 163 = .ok (.goto 5, 3) := by decide +kernel
theorem dX8_tellPlaces_166 : decode cX8_tellPlaces 166 = .ok (.iload 6, 2) := by decide +kernel
theorem dX8_tellPlaces_168 : decode cX8_tellPlaces 168 = .ok (.ireturn, 1) := by decide +kernel
theorem dX8_places_0 : decode cX8_places 0 = .ok (.aload_n 0, 1) := by decide +kernel
theorem dX8_places_1 : decode cX8_places 1 = .ok (.iload_n 1, 1) := by decide +kernel
theorem dX8_places_2 : decode cX8_places 2 = .ok (.invokevirtual 136, 3) := by decide +kernel
theorem dX8_places_5 : decode cX8_places 5 = .ok (.ifCond .eq 12, 3) := by decide +kernel
theorem dX8_places_8 : decode cX8_places 8 = .ok (.iload_n 2, 1) := by decide +kernel
theorem dX8_places_9 : decode cX8_places 9 = .ok (.iconst 0, 1) := by decide +kernel
theorem dX8_places_10 : decode cX8_places 10 = .ok (.iconst 3, 1) := by decide +kernel
theorem dX8_places_11 : decode cX8_places 11 = .ok (.invokestatic 67, 3) := by decide +kernel
theorem dX8_places_14 : decode cX8_places 14 = .ok (.ifCond .ne 5, 3) := by decide +kernel
theorem dX8_places_17 : decode cX8_places 17 = .ok (.iconst (-1), 1) := by decide +kernel
theorem dX8_places_18 : decode cX8_places 18 = .ok (.ireturn, 1) := by decide +kernel
theorem dX8_places_19 : decode cX8_places 19 = .ok (.aload_n 0, 1) := by decide +kernel
theorem dX8_places_20 : decode cX8_places 20 = .ok (.iload_n 1, 1) := by decide +kernel
theorem dX8_places_21 : decode cX8_places 21 = .ok (.invokevirtual 122, 3) := by decide +kernel
theorem dX8_places_24 : decode cX8_places 24 = .ok (.ifCond .eq 8, 3) := by decide +kernel
theorem dX8_places_27 : decode cX8_places 27 = .ok (.bipush (-2), 2) := by decide +kernel
theorem dX8_places_29 : decode cX8_places 29 = .ok (.goto 9, 3) := by decide +kernel
theorem dX8_places_32 : decode cX8_places 32 = .ok (.aload_n 0, 1) := by decide +kernel
theorem dX8_places_33 : decode cX8_places 33 = .ok (.iload_n 1, 1) := by decide +kernel
theorem dX8_places_34 : decode cX8_places 34 = .ok (.iload_n 2, 1) := by decide +kernel
theorem dX8_places_35 : decode cX8_places 35 = .ok (.invokevirtual 180, 3) := by decide +kernel
theorem dX8_places_38 : decode cX8_places 38 = .ok (.ireturn, 1) := by decide +kernel
theorem dX8_reachOf_0 : decode cX8_reachOf 0 = .ok (.sipush 1000, 3) := by decide +kernel
theorem dX8_reachOf_3 : decode cX8_reachOf 3 = .ok (.istore_n 2, 1) := by decide +kernel
theorem dX8_reachOf_4 : decode cX8_reachOf 4 = .ok (.iconst 0, 1) := by decide +kernel
theorem dX8_reachOf_5 : decode cX8_reachOf 5 = .ok (.istore_n 3, 1) := by decide +kernel
theorem dX8_reachOf_6 : decode cX8_reachOf 6 = .ok (.iload_n 3, 1) := by decide +kernel
theorem dX8_reachOf_7 : decode cX8_reachOf 7 = .ok (.aload_n 0, 1) := by decide +kernel
theorem dX8_reachOf_8 : decode cX8_reachOf 8 = .ok (.getfield 7, 3) := by decide +kernel
theorem dX8_reachOf_11 : decode cX8_reachOf 11 = .ok (.iconst 3, 1) := by decide +kernel
theorem dX8_reachOf_12 : decode cX8_reachOf 12 = .ok (.iaload, 1) := by decide +kernel
theorem dX8_reachOf_13 : decode cX8_reachOf 13 = .ok (.if_icmp .ge 118, 3) := by decide +kernel
theorem dX8_reachOf_16 : decode cX8_reachOf 16 = .ok (.iload_n 1, 1) := by decide +kernel
theorem dX8_reachOf_17 : decode cX8_reachOf 17 = .ok (.iconst 1, 1) := by decide +kernel
theorem dX8_reachOf_18 : decode cX8_reachOf 18 = .ok (.iload_n 3, 1) := by decide +kernel
theorem dX8_reachOf_19 : decode cX8_reachOf 19 = .ok (.ishl, 1) := by decide +kernel
theorem dX8_reachOf_20 : decode cX8_reachOf 20 = .ok (.iconst (-1), 1) := by decide +kernel
theorem dX8_reachOf_21 : decode cX8_reachOf 21 = .ok (.ixor, 1) := by decide +kernel
theorem dX8_reachOf_22 : decode cX8_reachOf 22 = .ok (.iand, 1) := by decide +kernel
theorem dX8_reachOf_23 : decode cX8_reachOf 23 = .ok (.istore 4, 2) := by decide +kernel
theorem dX8_reachOf_25 : decode cX8_reachOf 25 = .ok (.iload_n 1, 1) := by decide +kernel
theorem dX8_reachOf_26 : decode cX8_reachOf 26 = .ok (.iload_n 3, 1) := by decide +kernel
theorem dX8_reachOf_27 : decode cX8_reachOf 27 = .ok (.invokestatic 183, 3) := by decide +kernel
theorem dX8_reachOf_30 : decode cX8_reachOf 30 = .ok (.ifCond .eq 95, 3) := by decide +kernel
theorem dX8_reachOf_33 : decode cX8_reachOf 33 = .ok (.aload_n 0, 1) := by decide +kernel
theorem dX8_reachOf_34 : decode cX8_reachOf 34 = .ok (.getfield 50, 3) := by decide +kernel
theorem dX8_reachOf_37 : decode cX8_reachOf 37 = .ok (.iload 4, 2) := by decide +kernel
theorem dX8_reachOf_39 : decode cX8_reachOf 39 = .ok (.iaload, 1) := by decide +kernel
theorem dX8_reachOf_40 : decode cX8_reachOf 40 = .ok (.sipush 1000, 3) := by decide +kernel
theorem dX8_reachOf_43 : decode cX8_reachOf 43 = .ok (.if_icmp .ge 82, 3) := by decide +kernel
theorem dX8_reachOf_46 : decode cX8_reachOf 46 = .ok (.iload 4, 2) := by decide +kernel
theorem dX8_reachOf_48 : decode cX8_reachOf 48 = .ok (.ifCond .ne 7, 3) := by decide +kernel
theorem dX8_reachOf_51 : decode cX8_reachOf 51 = .ok (.iconst 0, 1) := by decide +kernel
theorem dX8_reachOf_52 : decode cX8_reachOf 52 = .ok (.goto 17, 3) := by decide +kernel
theorem dX8_reachOf_55 : decode cX8_reachOf 55 = .ok (.aload_n 0, 1) := by decide +kernel
theorem dX8_reachOf_56 : decode cX8_reachOf 56 = .ok (.getfield 50, 3) := by decide +kernel
theorem dX8_reachOf_59 : decode cX8_reachOf 59 = .ok (.iload 4, 2) := by decide +kernel
theorem dX8_reachOf_61 : decode cX8_reachOf 61 = .ok (.iaload, 1) := by decide +kernel
theorem dX8_reachOf_62 : decode cX8_reachOf 62 = .ok (.aload_n 0, 1) := by decide +kernel
theorem dX8_reachOf_63 : decode cX8_reachOf 63 = .ok (.getfield 7, 3) := by decide +kernel
theorem dX8_reachOf_66 : decode cX8_reachOf 66 = .ok (.iconst 2, 1) := by decide +kernel
theorem dX8_reachOf_67 : decode cX8_reachOf 67 = .ok (.iaload, 1) := by decide +kernel
theorem dX8_reachOf_68 : decode cX8_reachOf 68 = .ok (.iadd, 1) := by decide +kernel
theorem dX8_reachOf_69 : decode cX8_reachOf 69 = .ok (.istore 5, 2) := by decide +kernel
theorem dX8_reachOf_71 : decode cX8_reachOf 71 = .ok (.iload 5, 2) := by decide +kernel
theorem dX8_reachOf_73 : decode cX8_reachOf 73 = .ok (.bipush 39, 2) := by decide +kernel
theorem dX8_reachOf_75 : decode cX8_reachOf 75 = .ok (.if_icmp .gt 19, 3) := by decide +kernel
theorem dX8_reachOf_78 : decode cX8_reachOf 78 = .ok (.aload_n 0, 1) := by decide +kernel
theorem dX8_reachOf_79 : decode cX8_reachOf 79 = .ok (.iload_n 3, 1) := by decide +kernel
theorem dX8_reachOf_80 : decode cX8_reachOf 80 = .ok (.iload 5, 2) := by decide +kernel
theorem dX8_reachOf_82 : decode cX8_reachOf 82 = .ok (.invokevirtual 139, 3) := by decide +kernel
theorem dX8_reachOf_85 : decode cX8_reachOf 85 = .ok (.ifCond .ne 9, 3) := by decide +kernel
theorem dX8_reachOf_88 : decode cX8_reachOf 88 = .ok (.iinc 5 1, 3) := by decide +kernel
theorem dX8_reachOf_91 : decode cX8_reachOf 91 = .ok (.goto (-20), 3) := by decide +kernel
theorem dX8_reachOf_94 : decode cX8_reachOf 94 = .ok (.iload 5, 2) := by decide +kernel
theorem dX8_reachOf_96 : decode cX8_reachOf 96 = .ok (.aload_n 0, 1) := by decide +kernel
theorem dX8_reachOf_97 : decode cX8_reachOf 97 = .ok (.iload_n 3, 1) := by decide +kernel
theorem dX8_reachOf_98 : decode cX8_reachOf 98 = .ok (.iconst 0, 1) := by decide +kernel
theorem dX8_reachOf_99 : decode cX8_reachOf 99 = .ok (.invokevirtual 118, 3) := by decide +kernel
theorem dX8_reachOf_102 : decode cX8_reachOf 102 = .ok (.iadd, 1) := by decide +kernel
theorem dX8_reachOf_103 : decode cX8_reachOf 103 = .ok (.istore 6, 2) := by decide +kernel
theorem dX8_reachOf_105 : decode cX8_reachOf 105 = .ok (.iload 5, 2) := by decide +kernel
theorem dX8_reachOf_107 : decode cX8_reachOf 107 = .ok (.bipush 39, 2) := by decide +kernel
theorem dX8_reachOf_109 : decode cX8_reachOf 109 = .ok (.if_icmp .gt 14, 3) := by decide +kernel
theorem dX8_reachOf_112 : decode cX8_reachOf 112 = .ok (.iload 6, 2) := by decide +kernel
theorem dX8_reachOf_114 : decode cX8_reachOf 114 = .ok (.iload_n 2, 1) := by decide +kernel
theorem dX8_reachOf_115 : decode cX8_reachOf 115 = .ok (.if_icmp .ge 8, 3) := by decide +kernel
theorem dX8_reachOf_118 : decode cX8_reachOf 118 = .ok (.iload 6, 2) := by decide +kernel
theorem dX8_reachOf_120 : decode cX8_reachOf 120 = .ok (.goto 4, 3) := by decide +kernel
theorem dX8_reachOf_123 : decode cX8_reachOf 123 = .ok (.iload_n 2, 1) := by decide +kernel
theorem dX8_reachOf_124 : decode cX8_reachOf 124 = .ok (.istore_n 2, 1) := by decide +kernel
theorem dX8_reachOf_125 : decode cX8_reachOf 125 = .ok (.iinc 3 1, 3) := by decide +kernel
theorem dX8_reachOf_128 : decode cX8_reachOf 128 = .ok (.goto (-122), 3) := by decide +kernel
theorem dX8_reachOf_131 : decode cX8_reachOf 131 = .ok (.iload_n 2, 1) := by decide +kernel
theorem dX8_reachOf_132 : decode cX8_reachOf 132 = .ok (.ireturn, 1) := by decide +kernel
theorem dX8_most_0 : decode cX8_most 0 = .ok (.iconst 0, 1) := by decide +kernel
theorem dX8_most_1 : decode cX8_most 1 = .ok (.istore_n 1, 1) := by decide +kernel
theorem dX8_most_2 : decode cX8_most 2 = .ok (.iconst 0, 1) := by decide +kernel
theorem dX8_most_3 : decode cX8_most 3 = .ok (.istore_n 2, 1) := by decide +kernel
theorem dX8_most_4 : decode cX8_most 4 = .ok (.iconst 0, 1) := by decide +kernel
theorem dX8_most_5 : decode cX8_most 5 = .ok (.istore_n 3, 1) := by decide +kernel
theorem dX8_most_6 : decode cX8_most 6 = .ok (.iconst 1, 1) := by decide +kernel
theorem dX8_most_7 : decode cX8_most 7 = .ok (.istore 4, 2) := by decide +kernel
theorem dX8_most_9 : decode cX8_most 9 = .ok (.iload 4, 2) := by decide +kernel
theorem dX8_most_11 : decode cX8_most 11 = .ok (.iconst 1, 1) := by decide +kernel
theorem dX8_most_12 : decode cX8_most 12 = .ok (.aload_n 0, 1) := by decide +kernel
theorem dX8_most_13 : decode cX8_most 13 = .ok (.getfield 7, 3) := by decide +kernel
theorem dX8_most_16 : decode cX8_most 16 = .ok (.iconst 3, 1) := by decide +kernel
theorem dX8_most_17 : decode cX8_most 17 = .ok (.iaload, 1) := by decide +kernel
theorem dX8_most_18 : decode cX8_most 18 = .ok (.ishl, 1) := by decide +kernel
theorem dX8_most_19 : decode cX8_most 19 = .ok (.if_icmp .ge 126, 3) := by decide +kernel
theorem dX8_most_22 : decode cX8_most 22 = .ok (.aload_n 0, 1) := by decide +kernel
theorem dX8_most_23 : decode cX8_most 23 = .ok (.getfield 50, 3) := by decide +kernel
theorem dX8_most_26 : decode cX8_most 26 = .ok (.iload 4, 2) := by decide +kernel
theorem dX8_most_28 : decode cX8_most 28 = .ok (.aload_n 0, 1) := by decide +kernel
theorem dX8_most_29 : decode cX8_most 29 = .ok (.iload 4, 2) := by decide +kernel
theorem dX8_most_31 : decode cX8_most 31 = .ok (.invokevirtual 186, 3) := by decide +kernel
theorem dX8_most_34 : decode cX8_most 34 = .ok (.iastore, 1) := by decide +kernel
theorem dX8_most_35 : decode cX8_most 35 = .ok (.iconst 0, 1) := by decide +kernel
theorem dX8_most_36 : decode cX8_most 36 = .ok (.istore 5, 2) := by decide +kernel
theorem dX8_most_38 : decode cX8_most 38 = .ok (.iconst 0, 1) := by decide +kernel
theorem dX8_most_39 : decode cX8_most 39 = .ok (.istore 6, 2) := by decide +kernel
theorem dX8_most_41 : decode cX8_most 41 = .ok (.iconst 0, 1) := by decide +kernel
theorem dX8_most_42 : decode cX8_most 42 = .ok (.istore 7, 2) := by decide +kernel
theorem dX8_most_44 : decode cX8_most 44 = .ok (.iload 7, 2) := by decide +kernel
theorem dX8_most_46 : decode cX8_most 46 = .ok (.aload_n 0, 1) := by decide +kernel
theorem dX8_most_47 : decode cX8_most 47 = .ok (.getfield 7, 3) := by decide +kernel
theorem dX8_most_50 : decode cX8_most 50 = .ok (.iconst 3, 1) := by decide +kernel
theorem dX8_most_51 : decode cX8_most 51 = .ok (.iaload, 1) := by decide +kernel
theorem dX8_most_52 : decode cX8_most 52 = .ok (.if_icmp .ge 47, 3) := by decide +kernel
theorem dX8_most_55 : decode cX8_most 55 = .ok (.iload 5, 2) := by decide +kernel
theorem dX8_most_57 : decode cX8_most 57 = .ok (.iload 4, 2) := by decide +kernel
theorem dX8_most_59 : decode cX8_most 59 = .ok (.iload 7, 2) := by decide +kernel
theorem dX8_most_61 : decode cX8_most 61 = .ok (.ishr, 1) := by decide +kernel
theorem dX8_most_62 : decode cX8_most 62 = .ok (.iconst 1, 1) := by decide +kernel
theorem dX8_most_63 : decode cX8_most 63 = .ok (.iand, 1) := by decide +kernel
theorem dX8_most_64 : decode cX8_most 64 = .ok (.iadd, 1) := by decide +kernel
theorem dX8_most_65 : decode cX8_most 65 = .ok (.istore 5, 2) := by decide +kernel
theorem dX8_most_67 : decode cX8_most 67 = .ok (.iload 6, 2) := by decide +kernel
theorem dX8_most_69 : decode cX8_most 69 = .ok (.iload 4, 2) := by decide +kernel
theorem dX8_most_71 : decode cX8_most 71 = .ok (.iload 7, 2) := by decide +kernel
theorem dX8_most_73 : decode cX8_most 73 = .ok (.invokestatic 183, 3) := by decide +kernel
theorem dX8_most_76 : decode cX8_most 76 = .ok (.ifCond .eq 13, 3) := by decide +kernel
theorem dX8_most_79 : decode cX8_most 79 = .ok (.aload_n 0, 1) := by decide +kernel
theorem dX8_most_80 : decode cX8_most 80 = .ok (.iload 7, 2) := by decide +kernel
theorem dX8_most_82 : decode cX8_most 82 = .ok (.iconst 3, 1) := by decide +kernel
theorem dX8_most_83 : decode cX8_most 83 = .ok (.invokevirtual 118, 3) := by decide +kernel
theorem dX8_most_86 : decode cX8_most 86 = .ok (.goto 4, 3) := by decide +kernel
theorem dX8_most_89 : decode cX8_most 89 = .ok (.iconst 0, 1) := by decide +kernel
theorem dX8_most_90 : decode cX8_most 90 = .ok (.iadd, 1) := by decide +kernel
theorem dX8_most_91 : decode cX8_most 91 = .ok (.istore 6, 2) := by decide +kernel
theorem dX8_most_93 : decode cX8_most 93 = .ok (.iinc 7 1, 3) := by decide +kernel
theorem dX8_most_96 : decode cX8_most 96 = .ok (.goto (-52), 3) := by decide +kernel
theorem dX8_most_99 : decode cX8_most 99 = .ok (.aload_n 0, 1) := by decide +kernel
theorem dX8_most_100 : decode cX8_most 100 = .ok (.getfield 50, 3) := by decide +kernel
theorem dX8_most_103 : decode cX8_most 103 = .ok (.iload 4, 2) := by decide +kernel
theorem dX8_most_105 : decode cX8_most 105 = .ok (.iaload, 1) := by decide +kernel
theorem dX8_most_106 : decode cX8_most 106 = .ok (.sipush 1000, 3) := by decide +kernel
theorem dX8_most_109 : decode cX8_most 109 = .ok (.if_icmp .ge 30, 3) := by decide +kernel
theorem dX8_most_112 : decode cX8_most 112 = .ok (.iload 5, 2) := by decide +kernel
theorem dX8_most_114 : decode cX8_most 114 = .ok (.iload_n 2, 1) := by decide +kernel
theorem dX8_most_115 : decode cX8_most 115 = .ok (.if_icmp .gt 15, 3) := by decide +kernel
theorem dX8_most_118 : decode cX8_most 118 = .ok (.iload 5, 2) := by decide +kernel
theorem dX8_most_120 : decode cX8_most 120 = .ok (.iload_n 2, 1) := by decide +kernel
theorem dX8_most_121 : decode cX8_most 121 = .ok (.if_icmp .ne 18, 3) := by decide +kernel
theorem dX8_most_124 : decode cX8_most 124 = .ok (.iload 6, 2) := by decide +kernel
theorem dX8_most_126 : decode cX8_most 126 = .ok (.iload_n 3, 1) := by decide +kernel
theorem dX8_most_127 : decode cX8_most 127 = .ok (.if_icmp .le 12, 3) := by decide +kernel
theorem dX8_most_130 : decode cX8_most 130 = .ok (.iload 4, 2) := by decide +kernel
theorem dX8_most_132 : decode cX8_most 132 = .ok (.istore_n 1, 1) := by decide +kernel
theorem dX8_most_133 : decode cX8_most 133 = .ok (.iload 5, 2) := by decide +kernel
theorem dX8_most_135 : decode cX8_most 135 = .ok (.istore_n 2, 1) := by decide +kernel
theorem dX8_most_136 : decode cX8_most 136 = .ok (.iload 6, 2) := by decide +kernel
theorem dX8_most_138 : decode cX8_most 138 = .ok (.istore_n 3, 1) := by decide +kernel
theorem dX8_most_139 : decode cX8_most 139 = .ok (.iinc 4 1, 3) := by decide +kernel
theorem dX8_most_142 : decode cX8_most 142 = .ok (.goto (-133), 3) := by decide +kernel
theorem dX8_most_145 : decode cX8_most 145 = .ok (.iload_n 1, 1) := by decide +kernel
theorem dX8_most_146 : decode cX8_most 146 = .ok (.ireturn, 1) := by decide +kernel
theorem dX8_sees_0 : decode cX8_sees 0 = .ok (.iload_n 1, 1) := by decide +kernel
theorem dX8_sees_1 : decode cX8_sees 1 = .ok (.iconst 0, 1) := by decide +kernel
theorem dX8_sees_2 : decode cX8_sees 2 = .ok (.iconst 3, 1) := by decide +kernel
theorem dX8_sees_3 : decode cX8_sees 3 = .ok (.invokestatic 67, 3) := by decide +kernel
theorem dX8_sees_6 : decode cX8_sees 6 = .ok (.ifCond .eq 14, 3) := by decide +kernel
theorem dX8_sees_9 : decode cX8_sees 9 = .ok (.iload_n 2, 1) := by decide +kernel
theorem dX8_sees_10 : decode cX8_sees 10 = .ok (.bipush (-99), 2) := by decide +kernel
theorem dX8_sees_12 : decode cX8_sees 12 = .ok (.bipush 99, 2) := by decide +kernel
theorem dX8_sees_14 : decode cX8_sees 14 = .ok (.invokestatic 67, 3) := by decide +kernel
theorem dX8_sees_17 : decode cX8_sees 17 = .ok (.ifCond .ne 5, 3) := by decide +kernel
theorem dX8_sees_20 : decode cX8_sees 20 = .ok (.iconst (-1), 1) := by decide +kernel
theorem dX8_sees_21 : decode cX8_sees 21 = .ok (.ireturn, 1) := by decide +kernel
theorem dX8_sees_22 : decode cX8_sees 22 = .ok (.aload_n 0, 1) := by decide +kernel
theorem dX8_sees_23 : decode cX8_sees 23 = .ok (.getfield 189, 3) := by decide +kernel
theorem dX8_sees_26 : decode cX8_sees 26 = .ok (.bipush 6, 2) := by decide +kernel
theorem dX8_sees_28 : decode cX8_sees 28 = .ok (.if_icmp .ne 6, 3) := by decide +kernel
theorem dX8_sees_31 : decode cX8_sees 31 = .ok (.bipush (-3), 2) := by decide +kernel
theorem dX8_sees_33 : decode cX8_sees 33 = .ok (.ireturn, 1) := by decide +kernel
theorem dX8_sees_34 : decode cX8_sees 34 = .ok (.aload_n 0, 1) := by decide +kernel
theorem dX8_sees_35 : decode cX8_sees 35 = .ok (.getfield 26, 3) := by decide +kernel
theorem dX8_sees_38 : decode cX8_sees 38 = .ok (.aload_n 0, 1) := by decide +kernel
theorem dX8_sees_39 : decode cX8_sees 39 = .ok (.getfield 189, 3) := by decide +kernel
theorem dX8_sees_42 : decode cX8_sees 42 = .ok (.iload_n 1, 1) := by decide +kernel
theorem dX8_sees_43 : decode cX8_sees 43 = .ok (.iastore, 1) := by decide +kernel
theorem dX8_sees_44 : decode cX8_sees 44 = .ok (.aload_n 0, 1) := by decide +kernel
theorem dX8_sees_45 : decode cX8_sees 45 = .ok (.getfield 29, 3) := by decide +kernel
theorem dX8_sees_48 : decode cX8_sees 48 = .ok (.aload_n 0, 1) := by decide +kernel
theorem dX8_sees_49 : decode cX8_sees 49 = .ok (.getfield 189, 3) := by decide +kernel
theorem dX8_sees_52 : decode cX8_sees 52 = .ok (.iload_n 2, 1) := by decide +kernel
theorem dX8_sees_53 : decode cX8_sees 53 = .ok (.iastore, 1) := by decide +kernel
theorem dX8_sees_54 : decode cX8_sees 54 = .ok (.aload_n 0, 1) := by decide +kernel
theorem dX8_sees_55 : decode cX8_sees 55 = .ok (.dup, 1) := by decide +kernel
theorem dX8_sees_56 : decode cX8_sees 56 = .ok (.getfield 189, 3) := by decide +kernel
theorem dX8_sees_59 : decode cX8_sees 59 = .ok (.iconst 1, 1) := by decide +kernel
theorem dX8_sees_60 : decode cX8_sees 60 = .ok (.iadd, 1) := by decide +kernel
theorem dX8_sees_61 : decode cX8_sees 61 = .ok (.putfield 189, 3) := by decide +kernel
theorem dX8_sees_64 : decode cX8_sees 64 = .ok (.aload_n 0, 1) := by decide +kernel
theorem dX8_sees_65 : decode cX8_sees 65 = .ok (.getfield 189, 3) := by decide +kernel
theorem dX8_sees_68 : decode cX8_sees 68 = .ok (.ireturn, 1) := by decide +kernel
theorem dX8_forget_0 : decode cX8_forget 0 = .ok (.aload_n 0, 1) := by decide +kernel
theorem dX8_forget_1 : decode cX8_forget 1 = .ok (.getfield 189, 3) := by decide +kernel
theorem dX8_forget_4 : decode cX8_forget 4 = .ok (.istore_n 1, 1) := by decide +kernel
theorem dX8_forget_5 : decode cX8_forget 5 = .ok (.aload_n 0, 1) := by decide +kernel
theorem dX8_forget_6 : decode cX8_forget 6 = .ok (.iconst 0, 1) := by decide +kernel
theorem dX8_forget_7 : decode cX8_forget 7 = .ok (.putfield 189, 3) := by decide +kernel
theorem dX8_forget_10 : decode cX8_forget 10 = .ok (.iload_n 1, 1) := by decide +kernel
theorem dX8_forget_11 : decode cX8_forget 11 = .ok (.ireturn, 1) := by decide +kernel
theorem dX8_isSeen_0 : decode cX8_isSeen 0 = .ok (.iconst 1, 1) := by decide +kernel
theorem dX8_isSeen_1 : decode cX8_isSeen 1 = .ok (.istore_n 2, 1) := by decide +kernel
theorem dX8_isSeen_2 : decode cX8_isSeen 2 = .ok (.iconst 0, 1) := by decide +kernel
theorem dX8_isSeen_3 : decode cX8_isSeen 3 = .ok (.istore_n 3, 1) := by decide +kernel
theorem dX8_isSeen_4 : decode cX8_isSeen 4 = .ok (.iload_n 3, 1) := by decide +kernel
theorem dX8_isSeen_5 : decode cX8_isSeen 5 = .ok (.aload_n 0, 1) := by decide +kernel
theorem dX8_isSeen_6 : decode cX8_isSeen 6 = .ok (.getfield 189, 3) := by decide +kernel
theorem dX8_isSeen_9 : decode cX8_isSeen 9 = .ok (.if_icmp .ge 71, 3) := by decide +kernel
theorem dX8_isSeen_12 : decode cX8_isSeen 12 = .ok (.aload_n 0, 1) := by decide +kernel
theorem dX8_isSeen_13 : decode cX8_isSeen 13 = .ok (.getfield 26, 3) := by decide +kernel
theorem dX8_isSeen_16 : decode cX8_isSeen 16 = .ok (.iload_n 3, 1) := by decide +kernel
theorem dX8_isSeen_17 : decode cX8_isSeen 17 = .ok (.iaload, 1) := by decide +kernel
theorem dX8_isSeen_18 : decode cX8_isSeen 18 = .ok (.istore 4, 2) := by decide +kernel
theorem dX8_isSeen_20 : decode cX8_isSeen 20 = .ok (.iload 4, 2) := by decide +kernel
theorem dX8_isSeen_22 : decode cX8_isSeen 22 = .ok (.iconst 3, 1) := by decide +kernel
theorem dX8_isSeen_23 : decode cX8_isSeen 23 = .ok (.if_icmp .ne 11, 3) := by decide +kernel
theorem dX8_isSeen_26 : decode cX8_isSeen 26 = .ok (.aload_n 0, 1) := by decide +kernel
theorem dX8_isSeen_27 : decode cX8_isSeen 27 = .ok (.iload_n 1, 1) := by decide +kernel
theorem dX8_isSeen_28 : decode cX8_isSeen 28 = .ok (.invokevirtual 129, 3) := by decide +kernel
theorem dX8_isSeen_31 : decode cX8_isSeen 31 = .ok (.goto 20, 3) := by decide +kernel
theorem dX8_isSeen_34 : decode cX8_isSeen 34 = .ok (.aload_n 0, 1) := by decide +kernel
theorem dX8_isSeen_35 : decode cX8_isSeen 35 = .ok (.iload_n 1, 1) := by decide +kernel
theorem dX8_isSeen_36 : decode cX8_isSeen 36 = .ok (.iload 4, 2) := by decide +kernel
theorem dX8_isSeen_38 : decode cX8_isSeen 38 = .ok (.iconst 2, 1) := by decide +kernel
theorem dX8_isSeen_39 : decode cX8_isSeen 39 = .ok (.if_icmp .ne 7, 3) := by decide +kernel
theorem dX8_isSeen_42 : decode cX8_isSeen 42 = .ok (.iconst 3, 1) := by decide +kernel
theorem dX8_isSeen_43 : decode cX8_isSeen 43 = .ok (.goto 5, 3) := by decide +kernel
theorem dX8_isSeen_46 : decode cX8_isSeen 46 = .ok (.iload 4, 2) := by decide +kernel
theorem dX8_isSeen_48 : decode cX8_isSeen 48 = .ok (.invokevirtual 118, 3) := by decide +kernel
theorem dX8_isSeen_51 : decode cX8_isSeen 51 = .ok (.istore 5, 2) := by decide +kernel
theorem dX8_isSeen_53 : decode cX8_isSeen 53 = .ok (.iload_n 2, 1) := by decide +kernel
theorem dX8_isSeen_54 : decode cX8_isSeen 54 = .ok (.ifCond .eq 18, 3) := by decide +kernel
theorem dX8_isSeen_57 : decode cX8_isSeen 57 = .ok (.iload 5, 2) := by decide +kernel
theorem dX8_isSeen_59 : decode cX8_isSeen 59 = .ok (.aload_n 0, 1) := by decide +kernel
theorem dX8_isSeen_60 : decode cX8_isSeen 60 = .ok (.getfield 29, 3) := by decide +kernel
theorem dX8_isSeen_63 : decode cX8_isSeen 63 = .ok (.iload_n 3, 1) := by decide +kernel
theorem dX8_isSeen_64 : decode cX8_isSeen 64 = .ok (.iaload, 1) := by decide +kernel
theorem dX8_isSeen_65 : decode cX8_isSeen 65 = .ok (.if_icmp .ne 7, 3) := by decide +kernel
theorem dX8_isSeen_68 : decode cX8_isSeen 68 = .ok (.iconst 1, 1) := by decide +kernel
theorem dX8_isSeen_69 : decode cX8_isSeen 69 = .ok (.goto 4, 3) := by decide +kernel
theorem dX8_isSeen_72 : decode cX8_isSeen 72 = .ok (.iconst 0, 1) := by decide +kernel
theorem dX8_isSeen_73 : decode cX8_isSeen 73 = .ok (.istore_n 2, 1) := by decide +kernel
theorem dX8_isSeen_74 : decode cX8_isSeen 74 = .ok (.iinc 3 1, 3) := by decide +kernel
theorem dX8_isSeen_77 : decode cX8_isSeen 77 = .ok (.goto (-73), 3) := by decide +kernel
theorem dX8_isSeen_80 : decode cX8_isSeen 80 = .ok (.iload_n 2, 1) := by decide +kernel
theorem dX8_isSeen_81 : decode cX8_isSeen 81 = .ok (.ireturn, 1) := by decide +kernel
theorem dX8_which_0 : decode cX8_which 0 = .ok (.iconst 0, 1) := by decide +kernel
theorem dX8_which_1 : decode cX8_which 1 = .ok (.istore_n 2, 1) := by decide +kernel
theorem dX8_which_2 : decode cX8_which 2 = .ok (.bipush (-9), 2) := by decide +kernel
theorem dX8_which_4 : decode cX8_which 4 = .ok (.istore_n 3, 1) := by decide +kernel
theorem dX8_which_5 : decode cX8_which 5 = .ok (.aload_n 0, 1) := by decide +kernel
theorem dX8_which_6 : decode cX8_which 6 = .ok (.getfield 7, 3) := by decide +kernel
theorem dX8_which_9 : decode cX8_which 9 = .ok (.iconst 3, 1) := by decide +kernel
theorem dX8_which_10 : decode cX8_which 10 = .ok (.iaload, 1) := by decide +kernel
theorem dX8_which_11 : decode cX8_which 11 = .ok (.iconst 1, 1) := by decide +kernel
theorem dX8_which_12 : decode cX8_which 12 = .ok (.isub, 1) := by decide +kernel
theorem dX8_which_13 : decode cX8_which 13 = .ok (.istore 4, 2) := by decide +kernel
theorem dX8_which_15 : decode cX8_which 15 = .ok (.iload 4, 2) := by decide +kernel
theorem dX8_which_17 : decode cX8_which 17 = .ok (.ifCond .lt 42, 3) := by decide +kernel
theorem dX8_which_20 : decode cX8_which 20 = .ok (.iload_n 2, 1) := by decide +kernel
theorem dX8_which_21 : decode cX8_which 21 = .ok (.aload_n 0, 1) := by decide +kernel
theorem dX8_which_22 : decode cX8_which 22 = .ok (.iload 4, 2) := by decide +kernel
theorem dX8_which_24 : decode cX8_which 24 = .ok (.invokevirtual 192, 3) := by decide +kernel
theorem dX8_which_27 : decode cX8_which 27 = .ok (.ifCond .eq 7, 3) := by decide +kernel
theorem dX8_which_30 : decode cX8_which 30 = .ok (.iconst 1, 1) := by decide +kernel
theorem dX8_which_31 : decode cX8_which 31 = .ok (.goto 4, 3) := by decide +kernel
theorem dX8_which_34 : decode cX8_which 34 = .ok (.iconst 0, 1) := by decide +kernel
theorem dX8_which_35 : decode cX8_which 35 = .ok (.iadd, 1) := by decide +kernel
theorem dX8_which_36 : decode cX8_which 36 = .ok (.istore_n 2, 1) := by decide +kernel
theorem dX8_which_37 : decode cX8_which 37 = .ok (.aload_n 0, 1) := by decide +kernel
theorem dX8_which_38 : decode cX8_which 38 = .ok (.iload 4, 2) := by decide +kernel
theorem dX8_which_40 : decode cX8_which 40 = .ok (.invokevirtual 192, 3) := by decide +kernel
theorem dX8_which_43 : decode cX8_which 43 = .ok (.ifCond .eq 8, 3) := by decide +kernel
theorem dX8_which_46 : decode cX8_which 46 = .ok (.iload 4, 2) := by decide +kernel
theorem dX8_which_48 : decode cX8_which 48 = .ok (.goto 4, 3) := by decide +kernel
theorem dX8_which_51 : decode cX8_which 51 = .ok (.iload_n 3, 1) := by decide +kernel
theorem dX8_which_52 : decode cX8_which 52 = .ok (.istore_n 3, 1) := by decide +kernel
theorem dX8_which_53 : decode cX8_which 53 = .ok (.iinc 4 (-1), 3) := by decide +kernel
theorem dX8_which_56 : decode cX8_which 56 = .ok (.goto (-41), 3) := by decide +kernel
theorem dX8_which_59 : decode cX8_which 59 = .ok (.iload_n 1, 1) := by decide +kernel
theorem dX8_which_60 : decode cX8_which 60 = .ok (.ifCond .ne 7, 3) := by decide +kernel
theorem dX8_which_63 : decode cX8_which 63 = .ok (.iload_n 2, 1) := by decide +kernel
theorem dX8_which_64 : decode cX8_which 64 = .ok (.goto 13, 3) := by decide +kernel
theorem dX8_which_67 : decode cX8_which 67 = .ok (.iload_n 1, 1) := by decide +kernel
theorem dX8_which_68 : decode cX8_which 68 = .ok (.iconst 1, 1) := by decide +kernel
theorem dX8_which_69 : decode cX8_which 69 = .ok (.if_icmp .ne 7, 3) := by decide +kernel
theorem dX8_which_72 : decode cX8_which 72 = .ok (.iload_n 3, 1) := by decide +kernel
theorem dX8_which_73 : decode cX8_which 73 = .ok (.goto 4, 3) := by decide +kernel
theorem dX8_which_76 : decode cX8_which 76 = .ok (.iconst (-1), 1) := by decide +kernel
theorem dX8_which_77 : decode cX8_which 77 = .ok (.ireturn, 1) := by decide +kernel
theorem dX8_hanging_0 : decode cX8_hanging 0 = .ok (.iconst 0, 1) := by decide +kernel
theorem dX8_hanging_1 : decode cX8_hanging 1 = .ok (.istore_n 1, 1) := by decide +kernel
theorem dX8_hanging_2 : decode cX8_hanging 2 = .ok (.iconst 0, 1) := by decide +kernel
theorem dX8_hanging_3 : decode cX8_hanging 3 = .ok (.istore_n 2, 1) := by decide +kernel
theorem dX8_hanging_4 : decode cX8_hanging 4 = .ok (.iload_n 2, 1) := by decide +kernel
theorem dX8_hanging_5 : decode cX8_hanging 5 = .ok (.aload_n 0, 1) := by decide +kernel
theorem dX8_hanging_6 : decode cX8_hanging 6 = .ok (.getfield 7, 3) := by decide +kernel
theorem dX8_hanging_9 : decode cX8_hanging 9 = .ok (.iconst 3, 1) := by decide +kernel
theorem dX8_hanging_10 : decode cX8_hanging 10 = .ok (.iaload, 1) := by decide +kernel
theorem dX8_hanging_11 : decode cX8_hanging 11 = .ok (.if_icmp .ge 25, 3) := by decide +kernel
theorem dX8_hanging_14 : decode cX8_hanging 14 = .ok (.iload_n 1, 1) := by decide +kernel
theorem dX8_hanging_15 : decode cX8_hanging 15 = .ok (.aload_n 0, 1) := by decide +kernel
theorem dX8_hanging_16 : decode cX8_hanging 16 = .ok (.iload_n 2, 1) := by decide +kernel
theorem dX8_hanging_17 : decode cX8_hanging 17 = .ok (.invokevirtual 122, 3) := by decide +kernel
theorem dX8_hanging_20 : decode cX8_hanging 20 = .ok (.ifCond .eq 7, 3) := by decide +kernel
theorem dX8_hanging_23 : decode cX8_hanging 23 = .ok (.iconst 1, 1) := by decide +kernel
theorem dX8_hanging_24 : decode cX8_hanging 24 = .ok (.goto 4, 3) := by decide +kernel
theorem dX8_hanging_27 : decode cX8_hanging 27 = .ok (.iconst 0, 1) := by decide +kernel
theorem dX8_hanging_28 : decode cX8_hanging 28 = .ok (.iadd, 1) := by decide +kernel
theorem dX8_hanging_29 : decode cX8_hanging 29 = .ok (.istore_n 1, 1) := by decide +kernel
theorem dX8_hanging_30 : decode cX8_hanging 30 = .ok (.iinc 2 1, 3) := by decide +kernel
theorem dX8_hanging_33 : decode cX8_hanging 33 = .ok (.goto (-29), 3) := by decide +kernel
theorem dX8_hanging_36 : decode cX8_hanging 36 = .ok (.iload_n 1, 1) := by decide +kernel
theorem dX8_hanging_37 : decode cX8_hanging 37 = .ok (.ireturn, 1) := by decide +kernel
theorem dX8_keep_0 : decode cX8_keep 0 = .ok (.iload_n 1, 1) := by decide +kernel
theorem dX8_keep_1 : decode cX8_keep 1 = .ok (.iconst 0, 1) := by decide +kernel
theorem dX8_keep_2 : decode cX8_keep 2 = .ok (.iconst 1, 1) := by decide +kernel
theorem dX8_keep_3 : decode cX8_keep 3 = .ok (.invokestatic 67, 3) := by decide +kernel
theorem dX8_keep_6 : decode cX8_keep 6 = .ok (.ifCond .ne 5, 3) := by decide +kernel
theorem dX8_keep_9 : decode cX8_keep 9 = .ok (.iconst (-1), 1) := by decide +kernel
theorem dX8_keep_10 : decode cX8_keep 10 = .ok (.ireturn, 1) := by decide +kernel
theorem dX8_keep_11 : decode cX8_keep 11 = .ok (.iconst 0, 1) := by decide +kernel
theorem dX8_keep_12 : decode cX8_keep 12 = .ok (.istore_n 2, 1) := by decide +kernel
theorem dX8_keep_13 : decode cX8_keep 13 = .ok (.iload_n 2, 1) := by decide +kernel
theorem dX8_keep_14 : decode cX8_keep 14 = .ok (.bipush 69, 2) := by decide +kernel
theorem dX8_keep_16 : decode cX8_keep 16 = .ok (.if_icmp .ge 26, 3) := by decide +kernel
theorem dX8_keep_19 : decode cX8_keep 19 = .ok (.aload_n 0, 1) := by decide +kernel
theorem dX8_keep_20 : decode cX8_keep 20 = .ok (.getfield 19, 3) := by decide +kernel
theorem dX8_keep_23 : decode cX8_keep 23 = .ok (.bipush 69, 2) := by decide +kernel
theorem dX8_keep_25 : decode cX8_keep 25 = .ok (.iload_n 1, 1) := by decide +kernel
theorem dX8_keep_26 : decode cX8_keep 26 = .ok (.imul, 1) := by decide +kernel
theorem dX8_keep_27 : decode cX8_keep 27 = .ok (.iload_n 2, 1) := by decide +kernel
theorem dX8_keep_28 : decode cX8_keep 28 = .ok (.iadd, 1) := by decide +kernel
