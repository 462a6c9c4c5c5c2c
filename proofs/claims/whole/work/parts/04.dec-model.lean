theorem dX7_init_0 : decode cX7_init 0 = .ok (.aload_n 0, 1) := by decide +kernel
theorem dX7_init_1 : decode cX7_init 1 = .ok (.invokespecial 1, 3) := by decide +kernel
theorem dX7_init_4 : decode cX7_init 4 = .ok (.aload_n 0, 1) := by decide +kernel
theorem dX7_init_5 : decode cX7_init 5 = .ok (.bipush 48, 2) := by decide +kernel
theorem dX7_init_7 : decode cX7_init 7 = .ok (.newarray .int, 2) := by decide +kernel
theorem dX7_init_9 : decode cX7_init 9 = .ok (.putfield 7, 3) := by decide +kernel
theorem dX7_init_12 : decode cX7_init 12 = .ok (.aload_n 0, 1) := by decide +kernel
theorem dX7_init_13 : decode cX7_init 13 = .ok (.sipush 288, 3) := by decide +kernel
theorem dX7_init_16 : decode cX7_init 16 = .ok (.newarray .int, 2) := by decide +kernel
theorem dX7_init_18 : decode cX7_init 18 = .ok (.putfield 13, 3) := by decide +kernel
theorem dX7_init_21 : decode cX7_init 21 = .ok (.aload_n 0, 1) := by decide +kernel
theorem dX7_init_22 : decode cX7_init 22 = .ok (.bipush 60, 2) := by decide +kernel
theorem dX7_init_24 : decode cX7_init 24 = .ok (.newarray .int, 2) := by decide +kernel
theorem dX7_init_26 : decode cX7_init 26 = .ok (.putfield 16, 3) := by decide +kernel
theorem dX7_init_29 : decode cX7_init 29 = .ok (.aload_n 0, 1) := by decide +kernel
theorem dX7_init_30 : decode cX7_init 30 = .ok (.getfield 7, 3) := by decide +kernel
theorem dX7_init_33 : decode cX7_init 33 = .ok (.iconst 3, 1) := by decide +kernel
theorem dX7_init_34 : decode cX7_init 34 = .ok (.iconst 3, 1) := by decide +kernel
theorem dX7_init_35 : decode cX7_init 35 = .ok (.iastore, 1) := by decide +kernel
theorem dX7_init_36 : decode cX7_init 36 = .ok (.return_, 1) := by decide +kernel
theorem dX7_thrown_0 : decode cX7_thrown 0 = .ok (.aload_n 0, 1) := by decide +kernel
theorem dX7_thrown_1 : decode cX7_thrown 1 = .ok (.getfield 19, 3) := by decide +kernel
theorem dX7_thrown_4 : decode cX7_thrown 4 = .ok (.ireturn, 1) := by decide +kernel
theorem dX7_fails_0 : decode cX7_fails 0 = .ok (.aload_n 0, 1) := by decide +kernel
theorem dX7_fails_1 : decode cX7_fails 1 = .ok (.iload_n 1, 1) := by decide +kernel
theorem dX7_fails_2 : decode cX7_fails 2 = .ok (.putfield 19, 3) := by decide +kernel
theorem dX7_fails_5 : decode cX7_fails 5 = .ok (.iconst 0, 1) := by decide +kernel
theorem dX7_fails_6 : decode cX7_fails 6 = .ok (.ireturn, 1) := by decide +kernel
theorem dX7_within_0 : decode cX7_within 0 = .ok (.iload_n 0, 1) := by decide +kernel
theorem dX7_within_1 : decode cX7_within 1 = .ok (.iload_n 1, 1) := by decide +kernel
theorem dX7_within_2 : decode cX7_within 2 = .ok (.if_icmp .lt 12, 3) := by decide +kernel
theorem dX7_within_5 : decode cX7_within 5 = .ok (.iload_n 0, 1) := by decide +kernel
theorem dX7_within_6 : decode cX7_within 6 = .ok (.iload_n 2, 1) := by decide +kernel
theorem dX7_within_7 : decode cX7_within 7 = .ok (.if_icmp .gt 7, 3) := by decide +kernel
theorem dX7_within_10 : decode cX7_within 10 = .ok (.iconst 1, 1) := by decide +kernel
theorem dX7_within_11 : decode cX7_within 11 = .ok (.goto 4, 3) := by decide +kernel
theorem dX7_within_14 : decode cX7_within 14 = .ok (.iconst 0, 1) := by decide +kernel
theorem dX7_within_15 : decode cX7_within 15 = .ok (.ireturn, 1) := by decide +kernel
theorem dX7_isStreet_0 : decode cX7_isStreet 0 = .ok (.iload_n 0, 1) := by decide +kernel
theorem dX7_isStreet_1 : decode cX7_isStreet 1 = .ok (.iconst 0, 1) := by decide +kernel
theorem dX7_isStreet_2 : decode cX7_isStreet 2 = .ok (.bipush 29, 2) := by decide +kernel
theorem dX7_isStreet_4 : decode cX7_isStreet 4 = .ok (.invokestatic 23, 3) := by decide +kernel
theorem dX7_isStreet_7 : decode cX7_isStreet 7 = .ok (.ireturn, 1) := by decide +kernel
theorem dX7_isEdition_0 : decode cX7_isEdition 0 = .ok (.iload_n 0, 1) := by decide +kernel
theorem dX7_isEdition_1 : decode cX7_isEdition 1 = .ok (.iconst 0, 1) := by decide +kernel
theorem dX7_isEdition_2 : decode cX7_isEdition 2 = .ok (.bipush 15, 2) := by decide +kernel
theorem dX7_isEdition_4 : decode cX7_isEdition 4 = .ok (.invokestatic 23, 3) := by decide +kernel
theorem dX7_isEdition_7 : decode cX7_isEdition 7 = .ok (.ireturn, 1) := by decide +kernel
theorem dX7_isFollower_0 : decode cX7_isFollower 0 = .ok (.iload_n 0, 1) := by decide +kernel
theorem dX7_isFollower_1 : decode cX7_isFollower 1 = .ok (.iconst 0, 1) := by decide +kernel
theorem dX7_isFollower_2 : decode cX7_isFollower 2 = .ok (.iconst 3, 1) := by decide +kernel
theorem dX7_isFollower_3 : decode cX7_isFollower 3 = .ok (.invokestatic 23, 3) := by decide +kernel
theorem dX7_isFollower_6 : decode cX7_isFollower 6 = .ok (.ireturn, 1) := by decide +kernel
theorem dX7_ones_0 : decode cX7_ones 0 = .ok (.iconst 0, 1) := by decide +kernel
theorem dX7_ones_1 : decode cX7_ones 1 = .ok (.istore_n 1, 1) := by decide +kernel
theorem dX7_ones_2 : decode cX7_ones 2 = .ok (.iconst 0, 1) := by decide +kernel
theorem dX7_ones_3 : decode cX7_ones 3 = .ok (.istore_n 2, 1) := by decide +kernel
theorem dX7_ones_4 : decode cX7_ones 4 = .ok (.iload_n 2, 1) := by decide +kernel
theorem dX7_ones_5 : decode cX7_ones 5 = .ok (.bipush 30, 2) := by decide +kernel
theorem dX7_ones_7 : decode cX7_ones 7 = .ok (.if_icmp .ge 17, 3) := by decide +kernel
theorem dX7_ones_10 : decode cX7_ones 10 = .ok (.iload_n 1, 1) := by decide +kernel
theorem dX7_ones_11 : decode cX7_ones 11 = .ok (.iload_n 0, 1) := by decide +kernel
theorem dX7_ones_12 : decode cX7_ones 12 = .ok (.iload_n 2, 1) := by decide +kernel
theorem dX7_ones_13 : decode cX7_ones 13 = .ok (.ishr, 1) := by decide +kernel
theorem dX7_ones_14 : decode cX7_ones 14 = .ok (.iconst 1, 1) := by decide +kernel
theorem dX7_ones_15 : decode cX7_ones 15 = .ok (.iand, 1) := by decide +kernel
theorem dX7_ones_16 : decode cX7_ones 16 = .ok (.iadd, 1) := by decide +kernel
theorem dX7_ones_17 : decode cX7_ones 17 = .ok (.istore_n 1, 1) := by decide +kernel
theorem dX7_ones_18 : decode cX7_ones 18 = .ok (.iinc 2 1, 3) := by decide +kernel
theorem dX7_ones_21 : decode cX7_ones 21 = .ok (.goto (-17), 3) := by decide +kernel
theorem dX7_ones_24 : decode cX7_ones 24 = .ok (.iload_n 1, 1) := by decide +kernel
theorem dX7_ones_25 : decode cX7_ones 25 = .ok (.ireturn, 1) := by decide +kernel
theorem dX7_of_0 : decode cX7_of 0 = .ok (.aload_n 0, 1) := by decide +kernel
theorem dX7_of_1 : decode cX7_of 1 = .ok (.getfield 7, 3) := by decide +kernel
theorem dX7_of_4 : decode cX7_of 4 = .ok (.bipush 24, 2) := by decide +kernel
theorem dX7_of_6 : decode cX7_of 6 = .ok (.bipush 6, 2) := by decide +kernel
theorem dX7_of_8 : decode cX7_of 8 = .ok (.iload_n 1, 1) := by decide +kernel
theorem dX7_of_9 : decode cX7_of 9 = .ok (.imul, 1) := by decide +kernel
theorem dX7_of_10 : decode cX7_of 10 = .ok (.iadd, 1) := by decide +kernel
theorem dX7_of_11 : decode cX7_of 11 = .ok (.iload_n 2, 1) := by decide +kernel
theorem dX7_of_12 : decode cX7_of 12 = .ok (.iadd, 1) := by decide +kernel
theorem dX7_of_13 : decode cX7_of 13 = .ok (.iaload, 1) := by decide +kernel
theorem dX7_of_14 : decode cX7_of 14 = .ok (.ireturn, 1) := by decide +kernel
theorem dX7_setOf_0 : decode cX7_setOf 0 = .ok (.aload_n 0, 1) := by decide +kernel
theorem dX7_setOf_1 : decode cX7_setOf 1 = .ok (.getfield 7, 3) := by decide +kernel
theorem dX7_setOf_4 : decode cX7_setOf 4 = .ok (.bipush 24, 2) := by decide +kernel
theorem dX7_setOf_6 : decode cX7_setOf 6 = .ok (.bipush 6, 2) := by decide +kernel
theorem dX7_setOf_8 : decode cX7_setOf 8 = .ok (.iload_n 1, 1) := by decide +kernel
theorem dX7_setOf_9 : decode cX7_setOf 9 = .ok (.imul, 1) := by decide +kernel
theorem dX7_setOf_10 : decode cX7_setOf 10 = .ok (.iadd, 1) := by decide +kernel
theorem dX7_setOf_11 : decode cX7_setOf 11 = .ok (.iload_n 2, 1) := by decide +kernel
theorem dX7_setOf_12 : decode cX7_setOf 12 = .ok (.iadd, 1) := by decide +kernel
theorem dX7_setOf_13 : decode cX7_setOf 13 = .ok (.iload_n 3, 1) := by decide +kernel
theorem dX7_setOf_14 : decode cX7_setOf 14 = .ok (.iastore, 1) := by decide +kernel
theorem dX7_setOf_15 : decode cX7_setOf 15 = .ok (.return_, 1) := by decide +kernel
theorem dX7_ofDifference_0 : decode cX7_ofDifference 0 = .ok (.aload_n 0, 1) := by decide +kernel
theorem dX7_ofDifference_1 : decode cX7_ofDifference 1 = .ok (.getfield 7, 3) := by decide +kernel
theorem dX7_ofDifference_4 : decode cX7_ofDifference 4 = .ok (.bipush 6, 2) := by decide +kernel
theorem dX7_ofDifference_6 : decode cX7_ofDifference 6 = .ok (.iconst 3, 1) := by decide +kernel
theorem dX7_ofDifference_7 : decode cX7_ofDifference 7 = .ok (.iload_n 1, 1) := by decide +kernel
theorem dX7_ofDifference_8 : decode cX7_ofDifference 8 = .ok (.imul, 1) := by decide +kernel
theorem dX7_ofDifference_9 : decode cX7_ofDifference 9 = .ok (.iadd, 1) := by decide +kernel
theorem dX7_ofDifference_10 : decode cX7_ofDifference 10 = .ok (.iload_n 2, 1) := by decide +kernel
theorem dX7_ofDifference_11 : decode cX7_ofDifference 11 = .ok (.iadd, 1) := by decide +kernel
theorem dX7_ofDifference_12 : decode cX7_ofDifference 12 = .ok (.iaload, 1) := by decide +kernel
theorem dX7_ofDifference_13 : decode cX7_ofDifference 13 = .ok (.ireturn, 1) := by decide +kernel
theorem dX7_save_0 : decode cX7_save 0 = .ok (.aload_n 0, 1) := by decide +kernel
theorem dX7_save_1 : decode cX7_save 1 = .ok (.getfield 27, 3) := by decide +kernel
theorem dX7_save_4 : decode cX7_save 4 = .ok (.bipush 6, 2) := by decide +kernel
theorem dX7_save_6 : decode cX7_save 6 = .ok (.if_icmp .ne 43, 3) := by decide +kernel
theorem dX7_save_9 : decode cX7_save 9 = .ok (.iconst 0, 1) := by decide +kernel
theorem dX7_save_10 : decode cX7_save 10 = .ok (.istore_n 1, 1) := by decide +kernel
theorem dX7_save_11 : decode cX7_save 11 = .ok (.iload_n 1, 1) := by decide +kernel
theorem dX7_save_12 : decode cX7_save 12 = .ok (.sipush 240, 3) := by decide +kernel
theorem dX7_save_15 : decode cX7_save 15 = .ok (.if_icmp .ge 24, 3) := by decide +kernel
theorem dX7_save_18 : decode cX7_save 18 = .ok (.aload_n 0, 1) := by decide +kernel
theorem dX7_save_19 : decode cX7_save 19 = .ok (.getfield 13, 3) := by decide +kernel
theorem dX7_save_22 : decode cX7_save 22 = .ok (.iload_n 1, 1) := by decide +kernel
theorem dX7_save_23 : decode cX7_save 23 = .ok (.aload_n 0, 1) := by decide +kernel
theorem dX7_save_24 : decode cX7_save 24 = .ok (.getfield 13, 3) := by decide +kernel
theorem dX7_save_27 : decode cX7_save 27 = .ok (.iload_n 1, 1) := by decide +kernel
theorem dX7_save_28 : decode cX7_save 28 = .ok (.bipush 48, 2) := by decide +kernel
theorem dX7_save_30 : decode cX7_save 30 = .ok (.iadd, 1) := by decide +kernel
theorem dX7_save_31 : decode cX7_save 31 = .ok (.iaload, 1) := by decide +kernel
theorem dX7_save_32 : decode cX7_save 32 = .ok (.iastore, 1) := by decide +kernel
theorem dX7_save_33 : decode cX7_save 33 = .ok (.iinc 1 1, 3) := by decide +kernel
theorem dX7_save_36 : decode cX7_save 36 = .ok (.goto (-25), 3) := by decide +kernel
theorem dX7_save_39 : decode cX7_save 39 = .ok (.aload_n 0, 1) := by decide +kernel
theorem dX7_save_40 : decode cX7_save 40 = .ok (.dup, 1) := by decide +kernel
theorem dX7_save_41 : decode cX7_save 41 = .ok (.getfield 27, 3) := by decide +kernel
theorem dX7_save_44 : decode cX7_save 44 = .ok (.iconst 1, 1) := by decide +kernel
theorem dX7_save_45 : decode cX7_save 45 = .ok (.isub, 1) := by decide +kernel
theorem dX7_save_46 : decode cX7_save 46 = .ok (.putfield 27, 3) := by decide +kernel
theorem dX7_save_49 : decode cX7_save 49 = .ok (.iconst 0, 1) := by decide +kernel
theorem dX7_save_50 : decode cX7_save 50 = .ok (.istore_n 1, 1) := by decide +kernel
theorem dX7_save_51 : decode cX7_save 51 = .ok (.iload_n 1, 1) := by decide +kernel
theorem dX7_save_52 : decode cX7_save 52 = .ok (.bipush 48, 2) := by decide +kernel
theorem dX7_save_54 : decode cX7_save 54 = .ok (.if_icmp .ge 29, 3) := by decide +kernel
theorem dX7_save_57 : decode cX7_save 57 = .ok (.aload_n 0, 1) := by decide +kernel
theorem dX7_save_58 : decode cX7_save 58 = .ok (.getfield 13, 3) := by decide +kernel
theorem dX7_save_61 : decode cX7_save 61 = .ok (.aload_n 0, 1) := by decide +kernel
theorem dX7_save_62 : decode cX7_save 62 = .ok (.getfield 27, 3) := by decide +kernel
theorem dX7_save_65 : decode cX7_save 65 = .ok (.bipush 48, 2) := by decide +kernel
theorem dX7_save_67 : decode cX7_save 67 = .ok (.imul, 1) := by decide +kernel
theorem dX7_save_68 : decode cX7_save 68 = .ok (.iload_n 1, 1) := by decide +kernel
theorem dX7_save_69 : decode cX7_save 69 = .ok (.iadd, 1) := by decide +kernel
theorem dX7_save_70 : decode cX7_save 70 = .ok (.aload_n 0, 1) := by decide +kernel
theorem dX7_save_71 : decode cX7_save 71 = .ok (.getfield 7, 3) := by decide +kernel
theorem dX7_save_74 : decode cX7_save 74 = .ok (.iload_n 1, 1) := by decide +kernel
theorem dX7_save_75 : decode cX7_save 75 = .ok (.iaload, 1) := by decide +kernel
theorem dX7_save_76 : decode cX7_save 76 = .ok (.iastore, 1) := by decide +kernel
theorem dX7_save_77 : decode cX7_save 77 = .ok (.iinc 1 1, 3) := by decide +kernel
theorem dX7_save_80 : decode cX7_save 80 = .ok (.goto (-29), 3) := by decide +kernel
theorem dX7_save_83 : decode cX7_save 83 = .ok (.aload_n 0, 1) := by decide +kernel
theorem dX7_save_84 : decode cX7_save 84 = .ok (.dup, 1) := by decide +kernel
theorem dX7_save_85 : decode cX7_save 85 = .ok (.getfield 27, 3) := by decide +kernel
theorem dX7_save_88 : decode cX7_save 88 = .ok (.iconst 1, 1) := by decide +kernel
theorem dX7_save_89 : decode cX7_save 89 = .ok (.iadd, 1) := by decide +kernel
theorem dX7_save_90 : decode cX7_save 90 = .ok (.putfield 27, 3) := by decide +kernel
theorem dX7_save_93 : decode cX7_save 93 = .ok (.return_, 1) := by decide +kernel
theorem dX7_undo_0 : decode cX7_undo 0 = .ok (.aload_n 0, 1) := by decide +kernel
theorem dX7_undo_1 : decode cX7_undo 1 = .ok (.iconst 0, 1) := by decide +kernel
theorem dX7_undo_2 : decode cX7_undo 2 = .ok (.putfield 19, 3) := by decide +kernel
theorem dX7_undo_5 : decode cX7_undo 5 = .ok (.aload_n 0, 1) := by decide +kernel
theorem dX7_undo_6 : decode cX7_undo 6 = .ok (.getfield 27, 3) := by decide +kernel
theorem dX7_undo_9 : decode cX7_undo 9 = .ok (.ifCond .ne 9, 3) := by decide +kernel
theorem dX7_undo_12 : decode cX7_undo 12 = .ok (.aload_n 0, 1) := by decide +kernel
theorem dX7_undo_13 : decode cX7_undo 13 = .ok (.iconst 1, 1) := by decide +kernel
theorem dX7_undo_14 : decode cX7_undo 14 = .ok (.invokevirtual 30, 3) := by decide +kernel
theorem dX7_undo_17 : decode cX7_undo 17 = .ok (.ireturn, 1) := by decide +kernel
theorem dX7_undo_18 : decode cX7_undo 18 = .ok (.aload_n 0, 1) := by decide +kernel
theorem dX7_undo_19 : decode cX7_undo 19 = .ok (.dup, 1) := by decide +kernel
theorem dX7_undo_20 : decode cX7_undo 20 = .ok (.getfield 27, 3) := by decide +kernel
theorem dX7_undo_23 : decode cX7_undo 23 = .ok (.iconst 1, 1) := by decide +kernel
theorem dX7_undo_24 : decode cX7_undo 24 = .ok (.isub, 1) := by decide +kernel
theorem dX7_undo_25 : decode cX7_undo 25 = .ok (.putfield 27, 3) := by decide +kernel
theorem dX7_undo_28 : decode cX7_undo 28 = .ok (.iconst 0, 1) := by decide +kernel
theorem dX7_undo_29 : decode cX7_undo 29 = .ok (.istore_n 1, 1) := by decide +kernel
theorem dX7_undo_30 : decode cX7_undo 30 = .ok (.iload_n 1, 1) := by decide +kernel
theorem dX7_undo_31 : decode cX7_undo 31 = .ok (.bipush 48, 2) := by decide +kernel
theorem dX7_undo_33 : decode cX7_undo 33 = .ok (.if_icmp .ge 29, 3) := by decide +kernel
theorem dX7_undo_36 : decode cX7_undo 36 = .ok (.aload_n 0, 1) := by decide +kernel
theorem dX7_undo_37 : decode cX7_undo 37 = .ok (.getfield 7, 3) := by decide +kernel
theorem dX7_undo_40 : decode cX7_undo 40 = .ok (.iload_n 1, 1) := by decide +kernel
theorem dX7_undo_41 : decode cX7_undo 41 = .ok (.aload_n 0, 1) := by decide +kernel
theorem dX7_undo_42 : decode cX7_undo 42 = .ok (.getfield 13, 3) := by decide +kernel
theorem dX7_undo_45 : decode cX7_undo 45 = .ok (.aload_n 0, 1) := by decide +kernel
theorem dX7_undo_46 : decode cX7_undo 46 = .ok (.getfield 27, 3) := by decide +kernel
theorem dX7_undo_49 : decode cX7_undo 49 = .ok (.bipush 48, 2) := by decide +kernel
theorem dX7_undo_51 : decode cX7_undo 51 = .ok (.imul, 1) := by decide +kernel
theorem dX7_undo_52 : decode cX7_undo 52 = .ok (.iload_n 1, 1) := by decide +kernel
theorem dX7_undo_53 : decode cX7_undo 53 = .ok (.iadd, 1) := by decide +kernel
theorem dX7_undo_54 : decode cX7_undo 54 = .ok (.iaload, 1) := by decide +kernel
theorem dX7_undo_55 : decode cX7_undo 55 = .ok (.iastore, 1) := by decide +kernel
theorem dX7_undo_56 : decode cX7_undo 56 = .ok (.iinc 1 1, 3) := by decide +kernel
theorem dX7_undo_59 : decode cX7_undo 59 = .ok (.goto (-29), 3) := by decide +kernel
theorem dX7_undo_62 : decode cX7_undo 62 = .ok (.aload_n 0, 1) := by decide +kernel
theorem dX7_undo_63 : decode cX7_undo 63 = .ok (.getfield 27, 3) := by decide +kernel
theorem dX7_undo_66 : decode cX7_undo 66 = .ok (.ireturn, 1) := by decide +kernel
theorem dX7_savedStates_0 : decode cX7_savedStates 0 = .ok (.aload_n 0, 1) := by decide +kernel
theorem dX7_savedStates_1 : decode cX7_savedStates 1 = .ok (.iconst 0, 1) := by decide +kernel
theorem dX7_savedStates_2 : decode cX7_savedStates 2 = .ok (.putfield 19, 3) := by decide +kernel
theorem dX7_savedStates_5 : decode cX7_savedStates 5 = .ok (.aload_n 0, 1) := by decide +kernel
theorem dX7_savedStates_6 : decode cX7_savedStates 6 = .ok (.getfield 27, 3) := by decide +kernel
theorem dX7_savedStates_9 : decode cX7_savedStates 9 = .ok (.ireturn, 1) := by decide +kernel
theorem dX7_dropOldest_0 : decode cX7_dropOldest 0 = .ok (.aload_n 0, 1) := by decide +kernel
theorem dX7_dropOldest_1 : decode cX7_dropOldest 1 = .ok (.getfield 7, 3) := by decide +kernel
theorem dX7_dropOldest_4 : decode cX7_dropOldest 4 = .ok (.iconst 4, 1) := by decide +kernel
theorem dX7_dropOldest_5 : decode cX7_dropOldest 5 = .ok (.dup2, 1) := by decide +kernel
theorem dX7_dropOldest_6 : decode cX7_dropOldest 6 = .ok (.iaload, 1) := by decide +kernel
theorem dX7_dropOldest_7 : decode cX7_dropOldest 7 = .ok (.iconst 1, 1) := by decide +kernel
theorem dX7_dropOldest_8 : decode cX7_dropOldest 8 = .ok (.isub, 1) := by decide +kernel
theorem dX7_dropOldest_9 : decode cX7_dropOldest 9 = .ok (.iastore, 1) := by decide +kernel
theorem dX7_dropOldest_10 : decode cX7_dropOldest 10 = .ok (.iconst 0, 1) := by decide +kernel
theorem dX7_dropOldest_11 : decode cX7_dropOldest 11 = .ok (.istore_n 1, 1) := by decide +kernel
theorem dX7_dropOldest_12 : decode cX7_dropOldest 12 = .ok (.iload_n 1, 1) := by decide +kernel
theorem dX7_dropOldest_13 : decode cX7_dropOldest 13 = .ok (.iconst 3, 1) := by decide +kernel
theorem dX7_dropOldest_14 : decode cX7_dropOldest 14 = .ok (.aload_n 0, 1) := by decide +kernel
theorem dX7_dropOldest_15 : decode cX7_dropOldest 15 = .ok (.getfield 7, 3) := by decide +kernel
theorem dX7_dropOldest_18 : decode cX7_dropOldest 18 = .ok (.iconst 4, 1) := by decide +kernel
theorem dX7_dropOldest_19 : decode cX7_dropOldest 19 = .ok (.iaload, 1) := by decide +kernel
theorem dX7_dropOldest_20 : decode cX7_dropOldest 20 = .ok (.imul, 1) := by decide +kernel
theorem dX7_dropOldest_21 : decode cX7_dropOldest 21 = .ok (.if_icmp .ge 29, 3) := by decide +kernel
theorem dX7_dropOldest_24 : decode cX7_dropOldest 24 = .ok (.aload_n 0, 1) := by decide +kernel
theorem dX7_dropOldest_25 : decode cX7_dropOldest 25 = .ok (.getfield 7, 3) := by decide +kernel
theorem dX7_dropOldest_28 : decode cX7_dropOldest 28 = .ok (.bipush 6, 2) := by decide +kernel
theorem dX7_dropOldest_30 : decode cX7_dropOldest 30 = .ok (.iload_n 1, 1) := by decide +kernel
theorem dX7_dropOldest_31 : decode cX7_dropOldest 31 = .ok (.iadd, 1) := by decide +kernel
theorem dX7_dropOldest_32 : decode cX7_dropOldest 32 = .ok (.aload_n 0, 1) := by decide +kernel
theorem dX7_dropOldest_33 : decode cX7_dropOldest 33 = .ok (.getfield 7, 3) := by decide +kernel
theorem dX7_dropOldest_36 : decode cX7_dropOldest 36 = .ok (.bipush 6, 2) := by decide +kernel
theorem dX7_dropOldest_38 : decode cX7_dropOldest 38 = .ok (.iload_n 1, 1) := by decide +kernel
theorem dX7_dropOldest_39 : decode cX7_dropOldest 39 = .ok (.iadd, 1) := by decide +kernel
theorem dX7_dropOldest_40 : decode cX7_dropOldest 40 = .ok (.iconst 3, 1) := by decide +kernel
theorem dX7_dropOldest_41 : decode cX7_dropOldest 41 = .ok (.iadd, 1) := by decide +kernel
theorem dX7_dropOldest_42 : decode cX7_dropOldest 42 = .ok (.iaload, 1) := by decide +kernel
theorem dX7_dropOldest_43 : decode cX7_dropOldest 43 = .ok (.iastore, 1) := by decide +kernel
theorem dX7_dropOldest_44 : decode cX7_dropOldest 44 = .ok (.iinc 1 1, 3) := by decide +kernel
theorem dX7_dropOldest_47 : decode cX7_dropOldest 47 = .ok (.goto (-35), 3) := by decide +kernel
theorem dX7_dropOldest_50 : decode cX7_dropOldest 50 = .ok (.return_, 1) := by decide +kernel
theorem dX7_give_0 : decode cX7_give 0 = .ok (.iconst 0, 1) := by decide +kernel
theorem dX7_give_1 : decode cX7_give 1 = .ok (.istore_n 1, 1) := by decide +kernel
theorem dX7_give_2 : decode cX7_give 2 = .ok (.iload_n 1, 1) := by decide +kernel
theorem dX7_give_3 : decode cX7_give 3 = .ok (.iconst 4, 1) := by decide +kernel
theorem dX7_give_4 : decode cX7_give 4 = .ok (.if_icmp .ge 25, 3) := by decide +kernel
theorem dX7_give_7 : decode cX7_give 7 = .ok (.aload_n 0, 1) := by decide +kernel
theorem dX7_give_8 : decode cX7_give 8 = .ok (.iload_n 1, 1) := by decide +kernel
theorem dX7_give_9 : decode cX7_give 9 = .ok (.iconst 3, 1) := by decide +kernel
theorem dX7_give_10 : decode cX7_give 10 = .ok (.invokevirtual 34, 3) := by decide +kernel
theorem dX7_give_13 : decode cX7_give 13 = .ok (.ifCond .ne 10, 3) := by decide +kernel
theorem dX7_give_16 : decode cX7_give 16 = .ok (.aload_n 0, 1) := by decide +kernel
theorem dX7_give_17 : decode cX7_give 17 = .ok (.iload_n 1, 1) := by decide +kernel
theorem dX7_give_18 : decode cX7_give 18 = .ok (.iconst 4, 1) := by decide +kernel
theorem dX7_give_19 : decode cX7_give 19 = .ok (.iconst 1, 1) := by decide +kernel
theorem dX7_give_20 : decode cX7_give 20 = .ok (.invokevirtual 38, 3) := by decide +kernel
theorem dX7_give_23 : decode cX7_give 23 = .ok (.iinc 1 1, 3) := by decide +kernel
theorem dX7_give_26 : decode cX7_give 26 = .ok (.goto (-24), 3) := by decide +kernel
theorem dX7_give_29 : decode cX7_give 29 = .ok (.return_, 1) := by decide +kernel
theorem dX7_costOf_0 : decode cX7_costOf 0 = .ok (.iconst 1, 1) := by decide +kernel
theorem dX7_costOf_1 : decode cX7_costOf 1 = .ok (.aload_n 0, 1) := by decide +kernel
theorem dX7_costOf_2 : decode cX7_costOf 2 = .ok (.iload_n 1, 1) := by decide +kernel
theorem dX7_costOf_3 : decode cX7_costOf 3 = .ok (.iconst 1, 1) := by decide +kernel
theorem dX7_costOf_4 : decode cX7_costOf 4 = .ok (.invokevirtual 42, 3) := by decide +kernel
theorem dX7_costOf_7 : decode cX7_costOf 7 = .ok (.invokestatic 45, 3) := by decide +kernel
theorem dX7_costOf_10 : decode cX7_costOf 10 = .ok (.iadd, 1) := by decide +kernel
theorem dX7_costOf_11 : decode cX7_costOf 11 = .ok (.aload_n 0, 1) := by decide +kernel
theorem dX7_costOf_12 : decode cX7_costOf 12 = .ok (.iload_n 1, 1) := by decide +kernel
theorem dX7_costOf_13 : decode cX7_costOf 13 = .ok (.iconst 2, 1) := by decide +kernel
theorem dX7_costOf_14 : decode cX7_costOf 14 = .ok (.invokevirtual 42, 3) := by decide +kernel
theorem dX7_costOf_17 : decode cX7_costOf 17 = .ok (.invokestatic 45, 3) := by decide +kernel
theorem dX7_costOf_20 : decode cX7_costOf 20 = .ok (.iadd, 1) := by decide +kernel
theorem dX7_costOf_21 : decode cX7_costOf 21 = .ok (.ireturn, 1) := by decide +kernel
theorem dX7_wholeCost_0 : decode cX7_wholeCost 0 = .ok (.iconst 1, 1) := by decide +kernel
theorem dX7_wholeCost_1 : decode cX7_wholeCost 1 = .ok (.aload_n 0, 1) := by decide +kernel
theorem dX7_wholeCost_2 : decode cX7_wholeCost 2 = .ok (.getfield 7, 3) := by decide +kernel
theorem dX7_wholeCost_5 : decode cX7_wholeCost 5 = .ok (.iconst 1, 1) := by decide +kernel
theorem dX7_wholeCost_6 : decode cX7_wholeCost 6 = .ok (.iaload, 1) := by decide +kernel
theorem dX7_wholeCost_7 : decode cX7_wholeCost 7 = .ok (.invokestatic 45, 3) := by decide +kernel
theorem dX7_wholeCost_10 : decode cX7_wholeCost 10 = .ok (.iadd, 1) := by decide +kernel
theorem dX7_wholeCost_11 : decode cX7_wholeCost 11 = .ok (.ireturn, 1) := by decide +kernel
theorem dX7_order_0 : decode cX7_order 0 = .ok (.iload_n 0, 1) := by decide +kernel
theorem dX7_order_1 : decode cX7_order 1 = .ok (.iload_n 1, 1) := by decide +kernel
theorem dX7_order_2 : decode cX7_order 2 = .ok (.isub, 1) := by decide +kernel
theorem dX7_order_3 : decode cX7_order 3 = .ok (.bipush 16, 2) := by decide +kernel
theorem dX7_order_5 : decode cX7_order 5 = .ok (.iadd, 1) := by decide +kernel
theorem dX7_order_6 : decode cX7_order 6 = .ok (.bipush 16, 2) := by decide +kernel
theorem dX7_order_8 : decode cX7_order 8 = .ok (.irem, 1) := by decide +kernel
theorem dX7_order_9 : decode cX7_order 9 = .ok (.istore_n 2, 1) := by decide +kernel
theorem dX7_order_10 : decode cX7_order 10 = .ok (.iload_n 2, 1) := by decide +kernel
theorem dX7_order_11 : decode cX7_order 11 = .ok (.ifCond .ne 7, 3) := by decide +kernel
theorem dX7_order_14 : decode cX7_order 14 = .ok (.iconst 0, 1) := by decide +kernel
theorem dX7_order_15 : decode cX7_order 15 = .ok (.goto 14, 3) := by decide +kernel
theorem dX7_order_18 : decode cX7_order 18 = .ok (.iload_n 2, 1) := by decide +kernel
theorem dX7_order_19 : decode cX7_order 19 = .ok (.bipush 8, 2) := by decide +kernel
theorem dX7_order_21 : decode cX7_order 21 = .ok (.if_icmp .ge 7, 3) := by decide +kernel
theorem dX7_order_24 : decode cX7_order 24 = .ok (.iconst 1, 1) := by decide +kernel
theorem dX7_order_25 : decode cX7_order 25 = .ok (.goto 4, 3) := by decide +kernel
theorem dX7_order_28 : decode cX7_order 28 = .ok (.iconst (-1), 1) := by decide +kernel
theorem dX7_order_29 : decode cX7_order 29 = .ok (.ireturn, 1) := by decide +kernel
theorem dX7_leadsFrom_0 : decode cX7_leadsFrom 0 = .ok (.iconst 0, 1) := by decide +kernel
theorem dX7_leadsFrom_1 : decode cX7_leadsFrom 1 = .ok (.istore_n 2, 1) := by decide +kernel
theorem dX7_leadsFrom_2 : decode cX7_leadsFrom 2 = .ok (.iload_n 2, 1) := by decide +kernel
theorem dX7_leadsFrom_3 : decode cX7_leadsFrom 3 = .ok (.aload_n 0, 1) := by decide +kernel
theorem dX7_leadsFrom_4 : decode cX7_leadsFrom 4 = .ok (.getfield 7, 3) := by decide +kernel
theorem dX7_leadsFrom_7 : decode cX7_leadsFrom 7 = .ok (.iconst 4, 1) := by decide +kernel
theorem dX7_leadsFrom_8 : decode cX7_leadsFrom 8 = .ok (.iaload, 1) := by decide +kernel
theorem dX7_leadsFrom_9 : decode cX7_leadsFrom 9 = .ok (.if_icmp .ge 26, 3) := by decide +kernel
theorem dX7_leadsFrom_12 : decode cX7_leadsFrom 12 = .ok (.aload_n 0, 1) := by decide +kernel
theorem dX7_leadsFrom_13 : decode cX7_leadsFrom 13 = .ok (.iload_n 2, 1) := by decide +kernel
theorem dX7_leadsFrom_14 : decode cX7_leadsFrom 14 = .ok (.iconst 0, 1) := by decide +kernel
theorem dX7_leadsFrom_15 : decode cX7_leadsFrom 15 = .ok (.invokevirtual 42, 3) := by decide +kernel
theorem dX7_leadsFrom_18 : decode cX7_leadsFrom 18 = .ok (.aload_n 0, 1) := by decide +kernel
theorem dX7_leadsFrom_19 : decode cX7_leadsFrom 19 = .ok (.iload_n 1, 1) := by decide +kernel
theorem dX7_leadsFrom_20 : decode cX7_leadsFrom 20 = .ok (.iconst 2, 1) := by decide +kernel
theorem dX7_leadsFrom_21 : decode cX7_leadsFrom 21 = .ok (.invokevirtual 34, 3) := by decide +kernel
theorem dX7_leadsFrom_24 : decode cX7_leadsFrom 24 = .ok (.if_icmp .ne 5, 3) := by decide +kernel
theorem dX7_leadsFrom_27 : decode cX7_leadsFrom 27 = .ok (.iload_n 2, 1) := by decide +kernel
theorem dX7_leadsFrom_28 : decode cX7_leadsFrom 28 = .ok (.ireturn, 1) := by decide +kernel
theorem dX7_leadsFrom_29 : decode cX7_leadsFrom 29 = .ok (.iinc 2 1, 3) := by decide +kernel
theorem dX7_leadsFrom_32 : decode cX7_leadsFrom 32 = .ok (.goto (-30), 3) := by decide +kernel
theorem dX7_leadsFrom_35 : decode cX7_leadsFrom 35 = .ok (.iconst (-1), 1) := by decide +kernel
theorem dX7_leadsFrom_36 : decode cX7_leadsFrom 36 = .ok (.ireturn, 1) := by decide +kernel
theorem dX7_costFrom_0 : decode cX7_costFrom 0 = .ok (.iconst 0, 1) := by decide +kernel
theorem dX7_costFrom_1 : decode cX7_costFrom 1 = .ok (.istore_n 2, 1) := by decide +kernel
theorem dX7_costFrom_2 : decode cX7_costFrom 2 = .ok (.iload_n 1, 1) := by decide +kernel
theorem dX7_costFrom_3 : decode cX7_costFrom 3 = .ok (.istore_n 3, 1) := by decide +kernel
theorem dX7_costFrom_4 : decode cX7_costFrom 4 = .ok (.iload_n 3, 1) := by decide +kernel
theorem dX7_costFrom_5 : decode cX7_costFrom 5 = .ok (.aload_n 0, 1) := by decide +kernel
theorem dX7_costFrom_6 : decode cX7_costFrom 6 = .ok (.getfield 7, 3) := by decide +kernel
theorem dX7_costFrom_9 : decode cX7_costFrom 9 = .ok (.iconst 4, 1) := by decide +kernel
theorem dX7_costFrom_10 : decode cX7_costFrom 10 = .ok (.iaload, 1) := by decide +kernel
theorem dX7_costFrom_11 : decode cX7_costFrom 11 = .ok (.if_icmp .ge 17, 3) := by decide +kernel
theorem dX7_costFrom_14 : decode cX7_costFrom 14 = .ok (.iload_n 2, 1) := by decide +kernel
theorem dX7_costFrom_15 : decode cX7_costFrom 15 = .ok (.aload_n 0, 1) := by decide +kernel
theorem dX7_costFrom_16 : decode cX7_costFrom 16 = .ok (.iload_n 3, 1) := by decide +kernel
theorem dX7_costFrom_17 : decode cX7_costFrom 17 = .ok (.invokevirtual 48, 3) := by decide +kernel
theorem dX7_costFrom_20 : decode cX7_costFrom 20 = .ok (.iadd, 1) := by decide +kernel
theorem dX7_costFrom_21 : decode cX7_costFrom 21 = .ok (.istore_n 2, 1) := by decide +kernel
theorem dX7_costFrom_22 : decode cX7_costFrom 22 = .ok (.iinc 3 1, 3) := by decide +kernel
theorem dX7_costFrom_25 : decode cX7_costFrom 25 = .ok (.goto (-21), 3) := by decide +kernel
theorem dX7_costFrom_28 : decode cX7_costFrom 28 = .ok (.iload_n 2, 1) := by decide +kernel
theorem dX7_costFrom_29 : decode cX7_costFrom 29 = .ok (.ireturn, 1) := by decide +kernel
theorem dX7_answerTo_0 : decode cX7_answerTo 0 = .ok (.aload_n 0, 1) := by decide +kernel
theorem dX7_answerTo_1 : decode cX7_answerTo 1 = .ok (.iload_n 1, 1) := by decide +kernel
theorem dX7_answerTo_2 : decode cX7_answerTo 2 = .ok (.iconst 0, 1) := by decide +kernel
theorem dX7_answerTo_3 : decode cX7_answerTo 3 = .ok (.invokevirtual 34, 3) := by decide +kernel
theorem dX7_answerTo_6 : decode cX7_answerTo 6 = .ok (.ifCond .ne 5, 3) := by decide +kernel
theorem dX7_answerTo_9 : decode cX7_answerTo 9 = .ok (.iconst 2, 1) := by decide +kernel
theorem dX7_answerTo_10 : decode cX7_answerTo 10 = .ok (.ireturn, 1) := by decide +kernel
theorem dX7_answerTo_11 : decode cX7_answerTo 11 = .ok (.aload_n 0, 1) := by decide +kernel
theorem dX7_answerTo_12 : decode cX7_answerTo 12 = .ok (.getfield 7, 3) := by decide +kernel
theorem dX7_answerTo_15 : decode cX7_answerTo 15 = .ok (.iconst 2, 1) := by decide +kernel
theorem dX7_answerTo_16 : decode cX7_answerTo 16 = .ok (.iaload, 1) := by decide +kernel
theorem dX7_answerTo_17 : decode cX7_answerTo 17 = .ok (.aload_n 0, 1) := by decide +kernel
theorem dX7_answerTo_18 : decode cX7_answerTo 18 = .ok (.iload_n 1, 1) := by decide +kernel
theorem dX7_answerTo_19 : decode cX7_answerTo 19 = .ok (.iconst 2, 1) := by decide +kernel
theorem dX7_answerTo_20 : decode cX7_answerTo 20 = .ok (.invokevirtual 34, 3) := by decide +kernel
theorem dX7_answerTo_23 : decode cX7_answerTo 23 = .ok (.invokestatic 51, 3) := by decide +kernel
theorem dX7_answerTo_26 : decode cX7_answerTo 26 = .ok (.istore_n 2, 1) := by decide +kernel
theorem dX7_answerTo_27 : decode cX7_answerTo 27 = .ok (.iload_n 2, 1) := by decide +kernel
theorem dX7_answerTo_28 : decode cX7_answerTo 28 = .ok (.ifCond .gt 13, 3) := by decide +kernel
theorem dX7_answerTo_31 : decode cX7_answerTo 31 = .ok (.iload_n 2, 1) := by decide +kernel
theorem dX7_answerTo_32 : decode cX7_answerTo 32 = .ok (.ifCond .ne 7, 3) := by decide +kernel
theorem dX7_answerTo_35 : decode cX7_answerTo 35 = .ok (.iconst 0, 1) := by decide +kernel
theorem dX7_answerTo_36 : decode cX7_answerTo 36 = .ok (.goto 4, 3) := by decide +kernel
theorem dX7_answerTo_39 : decode cX7_answerTo 39 = .ok (.iconst 3, 1) := by decide +kernel
theorem dX7_answerTo_40 : decode cX7_answerTo 40 = .ok (.ireturn, 1) := by decide +kernel
theorem dX7_answerTo_41 : decode cX7_answerTo 41 = .ok (.aload_n 0, 1) := by decide +kernel
theorem dX7_answerTo_42 : decode cX7_answerTo 42 = .ok (.iload_n 1, 1) := by decide +kernel
theorem dX7_answerTo_43 : decode cX7_answerTo 43 = .ok (.invokevirtual 54, 3) := by decide +kernel
theorem dX7_answerTo_46 : decode cX7_answerTo 46 = .ok (.istore_n 3, 1) := by decide +kernel
theorem dX7_answerTo_47 : decode cX7_answerTo 47 = .ok (.iload_n 3, 1) := by decide +kernel
theorem dX7_answerTo_48 : decode cX7_answerTo 48 = .ok (.iconst (-1), 1) := by decide +kernel
theorem dX7_answerTo_49 : decode cX7_answerTo 49 = .ok (.if_icmp .eq 19, 3) := by decide +kernel
theorem dX7_answerTo_52 : decode cX7_answerTo 52 = .ok (.aload_n 0, 1) := by decide +kernel
theorem dX7_answerTo_53 : decode cX7_answerTo 53 = .ok (.iload_n 3, 1) := by decide +kernel
theorem dX7_answerTo_54 : decode cX7_answerTo 54 = .ok (.invokevirtual 57, 3) := by decide +kernel
theorem dX7_answerTo_57 : decode cX7_answerTo 57 = .ok (.aload_n 0, 1) := by decide +kernel
theorem dX7_answerTo_58 : decode cX7_answerTo 58 = .ok (.invokevirtual 60, 3) := by decide +kernel
theorem dX7_answerTo_61 : decode cX7_answerTo 61 = .ok (.if_icmp .gt 7, 3) := by decide +kernel
theorem dX7_answerTo_64 : decode cX7_answerTo 64 = .ok (.iconst 1, 1) := by decide +kernel
theorem dX7_answerTo_65 : decode cX7_answerTo 65 = .ok (.goto 4, 3) := by decide +kernel
theorem dX7_answerTo_68 : decode cX7_answerTo 68 = .ok (.iconst 2, 1) := by decide +kernel
theorem dX7_answerTo_69 : decode cX7_answerTo 69 = .ok (.ireturn, 1) := by decide +kernel
theorem dX7_costOfAnswer_0 : decode cX7_costOfAnswer 0 = .ok (.aload_n 0, 1) := by decide +kernel
theorem dX7_costOfAnswer_1 : decode cX7_costOfAnswer 1 = .ok (.iload_n 1, 1) := by decide +kernel
theorem dX7_costOfAnswer_2 : decode cX7_costOfAnswer 2 = .ok (.invokevirtual 64, 3) := by decide +kernel
theorem dX7_costOfAnswer_5 : decode cX7_costOfAnswer 5 = .ok (.istore_n 2, 1) := by decide +kernel
theorem dX7_costOfAnswer_6 : decode cX7_costOfAnswer 6 = .ok (.iload_n 2, 1) := by decide +kernel
theorem dX7_costOfAnswer_7 : decode cX7_costOfAnswer 7 = .ok (.iconst 1, 1) := by decide +kernel
theorem dX7_costOfAnswer_8 : decode cX7_costOfAnswer 8 = .ok (.if_icmp .ne 15, 3) := by decide +kernel
theorem dX7_costOfAnswer_11 : decode cX7_costOfAnswer 11 = .ok (.aload_n 0, 1) := by decide +kernel
theorem dX7_costOfAnswer_12 : decode cX7_costOfAnswer 12 = .ok (.aload_n 0, 1) := by decide +kernel
theorem dX7_costOfAnswer_13 : decode cX7_costOfAnswer 13 = .ok (.iload_n 1, 1) := by decide +kernel
theorem dX7_costOfAnswer_14 : decode cX7_costOfAnswer 14 = .ok (.invokevirtual 54, 3) := by decide +kernel
theorem dX7_costOfAnswer_17 : decode cX7_costOfAnswer 17 = .ok (.invokevirtual 57, 3) := by decide +kernel
theorem dX7_costOfAnswer_20 : decode cX7_costOfAnswer 20 = .ok (.goto 16, 3) := by decide +kernel
theorem dX7_costOfAnswer_23 : decode cX7_costOfAnswer 23 = .ok (.iload_n 2, 1) := by decide +kernel
theorem dX7_costOfAnswer_24 : decode cX7_costOfAnswer 24 = .ok (.iconst 2, 1) := by decide +kernel
theorem dX7_costOfAnswer_25 : decode cX7_costOfAnswer 25 = .ok (.if_icmp .ne 10, 3) := by decide +kernel
theorem dX7_costOfAnswer_28 : decode cX7_costOfAnswer 28 = .ok (.aload_n 0, 1) := by decide +kernel
theorem dX7_costOfAnswer_29 : decode cX7_costOfAnswer 29 = .ok (.invokevirtual 60, 3) := by decide +kernel
theorem dX7_costOfAnswer_32 : decode cX7_costOfAnswer 32 = .ok (.goto 4, 3) := by decide +kernel
theorem dX7_costOfAnswer_35 : decode cX7_costOfAnswer 35 = .ok (.iconst 0, 1) := by decide +kernel
theorem dX7_costOfAnswer_36 : decode cX7_costOfAnswer 36 = .ok (.ireturn, 1) := by decide +kernel
theorem dX7_applyAll_0 : decode cX7_applyAll 0 = .ok (.aload_n 0, 1) := by decide +kernel
theorem dX7_applyAll_1 : decode cX7_applyAll 1 = .ok (.iload_n 1, 1) := by decide +kernel
theorem dX7_applyAll_2 : decode cX7_applyAll 2 = .ok (.invokevirtual 54, 3) := by decide +kernel
theorem dX7_applyAll_5 : decode cX7_applyAll 5 = .ok (.istore_n 2, 1) := by decide +kernel
theorem dX7_applyAll_6 : decode cX7_applyAll 6 = .ok (.iload_n 2, 1) := by decide +kernel
theorem dX7_applyAll_7 : decode cX7_applyAll 7 = .ok (.aload_n 0, 1) := by decide +kernel
theorem dX7_applyAll_8 : decode cX7_applyAll 8 = .ok (.getfield 7, 3) := by decide +kernel
theorem dX7_applyAll_11 : decode cX7_applyAll 11 = .ok (.iconst 4, 1) := by decide +kernel
theorem dX7_applyAll_12 : decode cX7_applyAll 12 = .ok (.iaload, 1) := by decide +kernel
theorem dX7_applyAll_13 : decode cX7_applyAll 13 = .ok (.if_icmp .ge 39, 3) := by decide +kernel
theorem dX7_applyAll_16 : decode cX7_applyAll 16 = .ok (.aload_n 0, 1) := by decide +kernel
theorem dX7_applyAll_17 : decode cX7_applyAll 17 = .ok (.iload_n 1, 1) := by decide +kernel
theorem dX7_applyAll_18 : decode cX7_applyAll 18 = .ok (.iconst 1, 1) := by decide +kernel
theorem dX7_applyAll_19 : decode cX7_applyAll 19 = .ok (.invokevirtual 34, 3) := by decide +kernel
theorem dX7_applyAll_22 : decode cX7_applyAll 22 = .ok (.aload_n 0, 1) := by decide +kernel
theorem dX7_applyAll_23 : decode cX7_applyAll 23 = .ok (.iload_n 2, 1) := by decide +kernel
theorem dX7_applyAll_24 : decode cX7_applyAll 24 = .ok (.iconst 1, 1) := by decide +kernel
theorem dX7_applyAll_25 : decode cX7_applyAll 25 = .ok (.invokevirtual 42, 3) := by decide +kernel
theorem dX7_applyAll_28 : decode cX7_applyAll 28 = .ok (.iconst (-1), 1) := by decide +kernel
theorem dX7_applyAll_29 : decode cX7_applyAll 29 = .ok (.ixor, 1) := by decide +kernel
theorem dX7_applyAll_30 : decode cX7_applyAll 30 = .ok (.iand, 1) := by decide +kernel
theorem dX7_applyAll_31 : decode cX7_applyAll 31 = .ok (.aload_n 0, 1) := by decide +kernel
theorem dX7_applyAll_32 : decode cX7_applyAll 32 = .ok (.iload_n 2, 1) := by decide +kernel
theorem dX7_applyAll_33 : decode cX7_applyAll 33 = .ok (.iconst 2, 1) := by decide +kernel
theorem dX7_applyAll_34 : decode cX7_applyAll 34 = .ok (.invokevirtual 42, 3) := by decide +kernel
theorem dX7_applyAll_37 : decode cX7_applyAll 37 = .ok (.ior, 1) := by decide +kernel
theorem dX7_applyAll_38 : decode cX7_applyAll 38 = .ok (.istore_n 3, 1) := by decide +kernel
theorem dX7_applyAll_39 : decode cX7_applyAll 39 = .ok (.aload_n 0, 1) := by decide +kernel
theorem dX7_applyAll_40 : decode cX7_applyAll 40 = .ok (.iload_n 1, 1) := by decide +kernel
theorem dX7_applyAll_41 : decode cX7_applyAll 41 = .ok (.iconst 1, 1) := by decide +kernel
theorem dX7_applyAll_42 : decode cX7_applyAll 42 = .ok (.iload_n 3, 1) := by decide +kernel
theorem dX7_applyAll_43 : decode cX7_applyAll 43 = .ok (.invokevirtual 38, 3) := by decide +kernel
theorem dX7_applyAll_46 : decode cX7_applyAll 46 = .ok (.iinc 2 1, 3) := by decide +kernel
theorem dX7_applyAll_49 : decode cX7_applyAll 49 = .ok (.goto (-43), 3) := by decide +kernel
theorem dX7_applyAll_52 : decode cX7_applyAll 52 = .ok (.return_, 1) := by decide +kernel
theorem dX7_refreshes_0 : decode cX7_refreshes 0 = .ok (.aload_n 0, 1) := by decide +kernel
theorem dX7_refreshes_1 : decode cX7_refreshes 1 = .ok (.iload_n 1, 1) := by decide +kernel
theorem dX7_refreshes_2 : decode cX7_refreshes 2 = .ok (.invokevirtual 64, 3) := by decide +kernel
theorem dX7_refreshes_5 : decode cX7_refreshes 5 = .ok (.istore_n 2, 1) := by decide +kernel
theorem dX7_refreshes_6 : decode cX7_refreshes 6 = .ok (.aload_n 0, 1) := by decide +kernel
theorem dX7_refreshes_7 : decode cX7_refreshes 7 = .ok (.iload_n 1, 1) := by decide +kernel
theorem dX7_refreshes_8 : decode cX7_refreshes 8 = .ok (.invokevirtual 67, 3) := by decide +kernel
theorem dX7_refreshes_11 : decode cX7_refreshes 11 = .ok (.istore_n 3, 1) := by decide +kernel
theorem dX7_refreshes_12 : decode cX7_refreshes 12 = .ok (.aload_n 0, 1) := by decide +kernel
theorem dX7_refreshes_13 : decode cX7_refreshes 13 = .ok (.iload_n 1, 1) := by decide +kernel
theorem dX7_refreshes_14 : decode cX7_refreshes 14 = .ok (.iconst 4, 1) := by decide +kernel
theorem dX7_refreshes_15 : decode cX7_refreshes 15 = .ok (.iconst 0, 1) := by decide +kernel
theorem dX7_refreshes_16 : decode cX7_refreshes 16 = .ok (.invokevirtual 38, 3) := by decide +kernel
theorem dX7_refreshes_19 : decode cX7_refreshes 19 = .ok (.iload_n 2, 1) := by decide +kernel
theorem dX7_refreshes_20 : decode cX7_refreshes 20 = .ok (.ifCond .eq 8, 3) := by decide +kernel
theorem dX7_refreshes_23 : decode cX7_refreshes 23 = .ok (.iload_n 2, 1) := by decide +kernel
theorem dX7_refreshes_24 : decode cX7_refreshes 24 = .ok (.iconst 3, 1) := by decide +kernel
theorem dX7_refreshes_25 : decode cX7_refreshes 25 = .ok (.if_icmp .ne 5, 3) := by decide +kernel
theorem dX7_refreshes_28 : decode cX7_refreshes 28 = .ok (.iload_n 2, 1) := by decide +kernel
theorem dX7_refreshes_29 : decode cX7_refreshes 29 = .ok (.ireturn, 1) := by decide +kernel
theorem dX7_refreshes_30 : decode cX7_refreshes 30 = .ok (.iload_n 2, 1) := by decide +kernel
theorem dX7_refreshes_31 : decode cX7_refreshes 31 = .ok (.iconst 1, 1) := by decide +kernel
theorem dX7_refreshes_32 : decode cX7_refreshes 32 = .ok (.if_icmp .ne 11, 3) := by decide +kernel
theorem dX7_refreshes_35 : decode cX7_refreshes 35 = .ok (.aload_n 0, 1) := by decide +kernel
theorem dX7_refreshes_36 : decode cX7_refreshes 36 = .ok (.iload_n 1, 1) := by decide +kernel
theorem dX7_refreshes_37 : decode cX7_refreshes 37 = .ok (.invokevirtual 70, 3) := by decide +kernel
theorem dX7_refreshes_40 : decode cX7_refreshes 40 = .ok (.goto 15, 3) := by decide +kernel
theorem dX7_refreshes_43 : decode cX7_refreshes 43 = .ok (.aload_n 0, 1) := by decide +kernel
theorem dX7_refreshes_44 : decode cX7_refreshes 44 = .ok (.iload_n 1, 1) := by decide +kernel
theorem dX7_refreshes_45 : decode cX7_refreshes 45 = .ok (.iconst 1, 1) := by decide +kernel
theorem dX7_refreshes_46 : decode cX7_refreshes 46 = .ok (.aload_n 0, 1) := by decide +kernel
theorem dX7_refreshes_47 : decode cX7_refreshes 47 = .ok (.getfield 7, 3) := by decide +kernel
theorem dX7_refreshes_50 : decode cX7_refreshes 50 = .ok (.iconst 1, 1) := by decide +kernel
theorem dX7_refreshes_51 : decode cX7_refreshes 51 = .ok (.iaload, 1) := by decide +kernel
theorem dX7_refreshes_52 : decode cX7_refreshes 52 = .ok (.invokevirtual 38, 3) := by decide +kernel
theorem dX7_refreshes_55 : decode cX7_refreshes 55 = .ok (.aload_n 0, 1) := by decide +kernel
theorem dX7_refreshes_56 : decode cX7_refreshes 56 = .ok (.iload_n 1, 1) := by decide +kernel
theorem dX7_refreshes_57 : decode cX7_refreshes 57 = .ok (.iconst 0, 1) := by decide +kernel
theorem dX7_refreshes_58 : decode cX7_refreshes 58 = .ok (.iconst 1, 1) := by decide +kernel
theorem dX7_refreshes_59 : decode cX7_refreshes 59 = .ok (.invokevirtual 38, 3) := by decide +kernel
theorem dX7_refreshes_62 : decode cX7_refreshes 62 = .ok (.aload_n 0, 1) := by decide +kernel
theorem dX7_refreshes_63 : decode cX7_refreshes 63 = .ok (.iload_n 1, 1) := by decide +kernel
theorem dX7_refreshes_64 : decode cX7_refreshes 64 = .ok (.iconst 2, 1) := by decide +kernel
theorem dX7_refreshes_65 : decode cX7_refreshes 65 = .ok (.aload_n 0, 1) := by decide +kernel
theorem dX7_refreshes_66 : decode cX7_refreshes 66 = .ok (.getfield 7, 3) := by decide +kernel
theorem dX7_refreshes_69 : decode cX7_refreshes 69 = .ok (.iconst 2, 1) := by decide +kernel
theorem dX7_refreshes_70 : decode cX7_refreshes 70 = .ok (.iaload, 1) := by decide +kernel
theorem dX7_refreshes_71 : decode cX7_refreshes 71 = .ok (.invokevirtual 38, 3) := by decide +kernel
theorem dX7_refreshes_74 : decode cX7_refreshes 74 = .ok (.aload_n 0, 1) := by decide +kernel
theorem dX7_refreshes_75 : decode cX7_refreshes 75 = .ok (.iload_n 1, 1) := by decide +kernel
theorem dX7_refreshes_76 : decode cX7_refreshes 76 = .ok (.iconst 5, 1) := by decide +kernel
theorem dX7_refreshes_77 : decode cX7_refreshes 77 = .ok (.aload_n 0, 1) := by decide +kernel
theorem dX7_refreshes_78 : decode cX7_refreshes 78 = .ok (.iload_n 1, 1) := by decide +kernel
theorem dX7_refreshes_79 : decode cX7_refreshes 79 = .ok (.iconst 5, 1) := by decide +kernel
theorem dX7_refreshes_80 : decode cX7_refreshes 80 = .ok (.invokevirtual 34, 3) := by decide +kernel
theorem dX7_refreshes_83 : decode cX7_refreshes 83 = .ok (.iload_n 3, 1) := by decide +kernel
theorem dX7_refreshes_84 : decode cX7_refreshes 84 = .ok (.iadd, 1) := by decide +kernel
theorem dX7_refreshes_85 : decode cX7_refreshes 85 = .ok (.invokevirtual 38, 3) := by decide +kernel
theorem dX7_refreshes_88 : decode cX7_refreshes 88 = .ok (.aload_n 0, 1) := by decide +kernel
theorem dX7_refreshes_89 : decode cX7_refreshes 89 = .ok (.getfield 7, 3) := by decide +kernel
theorem dX7_refreshes_92 : decode cX7_refreshes 92 = .ok (.iconst 5, 1) := by decide +kernel
theorem dX7_refreshes_93 : decode cX7_refreshes 93 = .ok (.dup2, 1) := by decide +kernel
theorem dX7_refreshes_94 : decode cX7_refreshes 94 = .ok (.iaload, 1) := by decide +kernel
theorem dX7_refreshes_95 : decode cX7_refreshes 95 = .ok (.aload_n 0, 1) := by decide +kernel
theorem dX7_refreshes_96 : decode cX7_refreshes 96 = .ok (.invokevirtual 60, 3) := by decide +kernel
theorem dX7_refreshes_99 : decode cX7_refreshes 99 = .ok (.iadd, 1) := by decide +kernel
theorem dX7_refreshes_100 : decode cX7_refreshes 100 = .ok (.iastore, 1) := by decide +kernel
theorem dX7_refreshes_101 : decode cX7_refreshes 101 = .ok (.iload_n 2, 1) := by decide +kernel
theorem dX7_refreshes_102 : decode cX7_refreshes 102 = .ok (.ireturn, 1) := by decide +kernel
theorem dX7_canAdd_0 : decode cX7_canAdd 0 = .ok (.aload_n 0, 1) := by decide +kernel
theorem dX7_canAdd_1 : decode cX7_canAdd 1 = .ok (.getfield 7, 3) := by decide +kernel
theorem dX7_canAdd_4 : decode cX7_canAdd 4 = .ok (.iconst 0, 1) := by decide +kernel
theorem dX7_canAdd_5 : decode cX7_canAdd 5 = .ok (.iaload, 1) := by decide +kernel
theorem dX7_canAdd_6 : decode cX7_canAdd 6 = .ok (.iload_n 1, 1) := by decide +kernel
theorem dX7_canAdd_7 : decode cX7_canAdd 7 = .ok (.ishr, 1) := by decide +kernel
theorem dX7_canAdd_8 : decode cX7_canAdd 8 = .ok (.iconst 1, 1) := by decide +kernel
theorem dX7_canAdd_9 : decode cX7_canAdd 9 = .ok (.iand, 1) := by decide +kernel
theorem dX7_canAdd_10 : decode cX7_canAdd 10 = .ok (.ifCond .ne 7, 3) := by decide +kernel
theorem dX7_canAdd_13 : decode cX7_canAdd 13 = .ok (.iconst 1, 1) := by decide +kernel
theorem dX7_canAdd_14 : decode cX7_canAdd 14 = .ok (.goto 4, 3) := by decide +kernel
theorem dX7_canAdd_17 : decode cX7_canAdd 17 = .ok (.iconst 0, 1) := by decide +kernel
theorem dX7_canAdd_18 : decode cX7_canAdd 18 = .ok (.ireturn, 1) := by decide +kernel
theorem dX7_changeDraft_0 : decode cX7_changeDraft 0 = .ok (.aload_n 0, 1) := by decide +kernel
theorem dX7_changeDraft_1 : decode cX7_changeDraft 1 = .ok (.getfield 7, 3) := by decide +kernel
theorem dX7_changeDraft_4 : decode cX7_changeDraft 4 = .ok (.iconst 0, 1) := by decide +kernel
theorem dX7_changeDraft_5 : decode cX7_changeDraft 5 = .ok (.dup2, 1) := by decide +kernel
theorem dX7_changeDraft_6 : decode cX7_changeDraft 6 = .ok (.iaload, 1) := by decide +kernel
theorem dX7_changeDraft_7 : decode cX7_changeDraft 7 = .ok (.iconst 1, 1) := by decide +kernel
theorem dX7_changeDraft_8 : decode cX7_changeDraft 8 = .ok (.iload_n 1, 1) := by decide +kernel
theorem dX7_changeDraft_9 : decode cX7_changeDraft 9 = .ok (.ishl, 1) := by decide +kernel
theorem dX7_changeDraft_10 : decode cX7_changeDraft 10 = .ok (.ixor, 1) := by decide +kernel
theorem dX7_changeDraft_11 : decode cX7_changeDraft 11 = .ok (.iastore, 1) := by decide +kernel
theorem dX7_changeDraft_12 : decode cX7_changeDraft 12 = .ok (.aload_n 0, 1) := by decide +kernel
theorem dX7_changeDraft_13 : decode cX7_changeDraft 13 = .ok (.getfield 7, 3) := by decide +kernel
theorem dX7_changeDraft_16 : decode cX7_changeDraft 16 = .ok (.iconst 0, 1) := by decide +kernel
theorem dX7_changeDraft_17 : decode cX7_changeDraft 17 = .ok (.iaload, 1) := by decide +kernel
theorem dX7_changeDraft_18 : decode cX7_changeDraft 18 = .ok (.invokestatic 45, 3) := by decide +kernel
theorem dX7_changeDraft_21 : decode cX7_changeDraft 21 = .ok (.ireturn, 1) := by decide +kernel
theorem dX7_canPublish_0 : decode cX7_canPublish 0 = .ok (.aload_n 0, 1) := by decide +kernel
theorem dX7_canPublish_1 : decode cX7_canPublish 1 = .ok (.getfield 7, 3) := by decide +kernel
theorem dX7_canPublish_4 : decode cX7_canPublish 4 = .ok (.iconst 0, 1) := by decide +kernel
theorem dX7_canPublish_5 : decode cX7_canPublish 5 = .ok (.iaload, 1) := by decide +kernel
theorem dX7_canPublish_6 : decode cX7_canPublish 6 = .ok (.aload_n 0, 1) := by decide +kernel
theorem dX7_canPublish_7 : decode cX7_canPublish 7 = .ok (.getfield 7, 3) := by decide +kernel
theorem dX7_canPublish_10 : decode cX7_canPublish 10 = .ok (.iconst 1, 1) := by decide +kernel
theorem dX7_canPublish_11 : decode cX7_canPublish 11 = .ok (.iaload, 1) := by decide +kernel
theorem dX7_canPublish_12 : decode cX7_canPublish 12 = .ok (.if_icmp .eq 7, 3) := by decide +kernel
theorem dX7_canPublish_15 : decode cX7_canPublish 15 = .ok (.iconst 1, 1) := by decide +kernel
theorem dX7_canPublish_16 : decode cX7_canPublish 16 = .ok (.goto 4, 3) := by decide +kernel
theorem dX7_canPublish_19 : decode cX7_canPublish 19 = .ok (.iconst 0, 1) := by decide +kernel
theorem dX7_canPublish_20 : decode cX7_canPublish 20 = .ok (.ireturn, 1) := by decide +kernel
theorem dX7_publishes_0 : decode cX7_publishes 0 = .ok (.aload_n 0, 1) := by decide +kernel
theorem dX7_publishes_1 : decode cX7_publishes 1 = .ok (.getfield 7, 3) := by decide +kernel
theorem dX7_publishes_4 : decode cX7_publishes 4 = .ok (.iconst 4, 1) := by decide +kernel
theorem dX7_publishes_5 : decode cX7_publishes 5 = .ok (.iaload, 1) := by decide +kernel
theorem dX7_publishes_6 : decode cX7_publishes 6 = .ok (.aload_n 0, 1) := by decide +kernel
theorem dX7_publishes_7 : decode cX7_publishes 7 = .ok (.getfield 7, 3) := by decide +kernel
theorem dX7_publishes_10 : decode cX7_publishes 10 = .ok (.iconst 3, 1) := by decide +kernel
theorem dX7_publishes_11 : decode cX7_publishes 11 = .ok (.iaload, 1) := by decide +kernel
theorem dX7_publishes_12 : decode cX7_publishes 12 = .ok (.if_icmp .ne 7, 3) := by decide +kernel
theorem dX7_publishes_15 : decode cX7_publishes 15 = .ok (.aload_n 0, 1) := by decide +kernel
theorem dX7_publishes_16 : decode cX7_publishes 16 = .ok (.invokevirtual 74, 3) := by decide +kernel
theorem dX7_publishes_19 : decode cX7_publishes 19 = .ok (.bipush 6, 2) := by decide +kernel
theorem dX7_publishes_21 : decode cX7_publishes 21 = .ok (.iconst 3, 1) := by decide +kernel
theorem dX7_publishes_22 : decode cX7_publishes 22 = .ok (.aload_n 0, 1) := by decide +kernel
theorem dX7_publishes_23 : decode cX7_publishes 23 = .ok (.getfield 7, 3) := by decide +kernel
theorem dX7_publishes_26 : decode cX7_publishes 26 = .ok (.iconst 4, 1) := by decide +kernel
theorem dX7_publishes_27 : decode cX7_publishes 27 = .ok (.iaload, 1) := by decide +kernel
theorem dX7_publishes_28 : decode cX7_publishes 28 = .ok (.imul, 1) := by decide +kernel
theorem dX7_publishes_29 : decode cX7_publishes 29 = .ok (.iadd, 1) := by decide +kernel
theorem dX7_publishes_30 : decode cX7_publishes 30 = .ok (.istore_n 1, 1) := by decide +kernel
theorem dX7_publishes_31 : decode cX7_publishes 31 = .ok (.aload_n 0, 1) := by decide +kernel
theorem dX7_publishes_32 : decode cX7_publishes 32 = .ok (.getfield 7, 3) := by decide +kernel
theorem dX7_publishes_35 : decode cX7_publishes 35 = .ok (.iload_n 1, 1) := by decide +kernel
theorem dX7_publishes_36 : decode cX7_publishes 36 = .ok (.iconst 0, 1) := by decide +kernel
theorem dX7_publishes_37 : decode cX7_publishes 37 = .ok (.iadd, 1) := by decide +kernel
theorem dX7_publishes_38 : decode cX7_publishes 38 = .ok (.aload_n 0, 1) := by decide +kernel
theorem dX7_publishes_39 : decode cX7_publishes 39 = .ok (.getfield 7, 3) := by decide +kernel
theorem dX7_publishes_42 : decode cX7_publishes 42 = .ok (.iconst 2, 1) := by decide +kernel
theorem dX7_publishes_43 : decode cX7_publishes 43 = .ok (.iaload, 1) := by decide +kernel
theorem dX7_publishes_44 : decode cX7_publishes 44 = .ok (.iastore, 1) := by decide +kernel
theorem dX7_publishes_45 : decode cX7_publishes 45 = .ok (.aload_n 0, 1) := by decide +kernel
theorem dX7_publishes_46 : decode cX7_publishes 46 = .ok (.getfield 7, 3) := by decide +kernel
theorem dX7_publishes_49 : decode cX7_publishes 49 = .ok (.iload_n 1, 1) := by decide +kernel
theorem dX7_publishes_50 : decode cX7_publishes 50 = .ok (.iconst 1, 1) := by decide +kernel
theorem dX7_publishes_51 : decode cX7_publishes 51 = .ok (.iadd, 1) := by decide +kernel
theorem dX7_publishes_52 : decode cX7_publishes 52 = .ok (.aload_n 0, 1) := by decide +kernel
theorem dX7_publishes_53 : decode cX7_publishes 53 = .ok (.getfield 7, 3) := by decide +kernel
theorem dX7_publishes_56 : decode cX7_publishes 56 = .ok (.iconst 1, 1) := by decide +kernel
theorem dX7_publishes_57 : decode cX7_publishes 57 = .ok (.iaload, 1) := by decide +kernel
theorem dX7_publishes_58 : decode cX7_publishes 58 = .ok (.aload_n 0, 1) := by decide +kernel
theorem dX7_publishes_59 : decode cX7_publishes 59 = .ok (.getfield 7, 3) := by decide +kernel
theorem dX7_publishes_62 : decode cX7_publishes 62 = .ok (.iconst 0, 1) := by decide +kernel
theorem dX7_publishes_63 : decode cX7_publishes 63 = .ok (.iaload, 1) := by decide +kernel
theorem dX7_publishes_64 : decode cX7_publishes 64 = .ok (.iconst (-1), 1) := by decide +kernel
theorem dX7_publishes_65 : decode cX7_publishes 65 = .ok (.ixor, 1) := by decide +kernel
theorem dX7_publishes_66 : decode cX7_publishes 66 = .ok (.iand, 1) := by decide +kernel
theorem dX7_publishes_67 : decode cX7_publishes 67 = .ok (.iastore, 1) := by decide +kernel
theorem dX7_publishes_68 : decode cX7_publishes 68 = .ok (.aload_n 0, 1) := by decide +kernel
theorem dX7_publishes_69 : decode cX7_publishes 69 = .ok (.getfield 7, 3) := by decide +kernel
theorem dX7_publishes_72 : decode cX7_publishes 72 = .ok (.iload_n 1, 1) := by decide +kernel
theorem dX7_publishes_73 : decode cX7_publishes 73 = .ok (.iconst 2, 1) := by decide +kernel
theorem dX7_publishes_74 : decode cX7_publishes 74 = .ok (.iadd, 1) := by decide +kernel
theorem dX7_publishes_75 : decode cX7_publishes 75 = .ok (.aload_n 0, 1) := by decide +kernel
theorem dX7_publishes_76 : decode cX7_publishes 76 = .ok (.getfield 7, 3) := by decide +kernel
theorem dX7_publishes_79 : decode cX7_publishes 79 = .ok (.iconst 0, 1) := by decide +kernel
theorem dX7_publishes_80 : decode cX7_publishes 80 = .ok (.iaload, 1) := by decide +kernel
theorem dX7_publishes_81 : decode cX7_publishes 81 = .ok (.aload_n 0, 1) := by decide +kernel
theorem dX7_publishes_82 : decode cX7_publishes 82 = .ok (.getfield 7, 3) := by decide +kernel
theorem dX7_publishes_85 : decode cX7_publishes 85 = .ok (.iconst 1, 1) := by decide +kernel
theorem dX7_publishes_86 : decode cX7_publishes 86 = .ok (.iaload, 1) := by decide +kernel
theorem dX7_publishes_87 : decode cX7_publishes 87 = .ok (.iconst (-1), 1) := by decide +kernel
theorem dX7_publishes_88 : decode cX7_publishes 88 = .ok (.ixor, 1) := by decide +kernel
theorem dX7_publishes_89 : decode cX7_publishes 89 = .ok (.iand, 1) := by decide +kernel
theorem dX7_publishes_90 : decode cX7_publishes 90 = .ok (.iastore, 1) := by decide +kernel
theorem dX7_publishes_91 : decode cX7_publishes 91 = .ok (.aload_n 0, 1) := by decide +kernel
theorem dX7_publishes_92 : decode cX7_publishes 92 = .ok (.getfield 7, 3) := by decide +kernel
theorem dX7_publishes_95 : decode cX7_publishes 95 = .ok (.iconst 4, 1) := by decide +kernel
theorem dX7_publishes_96 : decode cX7_publishes 96 = .ok (.dup2, 1) := by decide +kernel
theorem dX7_publishes_97 : decode cX7_publishes 97 = .ok (.iaload, 1) := by decide +kernel
theorem dX7_publishes_98 : decode cX7_publishes 98 = .ok (.iconst 1, 1) := by decide +kernel
theorem dX7_publishes_99 : decode cX7_publishes 99 = .ok (.iadd, 1) := by decide +kernel
theorem dX7_publishes_100 : decode cX7_publishes 100 = .ok (.iastore, 1) := by decide +kernel
theorem dX7_publishes_101 : decode cX7_publishes 101 = .ok (.aload_n 0, 1) := by decide +kernel
theorem dX7_publishes_102 : decode cX7_publishes 102 = .ok (.getfield 7, 3) := by decide +kernel
theorem dX7_publishes_105 : decode cX7_publishes 105 = .ok (.iconst 1, 1) := by decide +kernel
theorem dX7_publishes_106 : decode cX7_publishes 106 = .ok (.aload_n 0, 1) := by decide +kernel
theorem dX7_publishes_107 : decode cX7_publishes 107 = .ok (.getfield 7, 3) := by decide +kernel
theorem dX7_publishes_110 : decode cX7_publishes 110 = .ok (.iconst 0, 1) := by decide +kernel
theorem dX7_publishes_111 : decode cX7_publishes 111 = .ok (.iaload, 1) := by decide +kernel
theorem dX7_publishes_112 : decode cX7_publishes 112 = .ok (.iastore, 1) := by decide +kernel
theorem dX7_publishes_113 : decode cX7_publishes 113 = .ok (.aload_n 0, 1) := by decide +kernel
theorem dX7_publishes_114 : decode cX7_publishes 114 = .ok (.getfield 7, 3) := by decide +kernel
theorem dX7_publishes_117 : decode cX7_publishes 117 = .ok (.iconst 2, 1) := by decide +kernel
theorem dX7_publishes_118 : decode cX7_publishes 118 = .ok (.aload_n 0, 1) := by decide +kernel
theorem dX7_publishes_119 : decode cX7_publishes 119 = .ok (.getfield 7, 3) := by decide +kernel
theorem dX7_publishes_122 : decode cX7_publishes 122 = .ok (.iconst 2, 1) := by decide +kernel
theorem dX7_publishes_123 : decode cX7_publishes 123 = .ok (.iaload, 1) := by decide +kernel
theorem dX7_publishes_124 : decode cX7_publishes 124 = .ok (.iconst 1, 1) := by decide +kernel
theorem dX7_publishes_125 : decode cX7_publishes 125 = .ok (.iadd, 1) := by decide +kernel
theorem dX7_publishes_126 : decode cX7_publishes 126 = .ok (.bipush 16, 2) := by decide +kernel
theorem dX7_publishes_128 : decode cX7_publishes 128 = .ok (.irem, 1) := by decide +kernel
theorem dX7_publishes_129 : decode cX7_publishes 129 = .ok (.iastore, 1) := by decide +kernel
theorem dX7_publishes_130 : decode cX7_publishes 130 = .ok (.aload_n 0, 1) := by decide +kernel
theorem dX7_publishes_131 : decode cX7_publishes 131 = .ok (.invokevirtual 77, 3) := by decide +kernel
theorem dX7_publishes_134 : decode cX7_publishes 134 = .ok (.aload_n 0, 1) := by decide +kernel
theorem dX7_publishes_135 : decode cX7_publishes 135 = .ok (.getfield 7, 3) := by decide +kernel
theorem dX7_publishes_138 : decode cX7_publishes 138 = .ok (.iconst 2, 1) := by decide +kernel
theorem dX7_publishes_139 : decode cX7_publishes 139 = .ok (.iaload, 1) := by decide +kernel
theorem dX7_publishes_140 : decode cX7_publishes 140 = .ok (.ireturn, 1) := by decide +kernel
theorem dX7_canRenumber_0 : decode cX7_canRenumber 0 = .ok (.iload_n 1, 1) := by decide +kernel
theorem dX7_canRenumber_1 : decode cX7_canRenumber 1 = .ok (.invokestatic 80, 3) := by decide +kernel
theorem dX7_canRenumber_4 : decode cX7_canRenumber 4 = .ok (.ifCond .eq 17, 3) := by decide +kernel
theorem dX7_canRenumber_7 : decode cX7_canRenumber 7 = .ok (.iload_n 1, 1) := by decide +kernel
theorem dX7_canRenumber_8 : decode cX7_canRenumber 8 = .ok (.aload_n 0, 1) := by decide +kernel
theorem dX7_canRenumber_9 : decode cX7_canRenumber 9 = .ok (.getfield 7, 3) := by decide +kernel
theorem dX7_canRenumber_12 : decode cX7_canRenumber 12 = .ok (.iconst 2, 1) := by decide +kernel
theorem dX7_canRenumber_13 : decode cX7_canRenumber 13 = .ok (.iaload, 1) := by decide +kernel
theorem dX7_canRenumber_14 : decode cX7_canRenumber 14 = .ok (.if_icmp .eq 7, 3) := by decide +kernel
theorem dX7_canRenumber_17 : decode cX7_canRenumber 17 = .ok (.iconst 1, 1) := by decide +kernel
theorem dX7_canRenumber_18 : decode cX7_canRenumber 18 = .ok (.goto 4, 3) := by decide +kernel
theorem dX7_canRenumber_21 : decode cX7_canRenumber 21 = .ok (.iconst 0, 1) := by decide +kernel
theorem dX7_canRenumber_22 : decode cX7_canRenumber 22 = .ok (.ireturn, 1) := by decide +kernel
theorem dX7_renumbers_0 : decode cX7_renumbers 0 = .ok (.aload_n 0, 1) := by decide +kernel
theorem dX7_renumbers_1 : decode cX7_renumbers 1 = .ok (.getfield 7, 3) := by decide +kernel
theorem dX7_renumbers_4 : decode cX7_renumbers 4 = .ok (.iconst 2, 1) := by decide +kernel
theorem dX7_renumbers_5 : decode cX7_renumbers 5 = .ok (.iaload, 1) := by decide +kernel
theorem dX7_renumbers_6 : decode cX7_renumbers 6 = .ok (.istore_n 2, 1) := by decide +kernel
theorem dX7_renumbers_7 : decode cX7_renumbers 7 = .ok (.aload_n 0, 1) := by decide +kernel
theorem dX7_renumbers_8 : decode cX7_renumbers 8 = .ok (.getfield 7, 3) := by decide +kernel
theorem dX7_renumbers_11 : decode cX7_renumbers 11 = .ok (.iconst 2, 1) := by decide +kernel
theorem dX7_renumbers_12 : decode cX7_renumbers 12 = .ok (.iload_n 1, 1) := by decide +kernel
theorem dX7_renumbers_13 : decode cX7_renumbers 13 = .ok (.iastore, 1) := by decide +kernel
theorem dX7_renumbers_14 : decode cX7_renumbers 14 = .ok (.aload_n 0, 1) := by decide +kernel
theorem dX7_renumbers_15 : decode cX7_renumbers 15 = .ok (.getfield 7, 3) := by decide +kernel
theorem dX7_renumbers_18 : decode cX7_renumbers 18 = .ok (.iconst 4, 1) := by decide +kernel
theorem dX7_renumbers_19 : decode cX7_renumbers 19 = .ok (.iconst 0, 1) := by decide +kernel
theorem dX7_renumbers_20 : decode cX7_renumbers 20 = .ok (.iastore, 1) := by decide +kernel
theorem dX7_renumbers_21 : decode cX7_renumbers 21 = .ok (.aload_n 0, 1) := by decide +kernel
theorem dX7_renumbers_22 : decode cX7_renumbers 22 = .ok (.invokevirtual 77, 3) := by decide +kernel
theorem dX7_renumbers_25 : decode cX7_renumbers 25 = .ok (.iload_n 2, 1) := by decide +kernel
theorem dX7_renumbers_26 : decode cX7_renumbers 26 = .ok (.ireturn, 1) := by decide +kernel
theorem dX7_sleepers_0 : decode cX7_sleepers 0 = .ok (.iconst 0, 1) := by decide +kernel
theorem dX7_sleepers_1 : decode cX7_sleepers 1 = .ok (.istore_n 1, 1) := by decide +kernel
theorem dX7_sleepers_2 : decode cX7_sleepers 2 = .ok (.iconst 0, 1) := by decide +kernel
theorem dX7_sleepers_3 : decode cX7_sleepers 3 = .ok (.istore_n 2, 1) := by decide +kernel
theorem dX7_sleepers_4 : decode cX7_sleepers 4 = .ok (.iload_n 2, 1) := by decide +kernel
theorem dX7_sleepers_5 : decode cX7_sleepers 5 = .ok (.iconst 4, 1) := by decide +kernel
theorem dX7_sleepers_6 : decode cX7_sleepers 6 = .ok (.if_icmp .ge 18, 3) := by decide +kernel
theorem dX7_sleepers_9 : decode cX7_sleepers 9 = .ok (.iload_n 1, 1) := by decide +kernel
theorem dX7_sleepers_10 : decode cX7_sleepers 10 = .ok (.aload_n 0, 1) := by decide +kernel
theorem dX7_sleepers_11 : decode cX7_sleepers 11 = .ok (.iload_n 2, 1) := by decide +kernel
theorem dX7_sleepers_12 : decode cX7_sleepers 12 = .ok (.iconst 3, 1) := by decide +kernel
theorem dX7_sleepers_13 : decode cX7_sleepers 13 = .ok (.invokevirtual 34, 3) := by decide +kernel
theorem dX7_sleepers_16 : decode cX7_sleepers 16 = .ok (.iadd, 1) := by decide +kernel
theorem dX7_sleepers_17 : decode cX7_sleepers 17 = .ok (.istore_n 1, 1) := by decide +kernel
theorem dX7_sleepers_18 : decode cX7_sleepers 18 = .ok (.iinc 2 1, 3) := by decide +kernel
theorem dX7_sleepers_21 : decode cX7_sleepers 21 = .ok (.goto (-17), 3) := by decide +kernel
theorem dX7_sleepers_24 : decode cX7_sleepers 24 = .ok (.iload_n 1, 1) := by decide +kernel
theorem dX7_sleepers_25 : decode cX7_sleepers 25 = .ok (.ireturn, 1) := by decide +kernel
theorem dX7_turns_0 : decode cX7_turns 0 = .ok (.aload_n 0, 1) := by decide +kernel
theorem dX7_turns_1 : decode cX7_turns 1 = .ok (.iload_n 1, 1) := by decide +kernel
theorem dX7_turns_2 : decode cX7_turns 2 = .ok (.iconst 3, 1) := by decide +kernel
theorem dX7_turns_3 : decode cX7_turns 3 = .ok (.iload_n 2, 1) := by decide +kernel
theorem dX7_turns_4 : decode cX7_turns 4 = .ok (.invokevirtual 38, 3) := by decide +kernel
theorem dX7_turns_7 : decode cX7_turns 7 = .ok (.aload_n 0, 1) := by decide +kernel
theorem dX7_turns_8 : decode cX7_turns 8 = .ok (.invokevirtual 84, 3) := by decide +kernel
theorem dX7_turns_11 : decode cX7_turns 11 = .ok (.ireturn, 1) := by decide +kernel
theorem dX7_add_0 : decode cX7_add 0 = .ok (.aload_n 0, 1) := by decide +kernel
theorem dX7_add_1 : decode cX7_add 1 = .ok (.iconst 0, 1) := by decide +kernel
theorem dX7_add_2 : decode cX7_add 2 = .ok (.putfield 19, 3) := by decide +kernel
theorem dX7_add_5 : decode cX7_add 5 = .ok (.iload_n 1, 1) := by decide +kernel
theorem dX7_add_6 : decode cX7_add 6 = .ok (.invokestatic 87, 3) := by decide +kernel
theorem dX7_add_9 : decode cX7_add 9 = .ok (.ifCond .ne 9, 3) := by decide +kernel
theorem dX7_add_12 : decode cX7_add 12 = .ok (.aload_n 0, 1) := by decide +kernel
theorem dX7_add_13 : decode cX7_add 13 = .ok (.iconst 1, 1) := by decide +kernel
theorem dX7_add_14 : decode cX7_add 14 = .ok (.invokevirtual 30, 3) := by decide +kernel
theorem dX7_add_17 : decode cX7_add 17 = .ok (.ireturn, 1) := by decide +kernel
theorem dX7_add_18 : decode cX7_add 18 = .ok (.aload_n 0, 1) := by decide +kernel
theorem dX7_add_19 : decode cX7_add 19 = .ok (.iload_n 1, 1) := by decide +kernel
theorem dX7_add_20 : decode cX7_add 20 = .ok (.invokevirtual 90, 3) := by decide +kernel
theorem dX7_add_23 : decode cX7_add 23 = .ok (.ifCond .ne 9, 3) := by decide +kernel
theorem dX7_add_26 : decode cX7_add 26 = .ok (.aload_n 0, 1) := by decide +kernel
theorem dX7_add_27 : decode cX7_add 27 = .ok (.iconst 2, 1) := by decide +kernel
theorem dX7_add_28 : decode cX7_add 28 = .ok (.invokevirtual 30, 3) := by decide +kernel
theorem dX7_add_31 : decode cX7_add 31 = .ok (.ireturn, 1) := by decide +kernel
theorem dX7_add_32 : decode cX7_add 32 = .ok (.aload_n 0, 1) := by decide +kernel
theorem dX7_add_33 : decode cX7_add 33 = .ok (.invokevirtual 93, 3) := by decide +kernel
theorem dX7_add_36 : decode cX7_add 36 = .ok (.aload_n 0, 1) := by decide +kernel
theorem dX7_add_37 : decode cX7_add 37 = .ok (.iload_n 1, 1) := by decide +kernel
theorem dX7_add_38 : decode cX7_add 38 = .ok (.invokevirtual 96, 3) := by decide +kernel
theorem dX7_add_41 : decode cX7_add 41 = .ok (.ireturn, 1) := by decide +kernel
theorem dX7_crossOut_0 : decode cX7_crossOut 0 = .ok (.aload_n 0, 1) := by decide +kernel
theorem dX7_crossOut_1 : decode cX7_crossOut 1 = .ok (.iconst 0, 1) := by decide +kernel
theorem dX7_crossOut_2 : decode cX7_crossOut 2 = .ok (.putfield 19, 3) := by decide +kernel
theorem dX7_crossOut_5 : decode cX7_crossOut 5 = .ok (.iload_n 1, 1) := by decide +kernel
theorem dX7_crossOut_6 : decode cX7_crossOut 6 = .ok (.invokestatic 87, 3) := by decide +kernel
theorem dX7_crossOut_9 : decode cX7_crossOut 9 = .ok (.ifCond .ne 9, 3) := by decide +kernel
theorem dX7_crossOut_12 : decode cX7_crossOut 12 = .ok (.aload_n 0, 1) := by decide +kernel
theorem dX7_crossOut_13 : decode cX7_crossOut 13 = .ok (.iconst 1, 1) := by decide +kernel
theorem dX7_crossOut_14 : decode cX7_crossOut 14 = .ok (.invokevirtual 30, 3) := by decide +kernel
theorem dX7_crossOut_17 : decode cX7_crossOut 17 = .ok (.ireturn, 1) := by decide +kernel
theorem dX7_crossOut_18 : decode cX7_crossOut 18 = .ok (.aload_n 0, 1) := by decide +kernel
theorem dX7_crossOut_19 : decode cX7_crossOut 19 = .ok (.iload_n 1, 1) := by decide +kernel
theorem dX7_crossOut_20 : decode cX7_crossOut 20 = .ok (.invokevirtual 90, 3) := by decide +kernel
theorem dX7_crossOut_23 : decode cX7_crossOut 23 = .ok (.ifCond .eq 9, 3) := by decide +kernel
theorem dX7_crossOut_26 : decode cX7_crossOut 26 = .ok (.aload_n 0, 1) := by decide +kernel
theorem dX7_crossOut_27 : decode cX7_crossOut 27 = .ok (.iconst 2, 1) := by decide +kernel
theorem dX7_crossOut_28 : decode cX7_crossOut 28 = .ok (.invokevirtual 30, 3) := by decide +kernel
theorem dX7_crossOut_31 : decode cX7_crossOut 31 = .ok (.ireturn, 1) := by decide +kernel
theorem dX7_crossOut_32 : decode cX7_crossOut 32 = .ok (.aload_n 0, 1) := by decide +kernel
theorem dX7_crossOut_33 : decode cX7_crossOut 33 = .ok (.invokevirtual 93, 3) := by decide +kernel
theorem dX7_crossOut_36 : decode cX7_crossOut 36 = .ok (.aload_n 0, 1) := by decide +kernel
theorem dX7_crossOut_37 : decode cX7_crossOut 37 = .ok (.iload_n 1, 1) := by decide +kernel
theorem dX7_crossOut_38 : decode cX7_crossOut 38 = .ok (.invokevirtual 96, 3) := by decide +kernel
theorem dX7_crossOut_41 : decode cX7_crossOut 41 = .ok (.ireturn, 1) := by decide +kernel
theorem dX7_publish_0 : decode cX7_publish 0 = .ok (.aload_n 0, 1) := by decide +kernel
theorem dX7_publish_1 : decode cX7_publish 1 = .ok (.iconst 0, 1) := by decide +kernel
theorem dX7_publish_2 : decode cX7_publish 2 = .ok (.putfield 19, 3) := by decide +kernel
theorem dX7_publish_5 : decode cX7_publish 5 = .ok (.aload_n 0, 1) := by decide +kernel
theorem dX7_publish_6 : decode cX7_publish 6 = .ok (.invokevirtual 99, 3) := by decide +kernel
theorem dX7_publish_9 : decode cX7_publish 9 = .ok (.ifCond .ne 9, 3) := by decide +kernel
theorem dX7_publish_12 : decode cX7_publish 12 = .ok (.aload_n 0, 1) := by decide +kernel
theorem dX7_publish_13 : decode cX7_publish 13 = .ok (.iconst 1, 1) := by decide +kernel
theorem dX7_publish_14 : decode cX7_publish 14 = .ok (.invokevirtual 30, 3) := by decide +kernel
theorem dX7_publish_17 : decode cX7_publish 17 = .ok (.ireturn, 1) := by decide +kernel
theorem dX7_publish_18 : decode cX7_publish 18 = .ok (.aload_n 0, 1) := by decide +kernel
theorem dX7_publish_19 : decode cX7_publish 19 = .ok (.invokevirtual 93, 3) := by decide +kernel
theorem dX7_publish_22 : decode cX7_publish 22 = .ok (.aload_n 0, 1) := by decide +kernel
theorem dX7_publish_23 : decode cX7_publish 23 = .ok (.invokevirtual 103, 3) := by decide +kernel
theorem dX7_publish_26 : decode cX7_publish 26 = .ok (.ireturn, 1) := by decide +kernel
theorem dX7_renumber_0 : decode cX7_renumber 0 = .ok (.aload_n 0, 1) := by decide +kernel
theorem dX7_renumber_1 : decode cX7_renumber 1 = .ok (.iconst 0, 1) := by decide +kernel
theorem dX7_renumber_2 : decode cX7_renumber 2 = .ok (.putfield 19, 3) := by decide +kernel
theorem dX7_renumber_5 : decode cX7_renumber 5 = .ok (.aload_n 0, 1) := by decide +kernel
theorem dX7_renumber_6 : decode cX7_renumber 6 = .ok (.iload_n 1, 1) := by decide +kernel
theorem dX7_renumber_7 : decode cX7_renumber 7 = .ok (.invokevirtual 106, 3) := by decide +kernel
theorem dX7_renumber_10 : decode cX7_renumber 10 = .ok (.ifCond .ne 9, 3) := by decide +kernel
theorem dX7_renumber_13 : decode cX7_renumber 13 = .ok (.aload_n 0, 1) := by decide +kernel
theorem dX7_renumber_14 : decode cX7_renumber 14 = .ok (.iconst 1, 1) := by decide +kernel
theorem dX7_renumber_15 : decode cX7_renumber 15 = .ok (.invokevirtual 30, 3) := by decide +kernel
theorem dX7_renumber_18 : decode cX7_renumber 18 = .ok (.ireturn, 1) := by decide +kernel
theorem dX7_renumber_19 : decode cX7_renumber 19 = .ok (.aload_n 0, 1) := by decide +kernel
theorem dX7_renumber_20 : decode cX7_renumber 20 = .ok (.invokevirtual 93, 3) := by decide +kernel
theorem dX7_renumber_23 : decode cX7_renumber 23 = .ok (.aload_n 0, 1) := by decide +kernel
theorem dX7_renumber_24 : decode cX7_renumber 24 = .ok (.iload_n 1, 1) := by decide +kernel
theorem dX7_renumber_25 : decode cX7_renumber 25 = .ok (.invokevirtual 109, 3) := by decide +kernel
theorem dX7_renumber_28 : decode cX7_renumber 28 = .ok (.ireturn, 1) := by decide +kernel
theorem dX7_setKeep_0 : decode cX7_setKeep 0 = .ok (.aload_n 0, 1) := by decide +kernel
theorem dX7_setKeep_1 : decode cX7_setKeep 1 = .ok (.iconst 0, 1) := by decide +kernel
theorem dX7_setKeep_2 : decode cX7_setKeep 2 = .ok (.putfield 19, 3) := by decide +kernel
theorem dX7_setKeep_5 : decode cX7_setKeep 5 = .ok (.iload_n 1, 1) := by decide +kernel
theorem dX7_setKeep_6 : decode cX7_setKeep 6 = .ok (.iconst 1, 1) := by decide +kernel
theorem dX7_setKeep_7 : decode cX7_setKeep 7 = .ok (.bipush 6, 2) := by decide +kernel
theorem dX7_setKeep_9 : decode cX7_setKeep 9 = .ok (.invokestatic 23, 3) := by decide +kernel
theorem dX7_setKeep_12 : decode cX7_setKeep 12 = .ok (.ifCond .ne 9, 3) := by decide +kernel
theorem dX7_setKeep_15 : decode cX7_setKeep 15 = .ok (.aload_n 0, 1) := by decide +kernel
theorem dX7_setKeep_16 : decode cX7_setKeep 16 = .ok (.iconst 1, 1) := by decide +kernel
theorem dX7_setKeep_17 : decode cX7_setKeep 17 = .ok (.invokevirtual 30, 3) := by decide +kernel
theorem dX7_setKeep_20 : decode cX7_setKeep 20 = .ok (.ireturn, 1) := by decide +kernel
theorem dX7_setKeep_21 : decode cX7_setKeep 21 = .ok (.aload_n 0, 1) := by decide +kernel
theorem dX7_setKeep_22 : decode cX7_setKeep 22 = .ok (.invokevirtual 93, 3) := by decide +kernel
theorem dX7_setKeep_25 : decode cX7_setKeep 25 = .ok (.aload_n 0, 1) := by decide +kernel
theorem dX7_setKeep_26 : decode cX7_setKeep 26 = .ok (.getfield 7, 3) := by decide +kernel
theorem dX7_setKeep_29 : decode cX7_setKeep 29 = .ok (.iconst 3, 1) := by decide +kernel
theorem dX7_setKeep_30 : decode cX7_setKeep 30 = .ok (.iload_n 1, 1) := by decide +kernel
theorem dX7_setKeep_31 : decode cX7_setKeep 31 = .ok (.iastore, 1) := by decide +kernel
theorem dX7_setKeep_32 : decode cX7_setKeep 32 = .ok (.aload_n 0, 1) := by decide +kernel
theorem dX7_setKeep_33 : decode cX7_setKeep 33 = .ok (.getfield 7, 3) := by decide +kernel
theorem dX7_setKeep_36 : decode cX7_setKeep 36 = .ok (.iconst 4, 1) := by decide +kernel
theorem dX7_setKeep_37 : decode cX7_setKeep 37 = .ok (.iaload, 1) := by decide +kernel
theorem dX7_setKeep_38 : decode cX7_setKeep 38 = .ok (.iload_n 1, 1) := by decide +kernel
theorem dX7_setKeep_39 : decode cX7_setKeep 39 = .ok (.if_icmp .le 10, 3) := by decide +kernel
theorem dX7_setKeep_42 : decode cX7_setKeep 42 = .ok (.aload_n 0, 1) := by decide +kernel
theorem dX7_setKeep_43 : decode cX7_setKeep 43 = .ok (.invokevirtual 74, 3) := by decide +kernel
theorem dX7_setKeep_46 : decode cX7_setKeep 46 = .ok (.goto (-14), 3) := by decide +kernel
theorem dX7_setKeep_49 : decode cX7_setKeep 49 = .ok (.aload_n 0, 1) := by decide +kernel
theorem dX7_setKeep_50 : decode cX7_setKeep 50 = .ok (.getfield 7, 3) := by decide +kernel
theorem dX7_setKeep_53 : decode cX7_setKeep 53 = .ok (.iconst 4, 1) := by decide +kernel
theorem dX7_setKeep_54 : decode cX7_setKeep 54 = .ok (.iaload, 1) := by decide +kernel
theorem dX7_setKeep_55 : decode cX7_setKeep 55 = .ok (.ireturn, 1) := by decide +kernel
theorem dX7_edition_0 : decode cX7_edition 0 = .ok (.aload_n 0, 1) := by decide +kernel
theorem dX7_edition_1 : decode cX7_edition 1 = .ok (.iconst 0, 1) := by decide +kernel
theorem dX7_edition_2 : decode cX7_edition 2 = .ok (.putfield 19, 3) := by decide +kernel
theorem dX7_edition_5 : decode cX7_edition 5 = .ok (.aload_n 0, 1) := by decide +kernel
theorem dX7_edition_6 : decode cX7_edition 6 = .ok (.getfield 7, 3) := by decide +kernel
theorem dX7_edition_9 : decode cX7_edition 9 = .ok (.iconst 2, 1) := by decide +kernel
theorem dX7_edition_10 : decode cX7_edition 10 = .ok (.iaload, 1) := by decide +kernel
theorem dX7_edition_11 : decode cX7_edition 11 = .ok (.ireturn, 1) := by decide +kernel
theorem dX7_draft_0 : decode cX7_draft 0 = .ok (.aload_n 0, 1) := by decide +kernel
theorem dX7_draft_1 : decode cX7_draft 1 = .ok (.iconst 0, 1) := by decide +kernel
theorem dX7_draft_2 : decode cX7_draft 2 = .ok (.putfield 19, 3) := by decide +kernel
theorem dX7_draft_5 : decode cX7_draft 5 = .ok (.aload_n 0, 1) := by decide +kernel
theorem dX7_draft_6 : decode cX7_draft 6 = .ok (.getfield 7, 3) := by decide +kernel
theorem dX7_draft_9 : decode cX7_draft 9 = .ok (.iconst 0, 1) := by decide +kernel
theorem dX7_draft_10 : decode cX7_draft 10 = .ok (.iaload, 1) := by decide +kernel
theorem dX7_draft_11 : decode cX7_draft 11 = .ok (.invokestatic 45, 3) := by decide +kernel
theorem dX7_draft_14 : decode cX7_draft 14 = .ok (.ireturn, 1) := by decide +kernel
theorem dX7_published_0 : decode cX7_published 0 = .ok (.aload_n 0, 1) := by decide +kernel
theorem dX7_published_1 : decode cX7_published 1 = .ok (.iconst 0, 1) := by decide +kernel
theorem dX7_published_2 : decode cX7_published 2 = .ok (.putfield 19, 3) := by decide +kernel
theorem dX7_published_5 : decode cX7_published 5 = .ok (.aload_n 0, 1) := by decide +kernel
theorem dX7_published_6 : decode cX7_published 6 = .ok (.getfield 7, 3) := by decide +kernel
theorem dX7_published_9 : decode cX7_published 9 = .ok (.iconst 1, 1) := by decide +kernel
theorem dX7_published_10 : decode cX7_published 10 = .ok (.iaload, 1) := by decide +kernel
theorem dX7_published_11 : decode cX7_published 11 = .ok (.invokestatic 45, 3) := by decide +kernel
theorem dX7_published_14 : decode cX7_published 14 = .ok (.ireturn, 1) := by decide +kernel
theorem dX7_tellsWhere_0 : decode cX7_tellsWhere 0 = .ok (.aload_n 0, 1) := by decide +kernel
theorem dX7_tellsWhere_1 : decode cX7_tellsWhere 1 = .ok (.getfield 7, 3) := by decide +kernel
theorem dX7_tellsWhere_4 : decode cX7_tellsWhere 4 = .ok (.iconst 0, 1) := by decide +kernel
theorem dX7_tellsWhere_5 : decode cX7_tellsWhere 5 = .ok (.iaload, 1) := by decide +kernel
theorem dX7_tellsWhere_6 : decode cX7_tellsWhere 6 = .ok (.iload_n 1, 1) := by decide +kernel
theorem dX7_tellsWhere_7 : decode cX7_tellsWhere 7 = .ok (.ishr, 1) := by decide +kernel
theorem dX7_tellsWhere_8 : decode cX7_tellsWhere 8 = .ok (.iconst 1, 1) := by decide +kernel
theorem dX7_tellsWhere_9 : decode cX7_tellsWhere 9 = .ok (.iand, 1) := by decide +kernel
theorem dX7_tellsWhere_10 : decode cX7_tellsWhere 10 = .ok (.iconst 2, 1) := by decide +kernel
theorem dX7_tellsWhere_11 : decode cX7_tellsWhere 11 = .ok (.aload_n 0, 1) := by decide +kernel
theorem dX7_tellsWhere_12 : decode cX7_tellsWhere 12 = .ok (.getfield 7, 3) := by decide +kernel
theorem dX7_tellsWhere_15 : decode cX7_tellsWhere 15 = .ok (.iconst 1, 1) := by decide +kernel
theorem dX7_tellsWhere_16 : decode cX7_tellsWhere 16 = .ok (.iaload, 1) := by decide +kernel
theorem dX7_tellsWhere_17 : decode cX7_tellsWhere 17 = .ok (.iload_n 1, 1) := by decide +kernel
theorem dX7_tellsWhere_18 : decode cX7_tellsWhere 18 = .ok (.ishr, 1) := by decide +kernel
theorem dX7_tellsWhere_19 : decode cX7_tellsWhere 19 = .ok (.iconst 1, 1) := by decide +kernel
theorem dX7_tellsWhere_20 : decode cX7_tellsWhere 20 = .ok (.iand, 1) := by decide +kernel
theorem dX7_tellsWhere_21 : decode cX7_tellsWhere 21 = .ok (.imul, 1) := by decide +kernel
theorem dX7_tellsWhere_22 : decode cX7_tellsWhere 22 = .ok (.iadd, 1) := by decide +kernel
theorem dX7_tellsWhere_23 : decode cX7_tellsWhere 23 = .ok (.ireturn, 1) := by decide +kernel
theorem dX7_where_0 : decode cX7_where 0 = .ok (.aload_n 0, 1) := by decide +kernel
theorem dX7_where_1 : decode cX7_where 1 = .ok (.iconst 0, 1) := by decide +kernel
theorem dX7_where_2 : decode cX7_where 2 = .ok (.putfield 19, 3) := by decide +kernel
theorem dX7_where_5 : decode cX7_where 5 = .ok (.iload_n 1, 1) := by decide +kernel
theorem dX7_where_6 : decode cX7_where 6 = .ok (.invokestatic 87, 3) := by decide +kernel
theorem dX7_where_9 : decode cX7_where 9 = .ok (.ifCond .eq 11, 3) := by decide +kernel
theorem dX7_where_12 : decode cX7_where 12 = .ok (.aload_n 0, 1) := by decide +kernel
theorem dX7_where_13 : decode cX7_where 13 = .ok (.iload_n 1, 1) := by decide +kernel
theorem dX7_where_14 : decode cX7_where 14 = .ok (.invokevirtual 112, 3) := by decide +kernel
theorem dX7_where_17 : decode cX7_where 17 = .ok (.goto 8, 3) := by decide +kernel
theorem dX7_where_20 : decode cX7_where 20 = .ok (.aload_n 0, 1) := by decide +kernel
theorem dX7_where_21 : decode cX7_where 21 = .ok (.iconst 1, 1) := by decide +kernel
theorem dX7_where_22 : decode cX7_where 22 = .ok (.invokevirtual 30, 3) := by decide +kernel
theorem dX7_where_25 : decode cX7_where 25 = .ok (.ireturn, 1) := by decide +kernel
theorem dX7_unlike_0 : decode cX7_unlike 0 = .ok (.aload_n 0, 1) := by decide +kernel
theorem dX7_unlike_1 : decode cX7_unlike 1 = .ok (.getfield 7, 3) := by decide +kernel
theorem dX7_unlike_4 : decode cX7_unlike 4 = .ok (.iconst 0, 1) := by decide +kernel
theorem dX7_unlike_5 : decode cX7_unlike 5 = .ok (.iaload, 1) := by decide +kernel
theorem dX7_unlike_6 : decode cX7_unlike 6 = .ok (.aload_n 0, 1) := by decide +kernel
theorem dX7_unlike_7 : decode cX7_unlike 7 = .ok (.getfield 7, 3) := by decide +kernel
theorem dX7_unlike_10 : decode cX7_unlike 10 = .ok (.iconst 1, 1) := by decide +kernel
theorem dX7_unlike_11 : decode cX7_unlike 11 = .ok (.iaload, 1) := by decide +kernel
theorem dX7_unlike_12 : decode cX7_unlike 12 = .ok (.ixor, 1) := by decide +kernel
theorem dX7_unlike_13 : decode cX7_unlike 13 = .ok (.invokestatic 45, 3) := by decide +kernel
theorem dX7_unlike_16 : decode cX7_unlike 16 = .ok (.ireturn, 1) := by decide +kernel
theorem dX7_pending_0 : decode cX7_pending 0 = .ok (.aload_n 0, 1) := by decide +kernel
theorem dX7_pending_1 : decode cX7_pending 1 = .ok (.iconst 0, 1) := by decide +kernel
theorem dX7_pending_2 : decode cX7_pending 2 = .ok (.putfield 19, 3) := by decide +kernel
theorem dX7_pending_5 : decode cX7_pending 5 = .ok (.aload_n 0, 1) := by decide +kernel
theorem dX7_pending_6 : decode cX7_pending 6 = .ok (.invokevirtual 115, 3) := by decide +kernel
theorem dX7_pending_9 : decode cX7_pending 9 = .ok (.ireturn, 1) := by decide +kernel
theorem dX7_kept_0 : decode cX7_kept 0 = .ok (.aload_n 0, 1) := by decide +kernel
theorem dX7_kept_1 : decode cX7_kept 1 = .ok (.iconst 0, 1) := by decide +kernel
theorem dX7_kept_2 : decode cX7_kept 2 = .ok (.putfield 19, 3) := by decide +kernel
theorem dX7_kept_5 : decode cX7_kept 5 = .ok (.aload_n 0, 1) := by decide +kernel
theorem dX7_kept_6 : decode cX7_kept 6 = .ok (.getfield 7, 3) := by decide +kernel
theorem dX7_kept_9 : decode cX7_kept 9 = .ok (.iconst 4, 1) := by decide +kernel
theorem dX7_kept_10 : decode cX7_kept 10 = .ok (.iaload, 1) := by decide +kernel
theorem dX7_kept_11 : decode cX7_kept 11 = .ok (.ireturn, 1) := by decide +kernel
theorem dX7_isDifference_0 : decode cX7_isDifference 0 = .ok (.iload_n 1, 1) := by decide +kernel
theorem dX7_isDifference_1 : decode cX7_isDifference 1 = .ok (.iconst 0, 1) := by decide +kernel
theorem dX7_isDifference_2 : decode cX7_isDifference 2 = .ok (.aload_n 0, 1) := by decide +kernel
theorem dX7_isDifference_3 : decode cX7_isDifference 3 = .ok (.getfield 7, 3) := by decide +kernel
theorem dX7_isDifference_6 : decode cX7_isDifference 6 = .ok (.iconst 4, 1) := by decide +kernel
theorem dX7_isDifference_7 : decode cX7_isDifference 7 = .ok (.iaload, 1) := by decide +kernel
theorem dX7_isDifference_8 : decode cX7_isDifference 8 = .ok (.iconst 1, 1) := by decide +kernel
theorem dX7_isDifference_9 : decode cX7_isDifference 9 = .ok (.isub, 1) := by decide +kernel
theorem dX7_isDifference_10 : decode cX7_isDifference 10 = .ok (.invokestatic 23, 3) := by decide +kernel
theorem dX7_isDifference_13 : decode cX7_isDifference 13 = .ok (.ireturn, 1) := by decide +kernel
theorem dX7_from_0 : decode cX7_from 0 = .ok (.aload_n 0, 1) := by decide +kernel
theorem dX7_from_1 : decode cX7_from 1 = .ok (.iconst 0, 1) := by decide +kernel
theorem dX7_from_2 : decode cX7_from 2 = .ok (.putfield 19, 3) := by decide +kernel
theorem dX7_from_5 : decode cX7_from 5 = .ok (.aload_n 0, 1) := by decide +kernel
theorem dX7_from_6 : decode cX7_from 6 = .ok (.iload_n 1, 1) := by decide +kernel
theorem dX7_from_7 : decode cX7_from 7 = .ok (.invokevirtual 118, 3) := by decide +kernel
theorem dX7_from_10 : decode cX7_from 10 = .ok (.ifCond .eq 12, 3) := by decide +kernel
theorem dX7_from_13 : decode cX7_from 13 = .ok (.aload_n 0, 1) := by decide +kernel
theorem dX7_from_14 : decode cX7_from 14 = .ok (.iload_n 1, 1) := by decide +kernel
theorem dX7_from_15 : decode cX7_from 15 = .ok (.iconst 0, 1) := by decide +kernel
theorem dX7_from_16 : decode cX7_from 16 = .ok (.invokevirtual 42, 3) := by decide +kernel
theorem dX7_from_19 : decode cX7_from 19 = .ok (.goto 8, 3) := by decide +kernel
theorem dX7_from_22 : decode cX7_from 22 = .ok (.aload_n 0, 1) := by decide +kernel
theorem dX7_from_23 : decode cX7_from 23 = .ok (.iconst 1, 1) := by decide +kernel
theorem dX7_from_24 : decode cX7_from 24 = .ok (.invokevirtual 30, 3) := by decide +kernel
theorem dX7_from_27 : decode cX7_from 27 = .ok (.ireturn, 1) := by decide +kernel
theorem dX7_cost_0 : decode cX7_cost 0 = .ok (.aload_n 0, 1) := by decide +kernel
theorem dX7_cost_1 : decode cX7_cost 1 = .ok (.iconst 0, 1) := by decide +kernel
theorem dX7_cost_2 : decode cX7_cost 2 = .ok (.putfield 19, 3) := by decide +kernel
theorem dX7_cost_5 : decode cX7_cost 5 = .ok (.aload_n 0, 1) := by decide +kernel
theorem dX7_cost_6 : decode cX7_cost 6 = .ok (.iload_n 1, 1) := by decide +kernel
theorem dX7_cost_7 : decode cX7_cost 7 = .ok (.invokevirtual 118, 3) := by decide +kernel
theorem dX7_cost_10 : decode cX7_cost 10 = .ok (.ifCond .eq 11, 3) := by decide +kernel
theorem dX7_cost_13 : decode cX7_cost 13 = .ok (.aload_n 0, 1) := by decide +kernel
theorem dX7_cost_14 : decode cX7_cost 14 = .ok (.iload_n 1, 1) := by decide +kernel
theorem dX7_cost_15 : decode cX7_cost 15 = .ok (.invokevirtual 48, 3) := by decide +kernel
theorem dX7_cost_18 : decode cX7_cost 18 = .ok (.goto 8, 3) := by decide +kernel
theorem dX7_cost_21 : decode cX7_cost 21 = .ok (.aload_n 0, 1) := by decide +kernel
theorem dX7_cost_22 : decode cX7_cost 22 = .ok (.iconst 1, 1) := by decide +kernel
theorem dX7_cost_23 : decode cX7_cost 23 = .ok (.invokevirtual 30, 3) := by decide +kernel
theorem dX7_cost_26 : decode cX7_cost 26 = .ok (.ireturn, 1) := by decide +kernel
theorem dX7_compare_0 : decode cX7_compare 0 = .ok (.aload_n 0, 1) := by decide +kernel
theorem dX7_compare_1 : decode cX7_compare 1 = .ok (.iconst 0, 1) := by decide +kernel
theorem dX7_compare_2 : decode cX7_compare 2 = .ok (.putfield 19, 3) := by decide +kernel
theorem dX7_compare_5 : decode cX7_compare 5 = .ok (.iload_n 1, 1) := by decide +kernel
theorem dX7_compare_6 : decode cX7_compare 6 = .ok (.invokestatic 80, 3) := by decide +kernel
theorem dX7_compare_9 : decode cX7_compare 9 = .ok (.ifCond .eq 18, 3) := by decide +kernel
theorem dX7_compare_12 : decode cX7_compare 12 = .ok (.iload_n 2, 1) := by decide +kernel
theorem dX7_compare_13 : decode cX7_compare 13 = .ok (.invokestatic 80, 3) := by decide +kernel
theorem dX7_compare_16 : decode cX7_compare 16 = .ok (.ifCond .eq 11, 3) := by decide +kernel
theorem dX7_compare_19 : decode cX7_compare 19 = .ok (.iload_n 1, 1) := by decide +kernel
theorem dX7_compare_20 : decode cX7_compare 20 = .ok (.iload_n 2, 1) := by decide +kernel
theorem dX7_compare_21 : decode cX7_compare 21 = .ok (.invokestatic 51, 3) := by decide +kernel
theorem dX7_compare_24 : decode cX7_compare 24 = .ok (.goto 8, 3) := by decide +kernel
theorem dX7_compare_27 : decode cX7_compare 27 = .ok (.aload_n 0, 1) := by decide +kernel
theorem dX7_compare_28 : decode cX7_compare 28 = .ok (.iconst 1, 1) := by decide +kernel
theorem dX7_compare_29 : decode cX7_compare 29 = .ok (.invokevirtual 30, 3) := by decide +kernel
theorem dX7_compare_32 : decode cX7_compare 32 = .ok (.ireturn, 1) := by decide +kernel
theorem dX7_refresh_0 : decode cX7_refresh 0 = .ok (.aload_n 0, 1) := by decide +kernel
theorem dX7_refresh_1 : decode cX7_refresh 1 = .ok (.iconst 0, 1) := by decide +kernel
theorem dX7_refresh_2 : decode cX7_refresh 2 = .ok (.putfield 19, 3) := by decide +kernel
theorem dX7_refresh_5 : decode cX7_refresh 5 = .ok (.iload_n 1, 1) := by decide +kernel
theorem dX7_refresh_6 : decode cX7_refresh 6 = .ok (.invokestatic 121, 3) := by decide +kernel
theorem dX7_refresh_9 : decode cX7_refresh 9 = .ok (.ifCond .ne 9, 3) := by decide +kernel
theorem dX7_refresh_12 : decode cX7_refresh 12 = .ok (.aload_n 0, 1) := by decide +kernel
theorem dX7_refresh_13 : decode cX7_refresh 13 = .ok (.iconst 1, 1) := by decide +kernel
theorem dX7_refresh_14 : decode cX7_refresh 14 = .ok (.invokevirtual 30, 3) := by decide +kernel
theorem dX7_refresh_17 : decode cX7_refresh 17 = .ok (.ireturn, 1) := by decide +kernel
theorem dX7_refresh_18 : decode cX7_refresh 18 = .ok (.aload_n 0, 1) := by decide +kernel
theorem dX7_refresh_19 : decode cX7_refresh 19 = .ok (.iload_n 1, 1) := by decide +kernel
theorem dX7_refresh_20 : decode cX7_refresh 20 = .ok (.iconst 3, 1) := by decide +kernel
theorem dX7_refresh_21 : decode cX7_refresh 21 = .ok (.invokevirtual 34, 3) := by decide +kernel
theorem dX7_refresh_24 : decode cX7_refresh 24 = .ok (.iconst 1, 1) := by decide +kernel
theorem dX7_refresh_25 : decode cX7_refresh 25 = .ok (.if_icmp .ne 9, 3) := by decide +kernel
theorem dX7_refresh_28 : decode cX7_refresh 28 = .ok (.aload_n 0, 1) := by decide +kernel
theorem dX7_refresh_29 : decode cX7_refresh 29 = .ok (.iconst 2, 1) := by decide +kernel
theorem dX7_refresh_30 : decode cX7_refresh 30 = .ok (.invokevirtual 30, 3) := by decide +kernel
theorem dX7_refresh_33 : decode cX7_refresh 33 = .ok (.ireturn, 1) := by decide +kernel
theorem dX7_refresh_34 : decode cX7_refresh 34 = .ok (.aload_n 0, 1) := by decide +kernel
theorem dX7_refresh_35 : decode cX7_refresh 35 = .ok (.invokevirtual 93, 3) := by decide +kernel
theorem dX7_refresh_38 : decode cX7_refresh 38 = .ok (.aload_n 0, 1) := by decide +kernel
theorem dX7_refresh_39 : decode cX7_refresh 39 = .ok (.iload_n 1, 1) := by decide +kernel
theorem dX7_refresh_40 : decode cX7_refresh 40 = .ok (.invokevirtual 124, 3) := by decide +kernel
theorem dX7_refresh_43 : decode cX7_refresh 43 = .ok (.ireturn, 1) := by decide +kernel
theorem dX7_refreshAll_0 : decode cX7_refreshAll 0 = .ok (.aload_n 0, 1) := by decide +kernel
theorem dX7_refreshAll_1 : decode cX7_refreshAll 1 = .ok (.iconst 0, 1) := by decide +kernel
theorem dX7_refreshAll_2 : decode cX7_refreshAll 2 = .ok (.putfield 19, 3) := by decide +kernel
theorem dX7_refreshAll_5 : decode cX7_refreshAll 5 = .ok (.aload_n 0, 1) := by decide +kernel
theorem dX7_refreshAll_6 : decode cX7_refreshAll 6 = .ok (.invokevirtual 93, 3) := by decide +kernel
theorem dX7_refreshAll_9 : decode cX7_refreshAll 9 = .ok (.iconst 0, 1) := by decide +kernel
theorem dX7_refreshAll_10 : decode cX7_refreshAll 10 = .ok (.istore_n 1, 1) := by decide +kernel
theorem dX7_refreshAll_11 : decode cX7_refreshAll 11 = .ok (.iconst 0, 1) := by decide +kernel
theorem dX7_refreshAll_12 : decode cX7_refreshAll 12 = .ok (.istore_n 2, 1) := by decide +kernel
theorem dX7_refreshAll_13 : decode cX7_refreshAll 13 = .ok (.iload_n 2, 1) := by decide +kernel
theorem dX7_refreshAll_14 : decode cX7_refreshAll 14 = .ok (.iconst 4, 1) := by decide +kernel
theorem dX7_refreshAll_15 : decode cX7_refreshAll 15 = .ok (.if_icmp .ge 46, 3) := by decide +kernel
theorem dX7_refreshAll_18 : decode cX7_refreshAll 18 = .ok (.aload_n 0, 1) := by decide +kernel
theorem dX7_refreshAll_19 : decode cX7_refreshAll 19 = .ok (.iload_n 2, 1) := by decide +kernel
theorem dX7_refreshAll_20 : decode cX7_refreshAll 20 = .ok (.iconst 3, 1) := by decide +kernel
theorem dX7_refreshAll_21 : decode cX7_refreshAll 21 = .ok (.invokevirtual 34, 3) := by decide +kernel
theorem dX7_refreshAll_24 : decode cX7_refreshAll 24 = .ok (.ifCond .ne 31, 3) := by decide +kernel
theorem dX7_refreshAll_27 : decode cX7_refreshAll 27 = .ok (.aload_n 0, 1) := by decide +kernel
theorem dX7_refreshAll_28 : decode cX7_refreshAll 28 = .ok (.iload_n 2, 1) := by decide +kernel
theorem dX7_refreshAll_29 : decode cX7_refreshAll 29 = .ok (.iconst 4, 1) := by decide +kernel
theorem dX7_refreshAll_30 : decode cX7_refreshAll 30 = .ok (.invokevirtual 34, 3) := by decide +kernel
theorem dX7_refreshAll_33 : decode cX7_refreshAll 33 = .ok (.iconst 1, 1) := by decide +kernel
theorem dX7_refreshAll_34 : decode cX7_refreshAll 34 = .ok (.if_icmp .ne 21, 3) := by decide +kernel
theorem dX7_refreshAll_37 : decode cX7_refreshAll 37 = .ok (.aload_n 0, 1) := by decide +kernel
theorem dX7_refreshAll_38 : decode cX7_refreshAll 38 = .ok (.iload_n 2, 1) := by decide +kernel
theorem dX7_refreshAll_39 : decode cX7_refreshAll 39 = .ok (.invokevirtual 124, 3) := by decide +kernel
theorem dX7_refreshAll_42 : decode cX7_refreshAll 42 = .ok (.istore_n 3, 1) := by decide +kernel
theorem dX7_refreshAll_43 : decode cX7_refreshAll 43 = .ok (.iload_n 1, 1) := by decide +kernel
theorem dX7_refreshAll_44 : decode cX7_refreshAll 44 = .ok (.iload_n 3, 1) := by decide +kernel
theorem dX7_refreshAll_45 : decode cX7_refreshAll 45 = .ok (.ifCond .ge 7, 3) := by decide +kernel
theorem dX7_refreshAll_48 : decode cX7_refreshAll 48 = .ok (.iconst 0, 1) := by decide +kernel
theorem dX7_refreshAll_49 : decode cX7_refreshAll 49 = .ok (.goto 4, 3) := by decide +kernel
theorem dX7_refreshAll_52 : decode cX7_refreshAll 52 = .ok (.iconst 1, 1) := by decide +kernel
theorem dX7_refreshAll_53 : decode cX7_refreshAll 53 = .ok (.iadd, 1) := by decide +kernel
theorem dX7_refreshAll_54 : decode cX7_refreshAll 54 = .ok (.istore_n 1, 1) := by decide +kernel
theorem dX7_refreshAll_55 : decode cX7_refreshAll 55 = .ok (.iinc 2 1, 3) := by decide +kernel
theorem dX7_refreshAll_58 : decode cX7_refreshAll 58 = .ok (.goto (-45), 3) := by decide +kernel
theorem dX7_refreshAll_61 : decode cX7_refreshAll 61 = .ok (.iload_n 1, 1) := by decide +kernel
theorem dX7_refreshAll_62 : decode cX7_refreshAll 62 = .ok (.ireturn, 1) := by decide +kernel
theorem dX7_sleep_0 : decode cX7_sleep 0 = .ok (.aload_n 0, 1) := by decide +kernel
theorem dX7_sleep_1 : decode cX7_sleep 1 = .ok (.iconst 0, 1) := by decide +kernel
theorem dX7_sleep_2 : decode cX7_sleep 2 = .ok (.putfield 19, 3) := by decide +kernel
theorem dX7_sleep_5 : decode cX7_sleep 5 = .ok (.iload_n 1, 1) := by decide +kernel
theorem dX7_sleep_6 : decode cX7_sleep 6 = .ok (.invokestatic 121, 3) := by decide +kernel
theorem dX7_sleep_9 : decode cX7_sleep 9 = .ok (.ifCond .ne 9, 3) := by decide +kernel
theorem dX7_sleep_12 : decode cX7_sleep 12 = .ok (.aload_n 0, 1) := by decide +kernel
theorem dX7_sleep_13 : decode cX7_sleep 13 = .ok (.iconst 1, 1) := by decide +kernel
theorem dX7_sleep_14 : decode cX7_sleep 14 = .ok (.invokevirtual 30, 3) := by decide +kernel
theorem dX7_sleep_17 : decode cX7_sleep 17 = .ok (.ireturn, 1) := by decide +kernel
theorem dX7_sleep_18 : decode cX7_sleep 18 = .ok (.aload_n 0, 1) := by decide +kernel
theorem dX7_sleep_19 : decode cX7_sleep 19 = .ok (.iload_n 1, 1) := by decide +kernel
theorem dX7_sleep_20 : decode cX7_sleep 20 = .ok (.iconst 3, 1) := by decide +kernel
theorem dX7_sleep_21 : decode cX7_sleep 21 = .ok (.invokevirtual 34, 3) := by decide +kernel
theorem dX7_sleep_24 : decode cX7_sleep 24 = .ok (.iconst 1, 1) := by decide +kernel
theorem dX7_sleep_25 : decode cX7_sleep 25 = .ok (.if_icmp .ne 9, 3) := by decide +kernel
theorem dX7_sleep_28 : decode cX7_sleep 28 = .ok (.aload_n 0, 1) := by decide +kernel
theorem dX7_sleep_29 : decode cX7_sleep 29 = .ok (.iconst 2, 1) := by decide +kernel
theorem dX7_sleep_30 : decode cX7_sleep 30 = .ok (.invokevirtual 30, 3) := by decide +kernel
theorem dX7_sleep_33 : decode cX7_sleep 33 = .ok (.ireturn, 1) := by decide +kernel
theorem dX7_sleep_34 : decode cX7_sleep 34 = .ok (.aload_n 0, 1) := by decide +kernel
theorem dX7_sleep_35 : decode cX7_sleep 35 = .ok (.invokevirtual 93, 3) := by decide +kernel
theorem dX7_sleep_38 : decode cX7_sleep 38 = .ok (.aload_n 0, 1) := by decide +kernel
theorem dX7_sleep_39 : decode cX7_sleep 39 = .ok (.iload_n 1, 1) := by decide +kernel
theorem dX7_sleep_40 : decode cX7_sleep 40 = .ok (.iconst 1, 1) := by decide +kernel
theorem dX7_sleep_41 : decode cX7_sleep 41 = .ok (.invokevirtual 127, 3) := by decide +kernel
theorem dX7_sleep_44 : decode cX7_sleep 44 = .ok (.ireturn, 1) := by decide +kernel
theorem dX7_wake_0 : decode cX7_wake 0 = .ok (.aload_n 0, 1) := by decide +kernel
theorem dX7_wake_1 : decode cX7_wake 1 = .ok (.iconst 0, 1) := by decide +kernel
theorem dX7_wake_2 : decode cX7_wake 2 = .ok (.putfield 19, 3) := by decide +kernel
theorem dX7_wake_5 : decode cX7_wake 5 = .ok (.iload_n 1, 1) := by decide +kernel
theorem dX7_wake_6 : decode cX7_wake 6 = .ok (.invokestatic 121, 3) := by decide +kernel
theorem dX7_wake_9 : decode cX7_wake 9 = .ok (.ifCond .ne 9, 3) := by decide +kernel
theorem dX7_wake_12 : decode cX7_wake 12 = .ok (.aload_n 0, 1) := by decide +kernel
theorem dX7_wake_13 : decode cX7_wake 13 = .ok (.iconst 1, 1) := by decide +kernel
theorem dX7_wake_14 : decode cX7_wake 14 = .ok (.invokevirtual 30, 3) := by decide +kernel
theorem dX7_wake_17 : decode cX7_wake 17 = .ok (.ireturn, 1) := by decide +kernel
theorem dX7_wake_18 : decode cX7_wake 18 = .ok (.aload_n 0, 1) := by decide +kernel
theorem dX7_wake_19 : decode cX7_wake 19 = .ok (.iload_n 1, 1) := by decide +kernel
theorem dX7_wake_20 : decode cX7_wake 20 = .ok (.iconst 3, 1) := by decide +kernel
theorem dX7_wake_21 : decode cX7_wake 21 = .ok (.invokevirtual 34, 3) := by decide +kernel
theorem dX7_wake_24 : decode cX7_wake 24 = .ok (.ifCond .ne 9, 3) := by decide +kernel
theorem dX7_wake_27 : decode cX7_wake 27 = .ok (.aload_n 0, 1) := by decide +kernel
theorem dX7_wake_28 : decode cX7_wake 28 = .ok (.iconst 2, 1) := by decide +kernel
theorem dX7_wake_29 : decode cX7_wake 29 = .ok (.invokevirtual 30, 3) := by decide +kernel
theorem dX7_wake_32 : decode cX7_wake 32 = .ok (.ireturn, 1) := by decide +kernel
theorem dX7_wake_33 : decode cX7_wake 33 = .ok (.aload_n 0, 1) := by decide +kernel
theorem dX7_wake_34 : decode cX7_wake 34 = .ok (.invokevirtual 93, 3) := by decide +kernel
theorem dX7_wake_37 : decode cX7_wake 37 = .ok (.aload_n 0, 1) := by decide +kernel
theorem dX7_wake_38 : decode cX7_wake 38 = .ok (.iload_n 1, 1) := by decide +kernel
theorem dX7_wake_39 : decode cX7_wake 39 = .ok (.iconst 0, 1) := by decide +kernel
theorem dX7_wake_40 : decode cX7_wake 40 = .ok (.invokevirtual 127, 3) := by decide +kernel
theorem dX7_wake_43 : decode cX7_wake 43 = .ok (.ireturn, 1) := by decide +kernel
theorem dX7_tellsStreets_0 : decode cX7_tellsStreets 0 = .ok (.aload_n 0, 1) := by decide +kernel
theorem dX7_tellsStreets_1 : decode cX7_tellsStreets 1 = .ok (.iload_n 1, 1) := by decide +kernel
theorem dX7_tellsStreets_2 : decode cX7_tellsStreets 2 = .ok (.iconst 0, 1) := by decide +kernel
theorem dX7_tellsStreets_3 : decode cX7_tellsStreets 3 = .ok (.invokevirtual 34, 3) := by decide +kernel
theorem dX7_tellsStreets_6 : decode cX7_tellsStreets 6 = .ok (.iconst 1, 1) := by decide +kernel
theorem dX7_tellsStreets_7 : decode cX7_tellsStreets 7 = .ok (.if_icmp .ne 15, 3) := by decide +kernel
theorem dX7_tellsStreets_10 : decode cX7_tellsStreets 10 = .ok (.aload_n 0, 1) := by decide +kernel
theorem dX7_tellsStreets_11 : decode cX7_tellsStreets 11 = .ok (.iload_n 1, 1) := by decide +kernel
theorem dX7_tellsStreets_12 : decode cX7_tellsStreets 12 = .ok (.iconst 1, 1) := by decide +kernel
theorem dX7_tellsStreets_13 : decode cX7_tellsStreets 13 = .ok (.invokevirtual 34, 3) := by decide +kernel
theorem dX7_tellsStreets_16 : decode cX7_tellsStreets 16 = .ok (.invokestatic 45, 3) := by decide +kernel
theorem dX7_tellsStreets_19 : decode cX7_tellsStreets 19 = .ok (.goto 4, 3) := by decide +kernel
theorem dX7_tellsStreets_22 : decode cX7_tellsStreets 22 = .ok (.iconst (-1), 1) := by decide +kernel
theorem dX7_tellsStreets_23 : decode cX7_tellsStreets 23 = .ok (.ireturn, 1) := by decide +kernel
theorem dX7_throwAway_0 : decode cX7_throwAway 0 = .ok (.aload_n 0, 1) := by decide +kernel
theorem dX7_throwAway_1 : decode cX7_throwAway 1 = .ok (.iconst 0, 1) := by decide +kernel
theorem dX7_throwAway_2 : decode cX7_throwAway 2 = .ok (.putfield 19, 3) := by decide +kernel
theorem dX7_throwAway_5 : decode cX7_throwAway 5 = .ok (.iload_n 1, 1) := by decide +kernel
theorem dX7_throwAway_6 : decode cX7_throwAway 6 = .ok (.invokestatic 121, 3) := by decide +kernel
theorem dX7_throwAway_9 : decode cX7_throwAway 9 = .ok (.ifCond .ne 9, 3) := by decide +kernel
theorem dX7_throwAway_12 : decode cX7_throwAway 12 = .ok (.aload_n 0, 1) := by decide +kernel
theorem dX7_throwAway_13 : decode cX7_throwAway 13 = .ok (.iconst 1, 1) := by decide +kernel
theorem dX7_throwAway_14 : decode cX7_throwAway 14 = .ok (.invokevirtual 30, 3) := by decide +kernel
theorem dX7_throwAway_17 : decode cX7_throwAway 17 = .ok (.ireturn, 1) := by decide +kernel
theorem dX7_throwAway_18 : decode cX7_throwAway 18 = .ok (.aload_n 0, 1) := by decide +kernel
theorem dX7_throwAway_19 : decode cX7_throwAway 19 = .ok (.invokevirtual 93, 3) := by decide +kernel
theorem dX7_throwAway_22 : decode cX7_throwAway 22 = .ok (.aload_n 0, 1) := by decide +kernel
theorem dX7_throwAway_23 : decode cX7_throwAway 23 = .ok (.iload_n 1, 1) := by decide +kernel
theorem dX7_throwAway_24 : decode cX7_throwAway 24 = .ok (.invokevirtual 130, 3) := by decide +kernel
theorem dX7_throwAway_27 : decode cX7_throwAway 27 = .ok (.istore_n 2, 1) := by decide +kernel
theorem dX7_throwAway_28 : decode cX7_throwAway 28 = .ok (.aload_n 0, 1) := by decide +kernel
theorem dX7_throwAway_29 : decode cX7_throwAway 29 = .ok (.iload_n 1, 1) := by decide +kernel
theorem dX7_throwAway_30 : decode cX7_throwAway 30 = .ok (.iconst 0, 1) := by decide +kernel
theorem dX7_throwAway_31 : decode cX7_throwAway 31 = .ok (.iconst 0, 1) := by decide +kernel
theorem dX7_throwAway_32 : decode cX7_throwAway 32 = .ok (.invokevirtual 38, 3) := by decide +kernel
theorem dX7_throwAway_35 : decode cX7_throwAway 35 = .ok (.aload_n 0, 1) := by decide +kernel
theorem dX7_throwAway_36 : decode cX7_throwAway 36 = .ok (.iload_n 1, 1) := by decide +kernel
theorem dX7_throwAway_37 : decode cX7_throwAway 37 = .ok (.iconst 1, 1) := by decide +kernel
theorem dX7_throwAway_38 : decode cX7_throwAway 38 = .ok (.iconst 0, 1) := by decide +kernel
theorem dX7_throwAway_39 : decode cX7_throwAway 39 = .ok (.invokevirtual 38, 3) := by decide +kernel
theorem dX7_throwAway_42 : decode cX7_throwAway 42 = .ok (.aload_n 0, 1) := by decide +kernel
theorem dX7_throwAway_43 : decode cX7_throwAway 43 = .ok (.iload_n 1, 1) := by decide +kernel
theorem dX7_throwAway_44 : decode cX7_throwAway 44 = .ok (.iconst 2, 1) := by decide +kernel
theorem dX7_throwAway_45 : decode cX7_throwAway 45 = .ok (.iconst 0, 1) := by decide +kernel
theorem dX7_throwAway_46 : decode cX7_throwAway 46 = .ok (.invokevirtual 38, 3) := by decide +kernel
theorem dX7_throwAway_49 : decode cX7_throwAway 49 = .ok (.iload_n 2, 1) := by decide +kernel
theorem dX7_throwAway_50 : decode cX7_throwAway 50 = .ok (.ireturn, 1) := by decide +kernel
theorem dX7_tellsEdition_0 : decode cX7_tellsEdition 0 = .ok (.aload_n 0, 1) := by decide +kernel
theorem dX7_tellsEdition_1 : decode cX7_tellsEdition 1 = .ok (.iload_n 1, 1) := by decide +kernel
theorem dX7_tellsEdition_2 : decode cX7_tellsEdition 2 = .ok (.iconst 0, 1) := by decide +kernel
theorem dX7_tellsEdition_3 : decode cX7_tellsEdition 3 = .ok (.invokevirtual 34, 3) := by decide +kernel
theorem dX7_tellsEdition_6 : decode cX7_tellsEdition 6 = .ok (.iconst 1, 1) := by decide +kernel
theorem dX7_tellsEdition_7 : decode cX7_tellsEdition 7 = .ok (.if_icmp .ne 12, 3) := by decide +kernel
theorem dX7_tellsEdition_10 : decode cX7_tellsEdition 10 = .ok (.aload_n 0, 1) := by decide +kernel
theorem dX7_tellsEdition_11 : decode cX7_tellsEdition 11 = .ok (.iload_n 1, 1) := by decide +kernel
theorem dX7_tellsEdition_12 : decode cX7_tellsEdition 12 = .ok (.iconst 2, 1) := by decide +kernel
theorem dX7_tellsEdition_13 : decode cX7_tellsEdition 13 = .ok (.invokevirtual 34, 3) := by decide +kernel
theorem dX7_tellsEdition_16 : decode cX7_tellsEdition 16 = .ok (.goto 4, 3) := by decide +kernel
theorem dX7_tellsEdition_19 : decode cX7_tellsEdition 19 = .ok (.iconst (-1), 1) := by decide +kernel
theorem dX7_tellsEdition_20 : decode cX7_tellsEdition 20 = .ok (.ireturn, 1) := by decide +kernel
theorem dX7_editionOf_0 : decode cX7_editionOf 0 = .ok (.aload_n 0, 1) := by decide +kernel
theorem dX7_editionOf_1 : decode cX7_editionOf 1 = .ok (.iconst 0, 1) := by decide +kernel
theorem dX7_editionOf_2 : decode cX7_editionOf 2 = .ok (.putfield 19, 3) := by decide +kernel
theorem dX7_editionOf_5 : decode cX7_editionOf 5 = .ok (.iload_n 1, 1) := by decide +kernel
theorem dX7_editionOf_6 : decode cX7_editionOf 6 = .ok (.invokestatic 121, 3) := by decide +kernel
theorem dX7_editionOf_9 : decode cX7_editionOf 9 = .ok (.ifCond .eq 11, 3) := by decide +kernel
theorem dX7_editionOf_12 : decode cX7_editionOf 12 = .ok (.aload_n 0, 1) := by decide +kernel
theorem dX7_editionOf_13 : decode cX7_editionOf 13 = .ok (.iload_n 1, 1) := by decide +kernel
theorem dX7_editionOf_14 : decode cX7_editionOf 14 = .ok (.invokevirtual 133, 3) := by decide +kernel
theorem dX7_editionOf_17 : decode cX7_editionOf 17 = .ok (.goto 8, 3) := by decide +kernel
theorem dX7_editionOf_20 : decode cX7_editionOf 20 = .ok (.aload_n 0, 1) := by decide +kernel
theorem dX7_editionOf_21 : decode cX7_editionOf 21 = .ok (.iconst 1, 1) := by decide +kernel
theorem dX7_editionOf_22 : decode cX7_editionOf 22 = .ok (.invokevirtual 30, 3) := by decide +kernel
theorem dX7_editionOf_25 : decode cX7_editionOf 25 = .ok (.ireturn, 1) := by decide +kernel
theorem dX7_streets_0 : decode cX7_streets 0 = .ok (.aload_n 0, 1) := by decide +kernel
theorem dX7_streets_1 : decode cX7_streets 1 = .ok (.iconst 0, 1) := by decide +kernel
theorem dX7_streets_2 : decode cX7_streets 2 = .ok (.putfield 19, 3) := by decide +kernel
theorem dX7_streets_5 : decode cX7_streets 5 = .ok (.iload_n 1, 1) := by decide +kernel
theorem dX7_streets_6 : decode cX7_streets 6 = .ok (.invokestatic 121, 3) := by decide +kernel
theorem dX7_streets_9 : decode cX7_streets 9 = .ok (.ifCond .eq 11, 3) := by decide +kernel
theorem dX7_streets_12 : decode cX7_streets 12 = .ok (.aload_n 0, 1) := by decide +kernel
theorem dX7_streets_13 : decode cX7_streets 13 = .ok (.iload_n 1, 1) := by decide +kernel
theorem dX7_streets_14 : decode cX7_streets 14 = .ok (.invokevirtual 130, 3) := by decide +kernel
theorem dX7_streets_17 : decode cX7_streets 17 = .ok (.goto 8, 3) := by decide +kernel
theorem dX7_streets_20 : decode cX7_streets 20 = .ok (.aload_n 0, 1) := by decide +kernel
theorem dX7_streets_21 : decode cX7_streets 21 = .ok (.iconst 1, 1) := by decide +kernel
theorem dX7_streets_22 : decode cX7_streets 22 = .ok (.invokevirtual 30, 3) := by decide +kernel
theorem dX7_streets_25 : decode cX7_streets 25 = .ok (.ireturn, 1) := by decide +kernel
theorem dX7_hasStreet_0 : decode cX7_hasStreet 0 = .ok (.aload_n 0, 1) := by decide +kernel
theorem dX7_hasStreet_1 : decode cX7_hasStreet 1 = .ok (.iload_n 1, 1) := by decide +kernel
theorem dX7_hasStreet_2 : decode cX7_hasStreet 2 = .ok (.iconst 1, 1) := by decide +kernel
theorem dX7_hasStreet_3 : decode cX7_hasStreet 3 = .ok (.invokevirtual 34, 3) := by decide +kernel
theorem dX7_hasStreet_6 : decode cX7_hasStreet 6 = .ok (.iload_n 2, 1) := by decide +kernel
theorem dX7_hasStreet_7 : decode cX7_hasStreet 7 = .ok (.ishr, 1) := by decide +kernel
theorem dX7_hasStreet_8 : decode cX7_hasStreet 8 = .ok (.iconst 1, 1) := by decide +kernel
theorem dX7_hasStreet_9 : decode cX7_hasStreet 9 = .ok (.iand, 1) := by decide +kernel
theorem dX7_hasStreet_10 : decode cX7_hasStreet 10 = .ok (.iconst 1, 1) := by decide +kernel
theorem dX7_hasStreet_11 : decode cX7_hasStreet 11 = .ok (.if_icmp .ne 7, 3) := by decide +kernel
theorem dX7_hasStreet_14 : decode cX7_hasStreet 14 = .ok (.iconst 1, 1) := by decide +kernel
theorem dX7_hasStreet_15 : decode cX7_hasStreet 15 = .ok (.goto 4, 3) := by decide +kernel
theorem dX7_hasStreet_18 : decode cX7_hasStreet 18 = .ok (.iconst 0, 1) := by decide +kernel
theorem dX7_hasStreet_19 : decode cX7_hasStreet 19 = .ok (.ireturn, 1) := by decide +kernel
theorem dX7_has_0 : decode cX7_has 0 = .ok (.aload_n 0, 1) := by decide +kernel
theorem dX7_has_1 : decode cX7_has 1 = .ok (.iload_n 1, 1) := by decide +kernel
theorem dX7_has_2 : decode cX7_has 2 = .ok (.invokestatic 121, 3) := by decide +kernel
theorem dX7_has_5 : decode cX7_has 5 = .ok (.ifCond .eq 14, 3) := by decide +kernel
theorem dX7_has_8 : decode cX7_has 8 = .ok (.iload_n 2, 1) := by decide +kernel
theorem dX7_has_9 : decode cX7_has 9 = .ok (.invokestatic 87, 3) := by decide +kernel
theorem dX7_has_12 : decode cX7_has 12 = .ok (.ifCond .eq 7, 3) := by decide +kernel
theorem dX7_has_15 : decode cX7_has 15 = .ok (.iconst 0, 1) := by decide +kernel
theorem dX7_has_16 : decode cX7_has 16 = .ok (.goto 4, 3) := by decide +kernel
theorem dX7_has_19 : decode cX7_has 19 = .ok (.iconst 1, 1) := by decide +kernel
theorem dX7_has_20 : decode cX7_has 20 = .ok (.putfield 19, 3) := by decide +kernel
theorem dX7_has_23 : decode cX7_has 23 = .ok (.aload_n 0, 1) := by decide +kernel
theorem dX7_has_24 : decode cX7_has 24 = .ok (.getfield 19, 3) := by decide +kernel
theorem dX7_has_27 : decode cX7_has 27 = .ok (.ifCond .ne 16, 3) := by decide +kernel
theorem dX7_has_30 : decode cX7_has 30 = .ok (.aload_n 0, 1) := by decide +kernel
theorem dX7_has_31 : decode cX7_has 31 = .ok (.iload_n 1, 1) := by decide +kernel
theorem dX7_has_32 : decode cX7_has 32 = .ok (.iload_n 2, 1) := by decide +kernel
theorem dX7_has_33 : decode cX7_has 33 = .ok (.invokevirtual 136, 3) := by decide +kernel
theorem dX7_has_36 : decode cX7_has 36 = .ok (.ifCond .eq 7, 3) := by decide +kernel
theorem dX7_has_39 : decode cX7_has 39 = .ok (.iconst 1, 1) := by decide +kernel
theorem dX7_has_40 : decode cX7_has 40 = .ok (.goto 4, 3) := by decide +kernel
theorem dX7_has_43 : decode cX7_has 43 = .ok (.iconst 0, 1) := by decide +kernel
theorem dX7_has_44 : decode cX7_has 44 = .ok (.ireturn, 1) := by decide +kernel
theorem dX7_isRight_0 : decode cX7_isRight 0 = .ok (.aload_n 0, 1) := by decide +kernel
theorem dX7_isRight_1 : decode cX7_isRight 1 = .ok (.iload_n 1, 1) := by decide +kernel
theorem dX7_isRight_2 : decode cX7_isRight 2 = .ok (.invokestatic 121, 3) := by decide +kernel
theorem dX7_isRight_5 : decode cX7_isRight 5 = .ok (.ifCond .eq 7, 3) := by decide +kernel
theorem dX7_isRight_8 : decode cX7_isRight 8 = .ok (.iconst 0, 1) := by decide +kernel
theorem dX7_isRight_9 : decode cX7_isRight 9 = .ok (.goto 4, 3) := by decide +kernel
theorem dX7_isRight_12 : decode cX7_isRight 12 = .ok (.iconst 1, 1) := by decide +kernel
theorem dX7_isRight_13 : decode cX7_isRight 13 = .ok (.putfield 19, 3) := by decide +kernel
theorem dX7_isRight_16 : decode cX7_isRight 16 = .ok (.aload_n 0, 1) := by decide +kernel
theorem dX7_isRight_17 : decode cX7_isRight 17 = .ok (.getfield 19, 3) := by decide +kernel
theorem dX7_isRight_20 : decode cX7_isRight 20 = .ok (.ifCond .ne 32, 3) := by decide +kernel
theorem dX7_isRight_23 : decode cX7_isRight 23 = .ok (.aload_n 0, 1) := by decide +kernel
theorem dX7_isRight_24 : decode cX7_isRight 24 = .ok (.iload_n 1, 1) := by decide +kernel
theorem dX7_isRight_25 : decode cX7_isRight 25 = .ok (.iconst 0, 1) := by decide +kernel
theorem dX7_isRight_26 : decode cX7_isRight 26 = .ok (.invokevirtual 34, 3) := by decide +kernel
theorem dX7_isRight_29 : decode cX7_isRight 29 = .ok (.iconst 1, 1) := by decide +kernel
theorem dX7_isRight_30 : decode cX7_isRight 30 = .ok (.if_icmp .ne 22, 3) := by decide +kernel
theorem dX7_isRight_33 : decode cX7_isRight 33 = .ok (.aload_n 0, 1) := by decide +kernel
theorem dX7_isRight_34 : decode cX7_isRight 34 = .ok (.iload_n 1, 1) := by decide +kernel
theorem dX7_isRight_35 : decode cX7_isRight 35 = .ok (.iconst 1, 1) := by decide +kernel
theorem dX7_isRight_36 : decode cX7_isRight 36 = .ok (.invokevirtual 34, 3) := by decide +kernel
theorem dX7_isRight_39 : decode cX7_isRight 39 = .ok (.aload_n 0, 1) := by decide +kernel
theorem dX7_isRight_40 : decode cX7_isRight 40 = .ok (.getfield 7, 3) := by decide +kernel
theorem dX7_isRight_43 : decode cX7_isRight 43 = .ok (.iconst 1, 1) := by decide +kernel
theorem dX7_isRight_44 : decode cX7_isRight 44 = .ok (.iaload, 1) := by decide +kernel
theorem dX7_isRight_45 : decode cX7_isRight 45 = .ok (.if_icmp .ne 7, 3) := by decide +kernel
theorem dX7_isRight_48 : decode cX7_isRight 48 = .ok (.iconst 1, 1) := by decide +kernel
theorem dX7_isRight_49 : decode cX7_isRight 49 = .ok (.goto 4, 3) := by decide +kernel
theorem dX7_isRight_52 : decode cX7_isRight 52 = .ok (.iconst 0, 1) := by decide +kernel
theorem dX7_isRight_53 : decode cX7_isRight 53 = .ok (.ireturn, 1) := by decide +kernel
theorem dX7_tellsAttention_0 : decode cX7_tellsAttention 0 = .ok (.iconst 2, 1) := by decide +kernel
theorem dX7_tellsAttention_1 : decode cX7_tellsAttention 1 = .ok (.aload_n 0, 1) := by decide +kernel
theorem dX7_tellsAttention_2 : decode cX7_tellsAttention 2 = .ok (.iload_n 1, 1) := by decide +kernel
theorem dX7_tellsAttention_3 : decode cX7_tellsAttention 3 = .ok (.iconst 3, 1) := by decide +kernel
theorem dX7_tellsAttention_4 : decode cX7_tellsAttention 4 = .ok (.invokevirtual 34, 3) := by decide +kernel
theorem dX7_tellsAttention_7 : decode cX7_tellsAttention 7 = .ok (.imul, 1) := by decide +kernel
theorem dX7_tellsAttention_8 : decode cX7_tellsAttention 8 = .ok (.aload_n 0, 1) := by decide +kernel
theorem dX7_tellsAttention_9 : decode cX7_tellsAttention 9 = .ok (.iload_n 1, 1) := by decide +kernel
theorem dX7_tellsAttention_10 : decode cX7_tellsAttention 10 = .ok (.iconst 4, 1) := by decide +kernel
theorem dX7_tellsAttention_11 : decode cX7_tellsAttention 11 = .ok (.invokevirtual 34, 3) := by decide +kernel
theorem dX7_tellsAttention_14 : decode cX7_tellsAttention 14 = .ok (.iadd, 1) := by decide +kernel
theorem dX7_tellsAttention_15 : decode cX7_tellsAttention 15 = .ok (.ireturn, 1) := by decide +kernel
theorem dX7_attention_0 : decode cX7_attention 0 = .ok (.aload_n 0, 1) := by decide +kernel
theorem dX7_attention_1 : decode cX7_attention 1 = .ok (.iconst 0, 1) := by decide +kernel
theorem dX7_attention_2 : decode cX7_attention 2 = .ok (.putfield 19, 3) := by decide +kernel
theorem dX7_attention_5 : decode cX7_attention 5 = .ok (.iload_n 1, 1) := by decide +kernel
theorem dX7_attention_6 : decode cX7_attention 6 = .ok (.invokestatic 121, 3) := by decide +kernel
theorem dX7_attention_9 : decode cX7_attention 9 = .ok (.ifCond .eq 11, 3) := by decide +kernel
theorem dX7_attention_12 : decode cX7_attention 12 = .ok (.aload_n 0, 1) := by decide +kernel
theorem dX7_attention_13 : decode cX7_attention 13 = .ok (.iload_n 1, 1) := by decide +kernel
theorem dX7_attention_14 : decode cX7_attention 14 = .ok (.invokevirtual 140, 3) := by decide +kernel
theorem dX7_attention_17 : decode cX7_attention 17 = .ok (.goto 8, 3) := by decide +kernel
theorem dX7_attention_20 : decode cX7_attention 20 = .ok (.aload_n 0, 1) := by decide +kernel
theorem dX7_attention_21 : decode cX7_attention 21 = .ok (.iconst 1, 1) := by decide +kernel
theorem dX7_attention_22 : decode cX7_attention 22 = .ok (.invokevirtual 30, 3) := by decide +kernel
theorem dX7_attention_25 : decode cX7_attention 25 = .ok (.ireturn, 1) := by decide +kernel
theorem dX7_costs_0 : decode cX7_costs 0 = .ok (.aload_n 0, 1) := by decide +kernel
theorem dX7_costs_1 : decode cX7_costs 1 = .ok (.iconst 0, 1) := by decide +kernel
theorem dX7_costs_2 : decode cX7_costs 2 = .ok (.putfield 19, 3) := by decide +kernel
theorem dX7_costs_5 : decode cX7_costs 5 = .ok (.iload_n 1, 1) := by decide +kernel
theorem dX7_costs_6 : decode cX7_costs 6 = .ok (.invokestatic 121, 3) := by decide +kernel
theorem dX7_costs_9 : decode cX7_costs 9 = .ok (.ifCond .eq 12, 3) := by decide +kernel
theorem dX7_costs_12 : decode cX7_costs 12 = .ok (.aload_n 0, 1) := by decide +kernel
theorem dX7_costs_13 : decode cX7_costs 13 = .ok (.iload_n 1, 1) := by decide +kernel
theorem dX7_costs_14 : decode cX7_costs 14 = .ok (.iconst 5, 1) := by decide +kernel
theorem dX7_costs_15 : decode cX7_costs 15 = .ok (.invokevirtual 34, 3) := by decide +kernel
theorem dX7_costs_18 : decode cX7_costs 18 = .ok (.goto 8, 3) := by decide +kernel
theorem dX7_costs_21 : decode cX7_costs 21 = .ok (.aload_n 0, 1) := by decide +kernel
theorem dX7_costs_22 : decode cX7_costs 22 = .ok (.iconst 1, 1) := by decide +kernel
theorem dX7_costs_23 : decode cX7_costs 23 = .ok (.invokevirtual 30, 3) := by decide +kernel
theorem dX7_costs_26 : decode cX7_costs 26 = .ok (.ireturn, 1) := by decide +kernel
theorem dX7_answer_0 : decode cX7_answer 0 = .ok (.aload_n 0, 1) := by decide +kernel
theorem dX7_answer_1 : decode cX7_answer 1 = .ok (.iconst 0, 1) := by decide +kernel
theorem dX7_answer_2 : decode cX7_answer 2 = .ok (.putfield 19, 3) := by decide +kernel
theorem dX7_answer_5 : decode cX7_answer 5 = .ok (.iload_n 1, 1) := by decide +kernel
theorem dX7_answer_6 : decode cX7_answer 6 = .ok (.invokestatic 121, 3) := by decide +kernel
theorem dX7_answer_9 : decode cX7_answer 9 = .ok (.ifCond .eq 11, 3) := by decide +kernel
theorem dX7_answer_12 : decode cX7_answer 12 = .ok (.aload_n 0, 1) := by decide +kernel
theorem dX7_answer_13 : decode cX7_answer 13 = .ok (.iload_n 1, 1) := by decide +kernel
theorem dX7_answer_14 : decode cX7_answer 14 = .ok (.invokevirtual 64, 3) := by decide +kernel
theorem dX7_answer_17 : decode cX7_answer 17 = .ok (.goto 8, 3) := by decide +kernel
theorem dX7_answer_20 : decode cX7_answer 20 = .ok (.aload_n 0, 1) := by decide +kernel
theorem dX7_answer_21 : decode cX7_answer 21 = .ok (.iconst 1, 1) := by decide +kernel
theorem dX7_answer_22 : decode cX7_answer 22 = .ok (.invokevirtual 30, 3) := by decide +kernel
theorem dX7_answer_25 : decode cX7_answer 25 = .ok (.ireturn, 1) := by decide +kernel
theorem dX7_costToCome_0 : decode cX7_costToCome 0 = .ok (.aload_n 0, 1) := by decide +kernel
theorem dX7_costToCome_1 : decode cX7_costToCome 1 = .ok (.iconst 0, 1) := by decide +kernel
theorem dX7_costToCome_2 : decode cX7_costToCome 2 = .ok (.putfield 19, 3) := by decide +kernel
theorem dX7_costToCome_5 : decode cX7_costToCome 5 = .ok (.iload_n 1, 1) := by decide +kernel
theorem dX7_costToCome_6 : decode cX7_costToCome 6 = .ok (.invokestatic 121, 3) := by decide +kernel
theorem dX7_costToCome_9 : decode cX7_costToCome 9 = .ok (.ifCond .eq 11, 3) := by decide +kernel
theorem dX7_costToCome_12 : decode cX7_costToCome 12 = .ok (.aload_n 0, 1) := by decide +kernel
theorem dX7_costToCome_13 : decode cX7_costToCome 13 = .ok (.iload_n 1, 1) := by decide +kernel
theorem dX7_costToCome_14 : decode cX7_costToCome 14 = .ok (.invokevirtual 67, 3) := by decide +kernel
theorem dX7_costToCome_17 : decode cX7_costToCome 17 = .ok (.goto 8, 3) := by decide +kernel
theorem dX7_costToCome_20 : decode cX7_costToCome 20 = .ok (.aload_n 0, 1) := by decide +kernel
theorem dX7_costToCome_21 : decode cX7_costToCome 21 = .ok (.iconst 1, 1) := by decide +kernel
theorem dX7_costToCome_22 : decode cX7_costToCome 22 = .ok (.invokevirtual 30, 3) := by decide +kernel
theorem dX7_costToCome_25 : decode cX7_costToCome 25 = .ok (.ireturn, 1) := by decide +kernel
theorem dX7_tellsWrong_0 : decode cX7_tellsWrong 0 = .ok (.aload_n 0, 1) := by decide +kernel
theorem dX7_tellsWrong_1 : decode cX7_tellsWrong 1 = .ok (.iload_n 1, 1) := by decide +kernel
theorem dX7_tellsWrong_2 : decode cX7_tellsWrong 2 = .ok (.iconst 0, 1) := by decide +kernel
theorem dX7_tellsWrong_3 : decode cX7_tellsWrong 3 = .ok (.invokevirtual 34, 3) := by decide +kernel
theorem dX7_tellsWrong_6 : decode cX7_tellsWrong 6 = .ok (.iconst 1, 1) := by decide +kernel
theorem dX7_tellsWrong_7 : decode cX7_tellsWrong 7 = .ok (.if_icmp .ne 22, 3) := by decide +kernel
theorem dX7_tellsWrong_10 : decode cX7_tellsWrong 10 = .ok (.aload_n 0, 1) := by decide +kernel
theorem dX7_tellsWrong_11 : decode cX7_tellsWrong 11 = .ok (.iload_n 1, 1) := by decide +kernel
theorem dX7_tellsWrong_12 : decode cX7_tellsWrong 12 = .ok (.iconst 1, 1) := by decide +kernel
theorem dX7_tellsWrong_13 : decode cX7_tellsWrong 13 = .ok (.invokevirtual 34, 3) := by decide +kernel
theorem dX7_tellsWrong_16 : decode cX7_tellsWrong 16 = .ok (.aload_n 0, 1) := by decide +kernel
theorem dX7_tellsWrong_17 : decode cX7_tellsWrong 17 = .ok (.getfield 7, 3) := by decide +kernel
theorem dX7_tellsWrong_20 : decode cX7_tellsWrong 20 = .ok (.iconst 1, 1) := by decide +kernel
theorem dX7_tellsWrong_21 : decode cX7_tellsWrong 21 = .ok (.iaload, 1) := by decide +kernel
theorem dX7_tellsWrong_22 : decode cX7_tellsWrong 22 = .ok (.ixor, 1) := by decide +kernel
theorem dX7_tellsWrong_23 : decode cX7_tellsWrong 23 = .ok (.invokestatic 45, 3) := by decide +kernel
theorem dX7_tellsWrong_26 : decode cX7_tellsWrong 26 = .ok (.goto 4, 3) := by decide +kernel
theorem dX7_tellsWrong_29 : decode cX7_tellsWrong 29 = .ok (.iconst (-1), 1) := by decide +kernel
theorem dX7_tellsWrong_30 : decode cX7_tellsWrong 30 = .ok (.ireturn, 1) := by decide +kernel
theorem dX7_wrong_0 : decode cX7_wrong 0 = .ok (.aload_n 0, 1) := by decide +kernel
theorem dX7_wrong_1 : decode cX7_wrong 1 = .ok (.iconst 0, 1) := by decide +kernel
theorem dX7_wrong_2 : decode cX7_wrong 2 = .ok (.putfield 19, 3) := by decide +kernel
theorem dX7_wrong_5 : decode cX7_wrong 5 = .ok (.iload_n 1, 1) := by decide +kernel
theorem dX7_wrong_6 : decode cX7_wrong 6 = .ok (.invokestatic 121, 3) := by decide +kernel
theorem dX7_wrong_9 : decode cX7_wrong 9 = .ok (.ifCond .eq 11, 3) := by decide +kernel
theorem dX7_wrong_12 : decode cX7_wrong 12 = .ok (.aload_n 0, 1) := by decide +kernel
theorem dX7_wrong_13 : decode cX7_wrong 13 = .ok (.iload_n 1, 1) := by decide +kernel
theorem dX7_wrong_14 : decode cX7_wrong 14 = .ok (.invokevirtual 143, 3) := by decide +kernel
theorem dX7_wrong_17 : decode cX7_wrong 17 = .ok (.goto 8, 3) := by decide +kernel
theorem dX7_wrong_20 : decode cX7_wrong 20 = .ok (.aload_n 0, 1) := by decide +kernel
theorem dX7_wrong_21 : decode cX7_wrong 21 = .ok (.iconst 1, 1) := by decide +kernel
theorem dX7_wrong_22 : decode cX7_wrong 22 = .ok (.invokevirtual 30, 3) := by decide +kernel
theorem dX7_wrong_25 : decode cX7_wrong 25 = .ok (.ireturn, 1) := by decide +kernel
theorem dX7_share_0 : decode cX7_share 0 = .ok (.aload_n 0, 1) := by decide +kernel
theorem dX7_share_1 : decode cX7_share 1 = .ok (.iconst 0, 1) := by decide +kernel
theorem dX7_share_2 : decode cX7_share 2 = .ok (.iconst 5, 1) := by decide +kernel
theorem dX7_share_3 : decode cX7_share 3 = .ok (.invokevirtual 34, 3) := by decide +kernel
theorem dX7_share_6 : decode cX7_share 6 = .ok (.aload_n 0, 1) := by decide +kernel
theorem dX7_share_7 : decode cX7_share 7 = .ok (.iconst 1, 1) := by decide +kernel
theorem dX7_share_8 : decode cX7_share 8 = .ok (.iconst 5, 1) := by decide +kernel
theorem dX7_share_9 : decode cX7_share 9 = .ok (.invokevirtual 34, 3) := by decide +kernel
theorem dX7_share_12 : decode cX7_share 12 = .ok (.iadd, 1) := by decide +kernel
theorem dX7_share_13 : decode cX7_share 13 = .ok (.aload_n 0, 1) := by decide +kernel
theorem dX7_share_14 : decode cX7_share 14 = .ok (.iconst 2, 1) := by decide +kernel
theorem dX7_share_15 : decode cX7_share 15 = .ok (.iconst 5, 1) := by decide +kernel
theorem dX7_share_16 : decode cX7_share 16 = .ok (.invokevirtual 34, 3) := by decide +kernel
theorem dX7_share_19 : decode cX7_share 19 = .ok (.iadd, 1) := by decide +kernel
theorem dX7_share_20 : decode cX7_share 20 = .ok (.aload_n 0, 1) := by decide +kernel
theorem dX7_share_21 : decode cX7_share 21 = .ok (.iconst 3, 1) := by decide +kernel
theorem dX7_share_22 : decode cX7_share 22 = .ok (.iconst 5, 1) := by decide +kernel
theorem dX7_share_23 : decode cX7_share 23 = .ok (.invokevirtual 34, 3) := by decide +kernel
theorem dX7_share_26 : decode cX7_share 26 = .ok (.iadd, 1) := by decide +kernel
theorem dX7_share_27 : decode cX7_share 27 = .ok (.istore_n 1, 1) := by decide +kernel
theorem dX7_share_28 : decode cX7_share 28 = .ok (.iload_n 1, 1) := by decide +kernel
theorem dX7_share_29 : decode cX7_share 29 = .ok (.ifCond .ne 7, 3) := by decide +kernel
theorem dX7_share_32 : decode cX7_share 32 = .ok (.dconst 0, 1) := by decide +kernel
theorem dX7_share_33 : decode cX7_share 33 = .ok (.goto 15, 3) := by decide +kernel
theorem dX7_share_36 : decode cX7_share 36 = .ok (.dconst 1, 1) := by decide +kernel
theorem dX7_share_37 : decode cX7_share 37 = .ok (.iload_n 1, 1) := by decide +kernel
theorem dX7_share_38 : decode cX7_share 38 = .ok (.i2d, 1) := by decide +kernel
theorem dX7_share_39 : decode cX7_share 39 = .ok (.aload_n 0, 1) := by decide +kernel
theorem dX7_share_40 : decode cX7_share 40 = .ok (.getfield 7, 3) := by decide +kernel
theorem dX7_share_43 : decode cX7_share 43 = .ok (.iconst 5, 1) := by decide +kernel
theorem dX7_share_44 : decode cX7_share 44 = .ok (.iaload, 1) := by decide +kernel
theorem dX7_share_45 : decode cX7_share 45 = .ok (.i2d, 1) := by decide +kernel
theorem dX7_share_46 : decode cX7_share 46 = .ok (.ddiv, 1) := by decide +kernel
theorem dX7_share_47 : decode cX7_share 47 = .ok (.dsub, 1) := by decide +kernel
theorem dX7_share_48 : decode cX7_share 48 = .ok (.dreturn, 1) := by decide +kernel
theorem dX7_savedShare_0 : decode cX7_savedShare 0 = .ok (.aload_n 0, 1) := by decide +kernel
theorem dX7_savedShare_1 : decode cX7_savedShare 1 = .ok (.iconst 0, 1) := by decide +kernel
theorem dX7_savedShare_2 : decode cX7_savedShare 2 = .ok (.putfield 19, 3) := by decide +kernel
theorem dX7_savedShare_5 : decode cX7_savedShare 5 = .ok (.aload_n 0, 1) := by decide +kernel
theorem dX7_savedShare_6 : decode cX7_savedShare 6 = .ok (.invokevirtual 146, 3) := by decide +kernel
theorem dX7_savedShare_9 : decode cX7_savedShare 9 = .ok (.dreturn, 1) := by decide +kernel
theorem dX7_append_0 : decode cX7_append 0 = .ok (.aload_n 0, 1) := by decide +kernel
theorem dX7_append_1 : decode cX7_append 1 = .ok (.iconst 0, 1) := by decide +kernel
theorem dX7_append_2 : decode cX7_append 2 = .ok (.putfield 19, 3) := by decide +kernel
theorem dX7_append_5 : decode cX7_append 5 = .ok (.iload_n 1, 1) := by decide +kernel
theorem dX7_append_6 : decode cX7_append 6 = .ok (.bipush 33, 2) := by decide +kernel
theorem dX7_append_8 : decode cX7_append 8 = .ok (.bipush 126, 2) := by decide +kernel
theorem dX7_append_10 : decode cX7_append 10 = .ok (.invokestatic 23, 3) := by decide +kernel
theorem dX7_append_13 : decode cX7_append 13 = .ok (.ifCond .ne 9, 3) := by decide +kernel
theorem dX7_append_16 : decode cX7_append 16 = .ok (.aload_n 0, 1) := by decide +kernel
theorem dX7_append_17 : decode cX7_append 17 = .ok (.iconst 1, 1) := by decide +kernel
theorem dX7_append_18 : decode cX7_append 18 = .ok (.invokevirtual 30, 3) := by decide +kernel
theorem dX7_append_21 : decode cX7_append 21 = .ok (.ireturn, 1) := by decide +kernel
theorem dX7_append_22 : decode cX7_append 22 = .ok (.aload_n 0, 1) := by decide +kernel
theorem dX7_append_23 : decode cX7_append 23 = .ok (.getfield 150, 3) := by decide +kernel
theorem dX7_append_26 : decode cX7_append 26 = .ok (.bipush 60, 2) := by decide +kernel
theorem dX7_append_28 : decode cX7_append 28 = .ok (.if_icmp .ne 9, 3) := by decide +kernel
theorem dX7_append_31 : decode cX7_append 31 = .ok (.aload_n 0, 1) := by decide +kernel
theorem dX7_append_32 : decode cX7_append 32 = .ok (.iconst 2, 1) := by decide +kernel
theorem dX7_append_33 : decode cX7_append 33 = .ok (.invokevirtual 30, 3) := by decide +kernel
theorem dX7_append_36 : decode cX7_append 36 = .ok (.ireturn, 1) := by decide +kernel
theorem dX7_append_37 : decode cX7_append 37 = .ok (.aload_n 0, 1) := by decide +kernel
theorem dX7_append_38 : decode cX7_append 38 = .ok (.getfield 16, 3) := by decide +kernel
theorem dX7_append_41 : decode cX7_append 41 = .ok (.aload_n 0, 1) := by decide +kernel
theorem dX7_append_42 : decode cX7_append 42 = .ok (.getfield 150, 3) := by decide +kernel
theorem dX7_append_45 : decode cX7_append 45 = .ok (.iload_n 1, 1) := by decide +kernel
theorem dX7_append_46 : decode cX7_append 46 = .ok (.iastore, 1) := by decide +kernel
theorem dX7_append_47 : decode cX7_append 47 = .ok (.aload_n 0, 1) := by decide +kernel
theorem dX7_append_48 : decode cX7_append 48 = .ok (.dup, 1) := by decide +kernel
theorem dX7_append_49 : decode cX7_append 49 = .ok (.getfield 150, 3) := by decide +kernel
theorem dX7_append_52 : decode cX7_append 52 = .ok (.iconst 1, 1) := by decide +kernel
theorem dX7_append_53 : decode cX7_append 53 = .ok (.iadd, 1) := by decide +kernel
theorem dX7_append_54 : decode cX7_append 54 = .ok (.putfield 150, 3) := by decide +kernel
theorem dX7_append_57 : decode cX7_append 57 = .ok (.aload_n 0, 1) := by decide +kernel
theorem dX7_append_58 : decode cX7_append 58 = .ok (.getfield 150, 3) := by decide +kernel
theorem dX7_append_61 : decode cX7_append 61 = .ok (.ireturn, 1) := by decide +kernel
theorem dX7_clearText_0 : decode cX7_clearText 0 = .ok (.aload_n 0, 1) := by decide +kernel
theorem dX7_clearText_1 : decode cX7_clearText 1 = .ok (.iconst 0, 1) := by decide +kernel
theorem dX7_clearText_2 : decode cX7_clearText 2 = .ok (.putfield 19, 3) := by decide +kernel
theorem dX7_clearText_5 : decode cX7_clearText 5 = .ok (.aload_n 0, 1) := by decide +kernel
theorem dX7_clearText_6 : decode cX7_clearText 6 = .ok (.getfield 150, 3) := by decide +kernel
theorem dX7_clearText_9 : decode cX7_clearText 9 = .ok (.istore_n 1, 1) := by decide +kernel
theorem dX7_clearText_10 : decode cX7_clearText 10 = .ok (.aload_n 0, 1) := by decide +kernel
theorem dX7_clearText_11 : decode cX7_clearText 11 = .ok (.iconst 0, 1) := by decide +kernel
theorem dX7_clearText_12 : decode cX7_clearText 12 = .ok (.putfield 150, 3) := by decide +kernel
theorem dX7_clearText_15 : decode cX7_clearText 15 = .ok (.iload_n 1, 1) := by decide +kernel
theorem dX7_clearText_16 : decode cX7_clearText 16 = .ok (.ireturn, 1) := by decide +kernel
theorem dX7_next_0 : decode cX7_next 0 = .ok (.aload_n 0, 1) := by decide +kernel
theorem dX7_next_1 : decode cX7_next 1 = .ok (.getfield 153, 3) := by decide +kernel
theorem dX7_next_4 : decode cX7_next 4 = .ok (.aload_n 0, 1) := by decide +kernel
theorem dX7_next_5 : decode cX7_next 5 = .ok (.getfield 150, 3) := by decide +kernel
theorem dX7_next_8 : decode cX7_next 8 = .ok (.if_icmp .ge 15, 3) := by decide +kernel
theorem dX7_next_11 : decode cX7_next 11 = .ok (.aload_n 0, 1) := by decide +kernel
theorem dX7_next_12 : decode cX7_next 12 = .ok (.getfield 16, 3) := by decide +kernel
theorem dX7_next_15 : decode cX7_next 15 = .ok (.aload_n 0, 1) := by decide +kernel
theorem dX7_next_16 : decode cX7_next 16 = .ok (.getfield 153, 3) := by decide +kernel
theorem dX7_next_19 : decode cX7_next 19 = .ok (.iaload, 1) := by decide +kernel
theorem dX7_next_20 : decode cX7_next 20 = .ok (.goto 4, 3) := by decide +kernel
theorem dX7_next_23 : decode cX7_next 23 = .ok (.iconst 0, 1) := by decide +kernel
theorem dX7_next_24 : decode cX7_next 24 = .ok (.ireturn, 1) := by decide +kernel
theorem dX7_readsNumber_0 : decode cX7_readsNumber 0 = .ok (.aload_n 0, 1) := by decide +kernel
theorem dX7_readsNumber_1 : decode cX7_readsNumber 1 = .ok (.aload_n 0, 1) := by decide +kernel
theorem dX7_readsNumber_2 : decode cX7_readsNumber 2 = .ok (.invokevirtual 156, 3) := by decide +kernel
theorem dX7_readsNumber_5 : decode cX7_readsNumber 5 = .ok (.bipush 48, 2) := by decide +kernel
theorem dX7_readsNumber_7 : decode cX7_readsNumber 7 = .ok (.isub, 1) := by decide +kernel
theorem dX7_readsNumber_8 : decode cX7_readsNumber 8 = .ok (.putfield 159, 3) := by decide +kernel
theorem dX7_readsNumber_11 : decode cX7_readsNumber 11 = .ok (.aload_n 0, 1) := by decide +kernel
theorem dX7_readsNumber_12 : decode cX7_readsNumber 12 = .ok (.getfield 159, 3) := by decide +kernel
theorem dX7_readsNumber_15 : decode cX7_readsNumber 15 = .ok (.iconst 0, 1) := by decide +kernel
theorem dX7_readsNumber_16 : decode cX7_readsNumber 16 = .ok (.bipush 9, 2) := by decide +kernel
theorem dX7_readsNumber_18 : decode cX7_readsNumber 18 = .ok (.invokestatic 23, 3) := by decide +kernel
theorem dX7_readsNumber_21 : decode cX7_readsNumber 21 = .ok (.ifCond .eq 11, 3) := by decide +kernel
theorem dX7_readsNumber_24 : decode cX7_readsNumber 24 = .ok (.aload_n 0, 1) := by decide +kernel
theorem dX7_readsNumber_25 : decode cX7_readsNumber 25 = .ok (.getfield 159, 3) := by decide +kernel
theorem dX7_readsNumber_28 : decode cX7_readsNumber 28 = .ok (.iload_n 1, 1) := by decide +kernel
theorem dX7_readsNumber_29 : decode cX7_readsNumber 29 = .ok (.if_icmp .le 5, 3) := by decide +kernel
theorem dX7_readsNumber_32 : decode cX7_readsNumber 32 = .ok (.iconst 0, 1) := by decide +kernel
theorem dX7_readsNumber_33 : decode cX7_readsNumber 33 = .ok (.ireturn, 1) := by decide +kernel
theorem dX7_readsNumber_34 : decode cX7_readsNumber 34 = .ok (.aload_n 0, 1) := by decide +kernel
theorem dX7_readsNumber_35 : decode cX7_readsNumber 35 = .ok (.dup, 1) := by decide +kernel
theorem dX7_readsNumber_36 : decode cX7_readsNumber 36 = .ok (.getfield 153, 3) := by decide +kernel
theorem dX7_readsNumber_39 : decode cX7_readsNumber 39 = .ok (.iconst 1, 1) := by decide +kernel
theorem dX7_readsNumber_40 : decode cX7_readsNumber 40 = .ok (.iadd, 1) := by decide +kernel
theorem dX7_readsNumber_41 : decode cX7_readsNumber 41 = .ok (.putfield 153, 3) := by decide +kernel
theorem dX7_readsNumber_44 : decode cX7_readsNumber 44 = .ok (.aload_n 0, 1) := by decide +kernel
theorem dX7_readsNumber_45 : decode cX7_readsNumber 45 = .ok (.invokevirtual 156, 3) := by decide +kernel
theorem dX7_readsNumber_48 : decode cX7_readsNumber 48 = .ok (.bipush 48, 2) := by decide +kernel
theorem dX7_readsNumber_50 : decode cX7_readsNumber 50 = .ok (.isub, 1) := by decide +kernel
theorem dX7_readsNumber_51 : decode cX7_readsNumber 51 = .ok (.istore_n 2, 1) := by decide +kernel
theorem dX7_readsNumber_52 : decode cX7_readsNumber 52 = .ok (.aload_n 0, 1) := by decide +kernel
theorem dX7_readsNumber_53 : decode cX7_readsNumber 53 = .ok (.getfield 159, 3) := by decide +kernel
theorem dX7_readsNumber_56 : decode cX7_readsNumber 56 = .ok (.ifCond .le 49, 3) := by decide +kernel
theorem dX7_readsNumber_59 : decode cX7_readsNumber 59 = .ok (.iload_n 2, 1) := by decide +kernel
theorem dX7_readsNumber_60 : decode cX7_readsNumber 60 = .ok (.iconst 0, 1) := by decide +kernel
theorem dX7_readsNumber_61 : decode cX7_readsNumber 61 = .ok (.bipush 9, 2) := by decide +kernel
theorem dX7_readsNumber_63 : decode cX7_readsNumber 63 = .ok (.invokestatic 23, 3) := by decide +kernel
theorem dX7_readsNumber_66 : decode cX7_readsNumber 66 = .ok (.ifCond .eq 39, 3) := by decide +kernel
theorem dX7_readsNumber_69 : decode cX7_readsNumber 69 = .ok (.bipush 10, 2) := by decide +kernel
theorem dX7_readsNumber_71 : decode cX7_readsNumber 71 = .ok (.aload_n 0, 1) := by decide +kernel
theorem dX7_readsNumber_72 : decode cX7_readsNumber 72 = .ok (.getfield 159, 3) := by decide +kernel
theorem dX7_readsNumber_75 : decode cX7_readsNumber 75 = .ok (.imul, 1) := by decide +kernel
theorem dX7_readsNumber_76 : decode cX7_readsNumber 76 = .ok (.iload_n 2, 1) := by decide +kernel
theorem dX7_readsNumber_77 : decode cX7_readsNumber 77 = .ok (.iadd, 1) := by decide +kernel
theorem dX7_readsNumber_78 : decode cX7_readsNumber 78 = .ok (.iload_n 1, 1) := by decide +kernel
theorem dX7_readsNumber_79 : decode cX7_readsNumber 79 = .ok (.if_icmp .gt 26, 3) := by decide +kernel
theorem dX7_readsNumber_82 : decode cX7_readsNumber 82 = .ok (.aload_n 0, 1) := by decide +kernel
theorem dX7_readsNumber_83 : decode cX7_readsNumber 83 = .ok (.bipush 10, 2) := by decide +kernel
theorem dX7_readsNumber_85 : decode cX7_readsNumber 85 = .ok (.aload_n 0, 1) := by decide +kernel
theorem dX7_readsNumber_86 : decode cX7_readsNumber 86 = .ok (.getfield 159, 3) := by decide +kernel
theorem dX7_readsNumber_89 : decode cX7_readsNumber 89 = .ok (.imul, 1) := by decide +kernel
theorem dX7_readsNumber_90 : decode cX7_readsNumber 90 = .ok (.iload_n 2, 1) := by decide +kernel
theorem dX7_readsNumber_91 : decode cX7_readsNumber 91 = .ok (.iadd, 1) := by decide +kernel
theorem dX7_readsNumber_92 : decode cX7_readsNumber 92 = .ok (.putfield 159, 3) := by decide +kernel
theorem dX7_readsNumber_95 : decode cX7_readsNumber 95 = .ok (.aload_n 0, 1) := by decide +kernel
theorem dX7_readsNumber_96 : decode cX7_readsNumber 96 = .ok (.dup, 1) := by decide +kernel
theorem dX7_readsNumber_97 : decode cX7_readsNumber 97 = .ok (.getfield 153, 3) := by decide +kernel
theorem dX7_readsNumber_100 : decode cX7_readsNumber 100 = .ok (.iconst 1, 1) := by decide +kernel
theorem dX7_readsNumber_101 : decode cX7_readsNumber 101 = .ok (.iadd, 1) := by decide +kernel
theorem dX7_readsNumber_102 : decode cX7_readsNumber 102 = .ok (.putfield 153, 3) := by decide +kernel
theorem dX7_readsNumber_105 : decode cX7_readsNumber 105 = .ok (.iconst 1, 1) := by decide +kernel
theorem dX7_readsNumber_106 : decode cX7_readsNumber 106 = .ok (.ireturn, 1) := by decide +kernel
theorem dX7_readsOrder_0 : decode cX7_readsOrder 0 = .ok (.aload_n 0, 1) := by decide +kernel
theorem dX7_readsOrder_1 : decode cX7_readsOrder 1 = .ok (.aload_n 0, 1) := by decide +kernel
theorem dX7_readsOrder_2 : decode cX7_readsOrder 2 = .ok (.invokevirtual 156, 3) := by decide +kernel
theorem dX7_readsOrder_5 : decode cX7_readsOrder 5 = .ok (.putfield 162, 3) := by decide +kernel
theorem dX7_readsOrder_8 : decode cX7_readsOrder 8 = .ok (.aload_n 0, 1) := by decide +kernel
theorem dX7_readsOrder_9 : decode cX7_readsOrder 9 = .ok (.getfield 162, 3) := by decide +kernel
theorem dX7_readsOrder_12 : decode cX7_readsOrder 12 = .ok (.lookupswitch 130 #[(43, 68), (45, 68), (110, 85), (112, 118), (114, 102), (115, 102), (119, 102)], 68) := by decide +kernel
theorem dX7_readsOrder_80 : decode cX7_readsOrder 80 = .ok (.aload_n 0, 1) := by decide +kernel
theorem dX7_readsOrder_81 : decode cX7_readsOrder 81 = .ok (.dup, 1) := by decide +kernel
theorem dX7_readsOrder_82 : decode cX7_readsOrder 82 = .ok (.getfield 153, 3) := by decide +kernel
theorem dX7_readsOrder_85 : decode cX7_readsOrder 85 = .ok (.iconst 1, 1) := by decide +kernel
theorem dX7_readsOrder_86 : decode cX7_readsOrder 86 = .ok (.iadd, 1) := by decide +kernel
theorem dX7_readsOrder_87 : decode cX7_readsOrder 87 = .ok (.putfield 153, 3) := by decide +kernel
theorem dX7_readsOrder_90 : decode cX7_readsOrder 90 = .ok (.aload_n 0, 1) := by decide +kernel
theorem dX7_readsOrder_91 : decode cX7_readsOrder 91 = .ok (.bipush 29, 2) := by decide +kernel
theorem dX7_readsOrder_93 : decode cX7_readsOrder 93 = .ok (.invokevirtual 165, 3) := by decide +kernel
theorem dX7_readsOrder_96 : decode cX7_readsOrder 96 = .ok (.ireturn, 1) := by decide +kernel
theorem dX7_readsOrder_97 : decode cX7_readsOrder 97 = .ok (.aload_n 0, 1) := by decide +kernel
theorem dX7_readsOrder_98 : decode cX7_readsOrder 98 = .ok (.dup, 1) := by decide +kernel
theorem dX7_readsOrder_99 : decode cX7_readsOrder 99 = .ok (.getfield 153, 3) := by decide +kernel
theorem dX7_readsOrder_102 : decode cX7_readsOrder 102 = .ok (.iconst 1, 1) := by decide +kernel
theorem dX7_readsOrder_103 : decode cX7_readsOrder 103 = .ok (.iadd, 1) := by decide +kernel
theorem dX7_readsOrder_104 : decode cX7_readsOrder 104 = .ok (.putfield 153, 3) := by decide +kernel
theorem dX7_readsOrder_107 : decode cX7_readsOrder 107 = .ok (.aload_n 0, 1) := by decide +kernel
theorem dX7_readsOrder_108 : decode cX7_readsOrder 108 = .ok (.bipush 15, 2) := by decide +kernel
theorem dX7_readsOrder_110 : decode cX7_readsOrder 110 = .ok (.invokevirtual 165, 3) := by decide +kernel
theorem dX7_readsOrder_113 : decode cX7_readsOrder 113 = .ok (.ireturn, 1) := by decide +kernel
theorem dX7_readsOrder_114 : decode cX7_readsOrder 114 = .ok (.aload_n 0, 1) := by decide +kernel
theorem dX7_readsOrder_115 : decode cX7_readsOrder 115 = .ok (.dup, 1) := by decide +kernel
theorem dX7_readsOrder_116 : decode cX7_readsOrder 116 = .ok (.getfield 153, 3) := by decide +kernel
theorem dX7_readsOrder_119 : decode cX7_readsOrder 119 = .ok (.iconst 1, 1) := by decide +kernel
theorem dX7_readsOrder_120 : decode cX7_readsOrder 120 = .ok (.iadd, 1) := by decide +kernel
theorem dX7_readsOrder_121 : decode cX7_readsOrder 121 = .ok (.putfield 153, 3) := by decide +kernel
theorem dX7_readsOrder_124 : decode cX7_readsOrder 124 = .ok (.aload_n 0, 1) := by decide +kernel
theorem dX7_readsOrder_125 : decode cX7_readsOrder 125 = .ok (.iconst 3, 1) := by decide +kernel
theorem dX7_readsOrder_126 : decode cX7_readsOrder 126 = .ok (.invokevirtual 165, 3) := by decide +kernel
theorem dX7_readsOrder_129 : decode cX7_readsOrder 129 = .ok (.ireturn, 1) := by decide +kernel
theorem dX7_readsOrder_130 : decode cX7_readsOrder 130 = .ok (.aload_n 0, 1) := by decide +kernel
theorem dX7_readsOrder_131 : decode cX7_readsOrder 131 = .ok (.dup, 1) := by decide +kernel
theorem dX7_readsOrder_132 : decode cX7_readsOrder 132 = .ok (.getfield 153, 3) := by decide +kernel
theorem dX7_readsOrder_135 : decode cX7_readsOrder 135 = .ok (.iconst 1, 1) := by decide +kernel
theorem dX7_readsOrder_136 : decode cX7_readsOrder 136 = .ok (.iadd, 1) := by decide +kernel
theorem dX7_readsOrder_137 : decode cX7_readsOrder 137 = .ok (.putfield 153, 3) := by decide +kernel
theorem dX7_readsOrder_140 : decode cX7_readsOrder 140 = .ok (.iconst 1, 1) := by decide +kernel
theorem dX7_readsOrder_141 : decode cX7_readsOrder 141 = .ok (.ireturn, 1) := by decide +kernel
theorem dX7_readsOrder_142 : decode cX7_readsOrder 142 = .ok (.iconst 0, 1) := by decide +kernel
theorem dX7_readsOrder_143 : decode cX7_readsOrder 143 = .ok (.ireturn, 1) := by decide +kernel
theorem dX7_findError_0 : decode cX7_findError 0 = .ok (.aload_n 0, 1) := by decide +kernel
theorem dX7_findError_1 : decode cX7_findError 1 = .ok (.iconst 0, 1) := by decide +kernel
theorem dX7_findError_2 : decode cX7_findError 2 = .ok (.putfield 153, 3) := by decide +kernel
theorem dX7_findError_5 : decode cX7_findError 5 = .ok (.aload_n 0, 1) := by decide +kernel
theorem dX7_findError_6 : decode cX7_findError 6 = .ok (.invokevirtual 168, 3) := by decide +kernel
theorem dX7_findError_9 : decode cX7_findError 9 = .ok (.ifCond .eq 43, 3) := by decide +kernel
theorem dX7_findError_12 : decode cX7_findError 12 = .ok (.aload_n 0, 1) := by decide +kernel
theorem dX7_findError_13 : decode cX7_findError 13 = .ok (.getfield 153, 3) := by decide +kernel
theorem dX7_findError_16 : decode cX7_findError 16 = .ok (.aload_n 0, 1) := by decide +kernel
theorem dX7_findError_17 : decode cX7_findError 17 = .ok (.getfield 150, 3) := by decide +kernel
theorem dX7_findError_20 : decode cX7_findError 20 = .ok (.if_icmp .ne 5, 3) := by decide +kernel
theorem dX7_findError_23 : decode cX7_findError 23 = .ok (.iconst (-1), 1) := by decide +kernel
theorem dX7_findError_24 : decode cX7_findError 24 = .ok (.ireturn, 1) := by decide +kernel
theorem dX7_findError_25 : decode cX7_findError 25 = .ok (.aload_n 0, 1) := by decide +kernel
theorem dX7_findError_26 : decode cX7_findError 26 = .ok (.invokevirtual 156, 3) := by decide +kernel
theorem dX7_findError_29 : decode cX7_findError 29 = .ok (.bipush 59, 2) := by decide +kernel
theorem dX7_findError_31 : decode cX7_findError 31 = .ok (.if_icmp .eq 8, 3) := by decide +kernel
theorem dX7_findError_34 : decode cX7_findError 34 = .ok (.aload_n 0, 1) := by decide +kernel
theorem dX7_findError_35 : decode cX7_findError 35 = .ok (.getfield 153, 3) := by decide +kernel
theorem dX7_findError_38 : decode cX7_findError 38 = .ok (.ireturn, 1) := by decide +kernel
theorem dX7_findError_39 : decode cX7_findError 39 = .ok (.aload_n 0, 1) := by decide +kernel
theorem dX7_findError_40 : decode cX7_findError 40 = .ok (.dup, 1) := by decide +kernel
theorem dX7_findError_41 : decode cX7_findError 41 = .ok (.getfield 153, 3) := by decide +kernel
theorem dX7_findError_44 : decode cX7_findError 44 = .ok (.iconst 1, 1) := by decide +kernel
theorem dX7_findError_45 : decode cX7_findError 45 = .ok (.iadd, 1) := by decide +kernel
theorem dX7_findError_46 : decode cX7_findError 46 = .ok (.putfield 153, 3) := by decide +kernel
theorem dX7_findError_49 : decode cX7_findError 49 = .ok (.goto (-44), 3) := by decide +kernel
theorem dX7_findError_52 : decode cX7_findError 52 = .ok (.aload_n 0, 1) := by decide +kernel
theorem dX7_findError_53 : decode cX7_findError 53 = .ok (.getfield 153, 3) := by decide +kernel
theorem dX7_findError_56 : decode cX7_findError 56 = .ok (.ireturn, 1) := by decide +kernel
theorem dX7_firstError_0 : decode cX7_firstError 0 = .ok (.aload_n 0, 1) := by decide +kernel
theorem dX7_firstError_1 : decode cX7_firstError 1 = .ok (.iconst 0, 1) := by decide +kernel
theorem dX7_firstError_2 : decode cX7_firstError 2 = .ok (.putfield 19, 3) := by decide +kernel
theorem dX7_firstError_5 : decode cX7_firstError 5 = .ok (.aload_n 0, 1) := by decide +kernel
theorem dX7_firstError_6 : decode cX7_firstError 6 = .ok (.invokevirtual 171, 3) := by decide +kernel
theorem dX7_firstError_9 : decode cX7_firstError 9 = .ok (.istore_n 1, 1) := by decide +kernel
theorem dX7_firstError_10 : decode cX7_firstError 10 = .ok (.iload_n 1, 1) := by decide +kernel
theorem dX7_firstError_11 : decode cX7_firstError 11 = .ok (.iconst (-1), 1) := by decide +kernel
theorem dX7_firstError_12 : decode cX7_firstError 12 = .ok (.if_icmp .ne 10, 3) := by decide +kernel
theorem dX7_firstError_15 : decode cX7_firstError 15 = .ok (.aload_n 0, 1) := by decide +kernel
theorem dX7_firstError_16 : decode cX7_firstError 16 = .ok (.getfield 150, 3) := by decide +kernel
theorem dX7_firstError_19 : decode cX7_firstError 19 = .ok (.goto 4, 3) := by decide +kernel
theorem dX7_firstError_22 : decode cX7_firstError 22 = .ok (.iload_n 1, 1) := by decide +kernel
theorem dX7_firstError_23 : decode cX7_firstError 23 = .ok (.ireturn, 1) := by decide +kernel
theorem dX7_canDo_0 : decode cX7_canDo 0 = .ok (.aload_n 0, 1) := by decide +kernel
theorem dX7_canDo_1 : decode cX7_canDo 1 = .ok (.getfield 162, 3) := by decide +kernel
theorem dX7_canDo_4 : decode cX7_canDo 4 = .ok (.lookupswitch 84 #[(43, 44), (45, 53), (110, 75), (112, 70)], 44) := by decide +kernel
theorem dX7_canDo_48 : decode cX7_canDo 48 = .ok (.aload_n 0, 1) := by decide +kernel
theorem dX7_canDo_49 : decode cX7_canDo 49 = .ok (.aload_n 0, 1) := by decide +kernel
theorem dX7_canDo_50 : decode cX7_canDo 50 = .ok (.getfield 159, 3) := by decide +kernel
theorem dX7_canDo_53 : decode cX7_canDo 53 = .ok (.invokevirtual 90, 3) := by decide +kernel
theorem dX7_canDo_56 : decode cX7_canDo 56 = .ok (.ireturn, 1) := by decide +kernel
theorem dX7_canDo_57 : decode cX7_canDo 57 = .ok (.aload_n 0, 1) := by decide +kernel
theorem dX7_canDo_58 : decode cX7_canDo 58 = .ok (.aload_n 0, 1) := by decide +kernel
theorem dX7_canDo_59 : decode cX7_canDo 59 = .ok (.getfield 159, 3) := by decide +kernel
theorem dX7_canDo_62 : decode cX7_canDo 62 = .ok (.invokevirtual 90, 3) := by decide +kernel
theorem dX7_canDo_65 : decode cX7_canDo 65 = .ok (.ifCond .ne 7, 3) := by decide +kernel
theorem dX7_canDo_68 : decode cX7_canDo 68 = .ok (.iconst 1, 1) := by decide +kernel
theorem dX7_canDo_69 : decode cX7_canDo 69 = .ok (.goto 4, 3) := by decide +kernel
theorem dX7_canDo_72 : decode cX7_canDo 72 = .ok (.iconst 0, 1) := by decide +kernel
theorem dX7_canDo_73 : decode cX7_canDo 73 = .ok (.ireturn, 1) := by decide +kernel
theorem dX7_canDo_74 : decode cX7_canDo 74 = .ok (.aload_n 0, 1) := by decide +kernel
theorem dX7_canDo_75 : decode cX7_canDo 75 = .ok (.invokevirtual 99, 3) := by decide +kernel
theorem dX7_canDo_78 : decode cX7_canDo 78 = .ok (.ireturn, 1) := by decide +kernel
theorem dX7_canDo_79 : decode cX7_canDo 79 = .ok (.aload_n 0, 1) := by decide +kernel
theorem dX7_canDo_80 : decode cX7_canDo 80 = .ok (.aload_n 0, 1) := by decide +kernel
theorem dX7_canDo_81 : decode cX7_canDo 81 = .ok (.getfield 159, 3) := by decide +kernel
theorem dX7_canDo_84 : decode cX7_canDo 84 = .ok (.invokevirtual 106, 3) := by decide +kernel
theorem dX7_canDo_87 : decode cX7_canDo 87 = .ok (.ireturn, 1) := by decide +kernel
theorem dX7_canDo_88 : decode cX7_canDo 88 = .ok (.aload_n 0, 1) := by decide +kernel
theorem dX7_canDo_89 : decode cX7_canDo 89 = .ok (.aload_n 0, 1) := by decide +kernel
theorem dX7_canDo_90 : decode cX7_canDo 90 = .ok (.getfield 159, 3) := by decide +kernel
theorem dX7_canDo_93 : decode cX7_canDo 93 = .ok (.iconst 3, 1) := by decide +kernel
theorem dX7_canDo_94 : decode cX7_canDo 94 = .ok (.invokevirtual 34, 3) := by decide +kernel
theorem dX7_canDo_97 : decode cX7_canDo 97 = .ok (.aload_n 0, 1) := by decide +kernel
theorem dX7_canDo_98 : decode cX7_canDo 98 = .ok (.getfield 162, 3) := by decide +kernel
theorem dX7_canDo_101 : decode cX7_canDo 101 = .ok (.bipush 119, 2) := by decide +kernel
theorem dX7_canDo_103 : decode cX7_canDo 103 = .ok (.if_icmp .ne 7, 3) := by decide +kernel
theorem dX7_canDo_106 : decode cX7_canDo 106 = .ok (.iconst 1, 1) := by decide +kernel
theorem dX7_canDo_107 : decode cX7_canDo 107 = .ok (.goto 4, 3) := by decide +kernel
theorem dX7_canDo_110 : decode cX7_canDo 110 = .ok (.iconst 0, 1) := by decide +kernel
theorem dX7_canDo_111 : decode cX7_canDo 111 = .ok (.if_icmp .ne 7, 3) := by decide +kernel
theorem dX7_canDo_114 : decode cX7_canDo 114 = .ok (.iconst 1, 1) := by decide +kernel
theorem dX7_canDo_115 : decode cX7_canDo 115 = .ok (.goto 4, 3) := by decide +kernel
theorem dX7_canDo_118 : decode cX7_canDo 118 = .ok (.iconst 0, 1) := by decide +kernel
theorem dX7_canDo_119 : decode cX7_canDo 119 = .ok (.ireturn, 1) := by decide +kernel
theorem dX7_doOrder_0 : decode cX7_doOrder 0 = .ok (.aload_n 0, 1) := by decide +kernel
theorem dX7_doOrder_1 : decode cX7_doOrder 1 = .ok (.getfield 162, 3) := by decide +kernel
theorem dX7_doOrder_4 : decode cX7_doOrder 4 = .ok (.lookupswitch 84 #[(43, 52), (45, 52), (110, 66), (112, 61), (114, 75)], 52) := by decide +kernel
theorem dX7_doOrder_56 : decode cX7_doOrder 56 = .ok (.aload_n 0, 1) := by decide +kernel
theorem dX7_doOrder_57 : decode cX7_doOrder 57 = .ok (.aload_n 0, 1) := by decide +kernel
theorem dX7_doOrder_58 : decode cX7_doOrder 58 = .ok (.getfield 159, 3) := by decide +kernel
theorem dX7_doOrder_61 : decode cX7_doOrder 61 = .ok (.invokevirtual 96, 3) := by decide +kernel
theorem dX7_doOrder_64 : decode cX7_doOrder 64 = .ok (.ireturn, 1) := by decide +kernel
theorem dX7_doOrder_65 : decode cX7_doOrder 65 = .ok (.aload_n 0, 1) := by decide +kernel
theorem dX7_doOrder_66 : decode cX7_doOrder 66 = .ok (.invokevirtual 103, 3) := by decide +kernel
theorem dX7_doOrder_69 : decode cX7_doOrder 69 = .ok (.ireturn, 1) := by decide +kernel
theorem dX7_doOrder_70 : decode cX7_doOrder 70 = .ok (.aload_n 0, 1) := by decide +kernel
theorem dX7_doOrder_71 : decode cX7_doOrder 71 = .ok (.aload_n 0, 1) := by decide +kernel
theorem dX7_doOrder_72 : decode cX7_doOrder 72 = .ok (.getfield 159, 3) := by decide +kernel
theorem dX7_doOrder_75 : decode cX7_doOrder 75 = .ok (.invokevirtual 109, 3) := by decide +kernel
theorem dX7_doOrder_78 : decode cX7_doOrder 78 = .ok (.ireturn, 1) := by decide +kernel
theorem dX7_doOrder_79 : decode cX7_doOrder 79 = .ok (.aload_n 0, 1) := by decide +kernel
theorem dX7_doOrder_80 : decode cX7_doOrder 80 = .ok (.aload_n 0, 1) := by decide +kernel
theorem dX7_doOrder_81 : decode cX7_doOrder 81 = .ok (.getfield 159, 3) := by decide +kernel
theorem dX7_doOrder_84 : decode cX7_doOrder 84 = .ok (.invokevirtual 124, 3) := by decide +kernel
theorem dX7_doOrder_87 : decode cX7_doOrder 87 = .ok (.ireturn, 1) := by decide +kernel
theorem dX7_doOrder_88 : decode cX7_doOrder 88 = .ok (.aload_n 0, 1) := by decide +kernel
theorem dX7_doOrder_89 : decode cX7_doOrder 89 = .ok (.aload_n 0, 1) := by decide +kernel
theorem dX7_doOrder_90 : decode cX7_doOrder 90 = .ok (.getfield 159, 3) := by decide +kernel
theorem dX7_doOrder_93 : decode cX7_doOrder 93 = .ok (.aload_n 0, 1) := by decide +kernel
theorem dX7_doOrder_94 : decode cX7_doOrder 94 = .ok (.getfield 162, 3) := by decide +kernel
theorem dX7_doOrder_97 : decode cX7_doOrder 97 = .ok (.bipush 115, 2) := by decide +kernel
theorem dX7_doOrder_99 : decode cX7_doOrder 99 = .ok (.if_icmp .ne 7, 3) := by decide +kernel
theorem dX7_doOrder_102 : decode cX7_doOrder 102 = .ok (.iconst 1, 1) := by decide +kernel
theorem dX7_doOrder_103 : decode cX7_doOrder 103 = .ok (.goto 4, 3) := by decide +kernel
theorem dX7_doOrder_106 : decode cX7_doOrder 106 = .ok (.iconst 0, 1) := by decide +kernel
theorem dX7_doOrder_107 : decode cX7_doOrder 107 = .ok (.invokevirtual 127, 3) := by decide +kernel
theorem dX7_doOrder_110 : decode cX7_doOrder 110 = .ok (.ireturn, 1) := by decide +kernel
theorem dX7_run_0 : decode cX7_run 0 = .ok (.aload_n 0, 1) := by decide +kernel
theorem dX7_run_1 : decode cX7_run 1 = .ok (.iconst 0, 1) := by decide +kernel
theorem dX7_run_2 : decode cX7_run 2 = .ok (.putfield 19, 3) := by decide +kernel
theorem dX7_run_5 : decode cX7_run 5 = .ok (.aload_n 0, 1) := by decide +kernel
theorem dX7_run_6 : decode cX7_run 6 = .ok (.invokevirtual 171, 3) := by decide +kernel
theorem dX7_run_9 : decode cX7_run 9 = .ok (.iconst (-1), 1) := by decide +kernel
theorem dX7_run_10 : decode cX7_run 10 = .ok (.if_icmp .eq 9, 3) := by decide +kernel
theorem dX7_run_13 : decode cX7_run 13 = .ok (.aload_n 0, 1) := by decide +kernel
theorem dX7_run_14 : decode cX7_run 14 = .ok (.iconst 1, 1) := by decide +kernel
theorem dX7_run_15 : decode cX7_run 15 = .ok (.invokevirtual 30, 3) := by decide +kernel
theorem dX7_run_18 : decode cX7_run 18 = .ok (.ireturn, 1) := by decide +kernel
theorem dX7_run_19 : decode cX7_run 19 = .ok (.aload_n 0, 1) := by decide +kernel
theorem dX7_run_20 : decode cX7_run 20 = .ok (.invokevirtual 93, 3) := by decide +kernel
theorem dX7_run_23 : decode cX7_run 23 = .ok (.aload_n 0, 1) := by decide +kernel
theorem dX7_run_24 : decode cX7_run 24 = .ok (.iconst 0, 1) := by decide +kernel
theorem dX7_run_25 : decode cX7_run 25 = .ok (.putfield 153, 3) := by decide +kernel
theorem dX7_run_28 : decode cX7_run 28 = .ok (.iconst 0, 1) := by decide +kernel
theorem dX7_run_29 : decode cX7_run 29 = .ok (.istore_n 1, 1) := by decide +kernel
theorem dX7_run_30 : decode cX7_run 30 = .ok (.iconst 1, 1) := by decide +kernel
theorem dX7_run_31 : decode cX7_run 31 = .ok (.istore_n 2, 1) := by decide +kernel
theorem dX7_run_32 : decode cX7_run 32 = .ok (.iload_n 2, 1) := by decide +kernel
theorem dX7_run_33 : decode cX7_run 33 = .ok (.ifCond .eq 66, 3) := by decide +kernel
theorem dX7_run_36 : decode cX7_run 36 = .ok (.aload_n 0, 1) := by decide +kernel
theorem dX7_run_37 : decode cX7_run 37 = .ok (.getfield 153, 3) := by decide +kernel
theorem dX7_run_40 : decode cX7_run 40 = .ok (.aload_n 0, 1) := by decide +kernel
theorem dX7_run_41 : decode cX7_run 41 = .ok (.getfield 150, 3) := by decide +kernel
theorem dX7_run_44 : decode cX7_run 44 = .ok (.if_icmp .ge 55, 3) := by decide +kernel
theorem dX7_run_47 : decode cX7_run 47 = .ok (.aload_n 0, 1) := by decide +kernel
theorem dX7_run_48 : decode cX7_run 48 = .ok (.invokevirtual 168, 3) := by decide +kernel
theorem dX7_run_51 : decode cX7_run 51 = .ok (.ifCond .eq 21, 3) := by decide +kernel
theorem dX7_run_54 : decode cX7_run 54 = .ok (.aload_n 0, 1) := by decide +kernel
theorem dX7_run_55 : decode cX7_run 55 = .ok (.invokevirtual 174, 3) := by decide +kernel
theorem dX7_run_58 : decode cX7_run 58 = .ok (.ifCond .eq 14, 3) := by decide +kernel
theorem dX7_run_61 : decode cX7_run 61 = .ok (.aload_n 0, 1) := by decide +kernel
theorem dX7_run_62 : decode cX7_run 62 = .ok (.invokevirtual 177, 3) := by decide +kernel
theorem dX7_run_65 : decode cX7_run 65 = .ok (.ifCond .lt 7, 3) := by decide +kernel
theorem dX7_run_68 : decode cX7_run 68 = .ok (.iconst 1, 1) := by decide +kernel
theorem dX7_run_69 : decode cX7_run 69 = .ok (.goto 4, 3) := by decide +kernel
theorem dX7_run_72 : decode cX7_run 72 = .ok (.iconst 0, 1) := by decide +kernel
theorem dX7_run_73 : decode cX7_run 73 = .ok (.istore_n 2, 1) := by decide +kernel
theorem dX7_run_74 : decode cX7_run 74 = .ok (.iload_n 1, 1) := by decide +kernel
theorem dX7_run_75 : decode cX7_run 75 = .ok (.iload_n 2, 1) := by decide +kernel
theorem dX7_run_76 : decode cX7_run 76 = .ok (.ifCond .eq 7, 3) := by decide +kernel
theorem dX7_run_79 : decode cX7_run 79 = .ok (.iconst 1, 1) := by decide +kernel
theorem dX7_run_80 : decode cX7_run 80 = .ok (.goto 4, 3) := by decide +kernel
theorem dX7_run_83 : decode cX7_run 83 = .ok (.iconst 0, 1) := by decide +kernel
theorem dX7_run_84 : decode cX7_run 84 = .ok (.iadd, 1) := by decide +kernel
theorem dX7_run_85 : decode cX7_run 85 = .ok (.istore_n 1, 1) := by decide +kernel
theorem dX7_run_86 : decode cX7_run 86 = .ok (.aload_n 0, 1) := by decide +kernel
theorem dX7_run_87 : decode cX7_run 87 = .ok (.dup, 1) := by decide +kernel
theorem dX7_run_88 : decode cX7_run 88 = .ok (.getfield 153, 3) := by decide +kernel
theorem dX7_run_91 : decode cX7_run 91 = .ok (.iconst 1, 1) := by decide +kernel
theorem dX7_run_92 : decode cX7_run 92 = .ok (.iadd, 1) := by decide +kernel
theorem dX7_run_93 : decode cX7_run 93 = .ok (.putfield 153, 3) := by decide +kernel
theorem dX7_run_96 : decode cX7_run 96 = .ok (.goto (-64), 3) := by decide +kernel
theorem dX7_run_99 : decode cX7_run 99 = .ok (.aload_n 0, 1) := by decide +kernel
theorem dX7_run_100 : decode cX7_run 100 = .ok (.iconst 0, 1) := by decide +kernel
theorem dX7_run_101 : decode cX7_run 101 = .ok (.putfield 150, 3) := by decide +kernel
theorem dX7_run_104 : decode cX7_run 104 = .ok (.iload_n 1, 1) := by decide +kernel
theorem dX7_run_105 : decode cX7_run 105 = .ok (.ireturn, 1) := by decide +kernel
theorem dX7_mix_0 : decode cX7_mix 0 = .ok (.aload_n 0, 1) := by decide +kernel
theorem dX7_mix_1 : decode cX7_mix 1 = .ok (.ldc2_w 180, 3) := by decide +kernel
theorem dX7_mix_4 : decode cX7_mix 4 = .ok (.aload_n 0, 1) := by decide +kernel
theorem dX7_mix_5 : decode cX7_mix 5 = .ok (.getfield 182, 3) := by decide +kernel
theorem dX7_mix_8 : decode cX7_mix 8 = .ok (.lmul, 1) := by decide +kernel
theorem dX7_mix_9 : decode cX7_mix 9 = .ok (.lload_n 1, 1) := by decide +kernel
theorem dX7_mix_10 : decode cX7_mix 10 = .ok (.ladd, 1) := by decide +kernel
theorem dX7_mix_11 : decode cX7_mix 11 = .ok (.putfield 182, 3) := by decide +kernel
theorem dX7_mix_14 : decode cX7_mix 14 = .ok (.return_, 1) := by decide +kernel
theorem dX7_mixFollower_0 : decode cX7_mixFollower 0 = .ok (.aload_n 0, 1) := by decide +kernel
theorem dX7_mixFollower_1 : decode cX7_mixFollower 1 = .ok (.aload_n 0, 1) := by decide +kernel
theorem dX7_mixFollower_2 : decode cX7_mixFollower 2 = .ok (.iload_n 1, 1) := by decide +kernel
theorem dX7_mixFollower_3 : decode cX7_mixFollower 3 = .ok (.invokevirtual 133, 3) := by decide +kernel
theorem dX7_mixFollower_6 : decode cX7_mixFollower 6 = .ok (.i2l, 1) := by decide +kernel
theorem dX7_mixFollower_7 : decode cX7_mixFollower 7 = .ok (.invokevirtual 186, 3) := by decide +kernel
theorem dX7_mixFollower_10 : decode cX7_mixFollower 10 = .ok (.aload_n 0, 1) := by decide +kernel
theorem dX7_mixFollower_11 : decode cX7_mixFollower 11 = .ok (.aload_n 0, 1) := by decide +kernel
theorem dX7_mixFollower_12 : decode cX7_mixFollower 12 = .ok (.iload_n 1, 1) := by decide +kernel
theorem dX7_mixFollower_13 : decode cX7_mixFollower 13 = .ok (.invokevirtual 130, 3) := by decide +kernel
theorem dX7_mixFollower_16 : decode cX7_mixFollower 16 = .ok (.i2l, 1) := by decide +kernel
theorem dX7_mixFollower_17 : decode cX7_mixFollower 17 = .ok (.invokevirtual 186, 3) := by decide +kernel
theorem dX7_mixFollower_20 : decode cX7_mixFollower 20 = .ok (.aload_n 0, 1) := by decide +kernel
theorem dX7_mixFollower_21 : decode cX7_mixFollower 21 = .ok (.aload_n 0, 1) := by decide +kernel
theorem dX7_mixFollower_22 : decode cX7_mixFollower 22 = .ok (.iload_n 1, 1) := by decide +kernel
theorem dX7_mixFollower_23 : decode cX7_mixFollower 23 = .ok (.invokevirtual 140, 3) := by decide +kernel
theorem dX7_mixFollower_26 : decode cX7_mixFollower 26 = .ok (.i2l, 1) := by decide +kernel
theorem dX7_mixFollower_27 : decode cX7_mixFollower 27 = .ok (.invokevirtual 186, 3) := by decide +kernel
theorem dX7_mixFollower_30 : decode cX7_mixFollower 30 = .ok (.aload_n 0, 1) := by decide +kernel
theorem dX7_mixFollower_31 : decode cX7_mixFollower 31 = .ok (.aload_n 0, 1) := by decide +kernel
theorem dX7_mixFollower_32 : decode cX7_mixFollower 32 = .ok (.iload_n 1, 1) := by decide +kernel
theorem dX7_mixFollower_33 : decode cX7_mixFollower 33 = .ok (.iconst 5, 1) := by decide +kernel
theorem dX7_mixFollower_34 : decode cX7_mixFollower 34 = .ok (.invokevirtual 34, 3) := by decide +kernel
theorem dX7_mixFollower_37 : decode cX7_mixFollower 37 = .ok (.i2l, 1) := by decide +kernel
theorem dX7_mixFollower_38 : decode cX7_mixFollower 38 = .ok (.invokevirtual 186, 3) := by decide +kernel
theorem dX7_mixFollower_41 : decode cX7_mixFollower 41 = .ok (.aload_n 0, 1) := by decide +kernel
theorem dX7_mixFollower_42 : decode cX7_mixFollower 42 = .ok (.aload_n 0, 1) := by decide +kernel
theorem dX7_mixFollower_43 : decode cX7_mixFollower 43 = .ok (.iload_n 1, 1) := by decide +kernel
theorem dX7_mixFollower_44 : decode cX7_mixFollower 44 = .ok (.invokevirtual 64, 3) := by decide +kernel
theorem dX7_mixFollower_47 : decode cX7_mixFollower 47 = .ok (.i2l, 1) := by decide +kernel
theorem dX7_mixFollower_48 : decode cX7_mixFollower 48 = .ok (.invokevirtual 186, 3) := by decide +kernel
theorem dX7_mixFollower_51 : decode cX7_mixFollower 51 = .ok (.aload_n 0, 1) := by decide +kernel
theorem dX7_mixFollower_52 : decode cX7_mixFollower 52 = .ok (.aload_n 0, 1) := by decide +kernel
theorem dX7_mixFollower_53 : decode cX7_mixFollower 53 = .ok (.iload_n 1, 1) := by decide +kernel
theorem dX7_mixFollower_54 : decode cX7_mixFollower 54 = .ok (.invokevirtual 67, 3) := by decide +kernel
theorem dX7_mixFollower_57 : decode cX7_mixFollower 57 = .ok (.i2l, 1) := by decide +kernel
theorem dX7_mixFollower_58 : decode cX7_mixFollower 58 = .ok (.invokevirtual 186, 3) := by decide +kernel
theorem dX7_mixFollower_61 : decode cX7_mixFollower 61 = .ok (.aload_n 0, 1) := by decide +kernel
theorem dX7_mixFollower_62 : decode cX7_mixFollower 62 = .ok (.aload_n 0, 1) := by decide +kernel
theorem dX7_mixFollower_63 : decode cX7_mixFollower 63 = .ok (.iload_n 1, 1) := by decide +kernel
theorem dX7_mixFollower_64 : decode cX7_mixFollower 64 = .ok (.invokevirtual 143, 3) := by decide +kernel
theorem dX7_mixFollower_67 : decode cX7_mixFollower 67 = .ok (.i2l, 1) := by decide +kernel
theorem dX7_mixFollower_68 : decode cX7_mixFollower 68 = .ok (.invokevirtual 186, 3) := by decide +kernel
theorem dX7_mixFollower_71 : decode cX7_mixFollower 71 = .ok (.return_, 1) := by decide +kernel
theorem dX7_digest_0 : decode cX7_digest 0 = .ok (.aload_n 0, 1) := by decide +kernel
theorem dX7_digest_1 : decode cX7_digest 1 = .ok (.iconst 0, 1) := by decide +kernel
theorem dX7_digest_2 : decode cX7_digest 2 = .ok (.putfield 19, 3) := by decide +kernel
theorem dX7_digest_5 : decode cX7_digest 5 = .ok (.aload_n 0, 1) := by decide +kernel
theorem dX7_digest_6 : decode cX7_digest 6 = .ok (.ldc2_w 190, 3) := by decide +kernel
theorem dX7_digest_9 : decode cX7_digest 9 = .ok (.putfield 182, 3) := by decide +kernel
theorem dX7_digest_12 : decode cX7_digest 12 = .ok (.aload_n 0, 1) := by decide +kernel
theorem dX7_digest_13 : decode cX7_digest 13 = .ok (.aload_n 0, 1) := by decide +kernel
theorem dX7_digest_14 : decode cX7_digest 14 = .ok (.getfield 7, 3) := by decide +kernel
theorem dX7_digest_17 : decode cX7_digest 17 = .ok (.iconst 2, 1) := by decide +kernel
theorem dX7_digest_18 : decode cX7_digest 18 = .ok (.iaload, 1) := by decide +kernel
theorem dX7_digest_19 : decode cX7_digest 19 = .ok (.i2l, 1) := by decide +kernel
theorem dX7_digest_20 : decode cX7_digest 20 = .ok (.invokevirtual 186, 3) := by decide +kernel
theorem dX7_digest_23 : decode cX7_digest 23 = .ok (.aload_n 0, 1) := by decide +kernel
theorem dX7_digest_24 : decode cX7_digest 24 = .ok (.aload_n 0, 1) := by decide +kernel
theorem dX7_digest_25 : decode cX7_digest 25 = .ok (.getfield 7, 3) := by decide +kernel
theorem dX7_digest_28 : decode cX7_digest 28 = .ok (.iconst 0, 1) := by decide +kernel
theorem dX7_digest_29 : decode cX7_digest 29 = .ok (.iaload, 1) := by decide +kernel
theorem dX7_digest_30 : decode cX7_digest 30 = .ok (.invokestatic 45, 3) := by decide +kernel
theorem dX7_digest_33 : decode cX7_digest 33 = .ok (.i2l, 1) := by decide +kernel
theorem dX7_digest_34 : decode cX7_digest 34 = .ok (.invokevirtual 186, 3) := by decide +kernel
theorem dX7_digest_37 : decode cX7_digest 37 = .ok (.aload_n 0, 1) := by decide +kernel
theorem dX7_digest_38 : decode cX7_digest 38 = .ok (.aload_n 0, 1) := by decide +kernel
theorem dX7_digest_39 : decode cX7_digest 39 = .ok (.getfield 7, 3) := by decide +kernel
theorem dX7_digest_42 : decode cX7_digest 42 = .ok (.iconst 1, 1) := by decide +kernel
theorem dX7_digest_43 : decode cX7_digest 43 = .ok (.iaload, 1) := by decide +kernel
theorem dX7_digest_44 : decode cX7_digest 44 = .ok (.invokestatic 45, 3) := by decide +kernel
theorem dX7_digest_47 : decode cX7_digest 47 = .ok (.i2l, 1) := by decide +kernel
theorem dX7_digest_48 : decode cX7_digest 48 = .ok (.invokevirtual 186, 3) := by decide +kernel
theorem dX7_digest_51 : decode cX7_digest 51 = .ok (.aload_n 0, 1) := by decide +kernel
theorem dX7_digest_52 : decode cX7_digest 52 = .ok (.aload_n 0, 1) := by decide +kernel
theorem dX7_digest_53 : decode cX7_digest 53 = .ok (.invokevirtual 115, 3) := by decide +kernel
theorem dX7_digest_56 : decode cX7_digest 56 = .ok (.i2l, 1) := by decide +kernel
theorem dX7_digest_57 : decode cX7_digest 57 = .ok (.invokevirtual 186, 3) := by decide +kernel
theorem dX7_digest_60 : decode cX7_digest 60 = .ok (.aload_n 0, 1) := by decide +kernel
theorem dX7_digest_61 : decode cX7_digest 61 = .ok (.aload_n 0, 1) := by decide +kernel
theorem dX7_digest_62 : decode cX7_digest 62 = .ok (.getfield 7, 3) := by decide +kernel
theorem dX7_digest_65 : decode cX7_digest 65 = .ok (.iconst 4, 1) := by decide +kernel
theorem dX7_digest_66 : decode cX7_digest 66 = .ok (.iaload, 1) := by decide +kernel
theorem dX7_digest_67 : decode cX7_digest 67 = .ok (.i2l, 1) := by decide +kernel
theorem dX7_digest_68 : decode cX7_digest 68 = .ok (.invokevirtual 186, 3) := by decide +kernel
theorem dX7_digest_71 : decode cX7_digest 71 = .ok (.iconst 0, 1) := by decide +kernel
theorem dX7_digest_72 : decode cX7_digest 72 = .ok (.istore_n 1, 1) := by decide +kernel
theorem dX7_digest_73 : decode cX7_digest 73 = .ok (.iload_n 1, 1) := by decide +kernel
theorem dX7_digest_74 : decode cX7_digest 74 = .ok (.aload_n 0, 1) := by decide +kernel
theorem dX7_digest_75 : decode cX7_digest 75 = .ok (.getfield 7, 3) := by decide +kernel
theorem dX7_digest_78 : decode cX7_digest 78 = .ok (.iconst 4, 1) := by decide +kernel
theorem dX7_digest_79 : decode cX7_digest 79 = .ok (.iaload, 1) := by decide +kernel
theorem dX7_digest_80 : decode cX7_digest 80 = .ok (.if_icmp .ge 30, 3) := by decide +kernel
theorem dX7_digest_83 : decode cX7_digest 83 = .ok (.aload_n 0, 1) := by decide +kernel
theorem dX7_digest_84 : decode cX7_digest 84 = .ok (.aload_n 0, 1) := by decide +kernel
theorem dX7_digest_85 : decode cX7_digest 85 = .ok (.iload_n 1, 1) := by decide +kernel
theorem dX7_digest_86 : decode cX7_digest 86 = .ok (.iconst 0, 1) := by decide +kernel
theorem dX7_digest_87 : decode cX7_digest 87 = .ok (.invokevirtual 42, 3) := by decide +kernel
theorem dX7_digest_90 : decode cX7_digest 90 = .ok (.i2l, 1) := by decide +kernel
theorem dX7_digest_91 : decode cX7_digest 91 = .ok (.invokevirtual 186, 3) := by decide +kernel
theorem dX7_digest_94 : decode cX7_digest 94 = .ok (.aload_n 0, 1) := by decide +kernel
theorem dX7_digest_95 : decode cX7_digest 95 = .ok (.aload_n 0, 1) := by decide +kernel
theorem dX7_digest_96 : decode cX7_digest 96 = .ok (.iload_n 1, 1) := by decide +kernel
theorem dX7_digest_97 : decode cX7_digest 97 = .ok (.invokevirtual 48, 3) := by decide +kernel
theorem dX7_digest_100 : decode cX7_digest 100 = .ok (.i2l, 1) := by decide +kernel
theorem dX7_digest_101 : decode cX7_digest 101 = .ok (.invokevirtual 186, 3) := by decide +kernel
theorem dX7_digest_104 : decode cX7_digest 104 = .ok (.iinc 1 1, 3) := by decide +kernel
theorem dX7_digest_107 : decode cX7_digest 107 = .ok (.goto (-34), 3) := by decide +kernel
theorem dX7_digest_110 : decode cX7_digest 110 = .ok (.iconst 0, 1) := by decide +kernel
theorem dX7_digest_111 : decode cX7_digest 111 = .ok (.istore_n 1, 1) := by decide +kernel
theorem dX7_digest_112 : decode cX7_digest 112 = .ok (.iload_n 1, 1) := by decide +kernel
theorem dX7_digest_113 : decode cX7_digest 113 = .ok (.iconst 4, 1) := by decide +kernel
theorem dX7_digest_114 : decode cX7_digest 114 = .ok (.if_icmp .ge 14, 3) := by decide +kernel
theorem dX7_digest_117 : decode cX7_digest 117 = .ok (.aload_n 0, 1) := by decide +kernel
theorem dX7_digest_118 : decode cX7_digest 118 = .ok (.iload_n 1, 1) := by decide +kernel
theorem dX7_digest_119 : decode cX7_digest 119 = .ok (.invokevirtual 192, 3) := by decide +kernel
theorem dX7_digest_122 : decode cX7_digest 122 = .ok (.iinc 1 1, 3) := by decide +kernel
theorem dX7_digest_125 : decode cX7_digest 125 = .ok (.goto (-13), 3) := by decide +kernel
theorem dX7_digest_128 : decode cX7_digest 128 = .ok (.iconst 0, 1) := by decide +kernel
theorem dX7_digest_129 : decode cX7_digest 129 = .ok (.istore_n 1, 1) := by decide +kernel
theorem dX7_digest_130 : decode cX7_digest 130 = .ok (.iload_n 1, 1) := by decide +kernel
theorem dX7_digest_131 : decode cX7_digest 131 = .ok (.bipush 30, 2) := by decide +kernel
theorem dX7_digest_133 : decode cX7_digest 133 = .ok (.if_icmp .ge 50, 3) := by decide +kernel
theorem dX7_digest_136 : decode cX7_digest 136 = .ok (.aload_n 0, 1) := by decide +kernel
theorem dX7_digest_137 : decode cX7_digest 137 = .ok (.aload_n 0, 1) := by decide +kernel
theorem dX7_digest_138 : decode cX7_digest 138 = .ok (.iload_n 1, 1) := by decide +kernel
theorem dX7_digest_139 : decode cX7_digest 139 = .ok (.invokevirtual 112, 3) := by decide +kernel
theorem dX7_digest_142 : decode cX7_digest 142 = .ok (.i2l, 1) := by decide +kernel
theorem dX7_digest_143 : decode cX7_digest 143 = .ok (.invokevirtual 186, 3) := by decide +kernel
theorem dX7_digest_146 : decode cX7_digest 146 = .ok (.iconst 0, 1) := by decide +kernel
theorem dX7_digest_147 : decode cX7_digest 147 = .ok (.istore_n 2, 1) := by decide +kernel
theorem dX7_digest_148 : decode cX7_digest 148 = .ok (.iload_n 2, 1) := by decide +kernel
theorem dX7_digest_149 : decode cX7_digest 149 = .ok (.iconst 4, 1) := by decide +kernel
theorem dX7_digest_150 : decode cX7_digest 150 = .ok (.if_icmp .ge 27, 3) := by decide +kernel
theorem dX7_digest_153 : decode cX7_digest 153 = .ok (.aload_n 0, 1) := by decide +kernel
theorem dX7_digest_154 : decode cX7_digest 154 = .ok (.aload_n 0, 1) := by decide +kernel
theorem dX7_digest_155 : decode cX7_digest 155 = .ok (.iload_n 2, 1) := by decide +kernel
theorem dX7_digest_156 : decode cX7_digest 156 = .ok (.iload_n 1, 1) := by decide +kernel
theorem dX7_digest_157 : decode cX7_digest 157 = .ok (.invokevirtual 136, 3) := by decide +kernel
theorem dX7_digest_160 : decode cX7_digest 160 = .ok (.ifCond .eq 7, 3) := by decide +kernel
theorem dX7_digest_163 : decode cX7_digest 163 = .ok (.lconst 1, 1) := by decide +kernel
theorem dX7_digest_164 : decode cX7_digest 164 = .ok (.goto 4, 3) := by decide +kernel
theorem dX7_digest_167 : decode cX7_digest 167 = .ok (.lconst 0, 1) := by decide +kernel
theorem dX7_digest_168 : decode cX7_digest 168 = .ok (.invokevirtual 186, 3) := by decide +kernel
theorem dX7_digest_171 : decode cX7_digest 171 = .ok (.iinc 2 1, 3) := by decide +kernel
theorem dX7_digest_174 : decode cX7_digest 174 = .ok (.goto (-26), 3) := by decide +kernel
theorem dX7_digest_177 : decode cX7_digest 177 = .ok (.iinc 1 1, 3) := by decide +kernel
theorem dX7_digest_180 : decode cX7_digest 180 = .ok (.goto (-50), 3) := by decide +kernel
theorem dX7_digest_183 : decode cX7_digest 183 = .ok (.aload_n 0, 1) := by decide +kernel
theorem dX7_digest_184 : decode cX7_digest 184 = .ok (.getfield 182, 3) := by decide +kernel
theorem dX7_digest_187 : decode cX7_digest 187 = .ok (.lreturn, 1) := by decide +kernel
