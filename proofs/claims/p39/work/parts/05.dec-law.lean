theorem dL_cell_0 : decode cL_cell 0 = .ok (.iload_n 1, 1) := by decide +kernel
theorem dL_cell_1 : decode cL_cell 1 = .ok (.aload_n 0, 1) := by decide +kernel
theorem dL_cell_2 : decode cL_cell 2 = .ok (.arraylength, 1) := by decide +kernel
theorem dL_cell_3 : decode cL_cell 3 = .ok (.if_icmp .ge 9, 3) := by decide +kernel
theorem dL_cell_6 : decode cL_cell 6 = .ok (.aload_n 0, 1) := by decide +kernel
theorem dL_cell_7 : decode cL_cell 7 = .ok (.iload_n 1, 1) := by decide +kernel
theorem dL_cell_8 : decode cL_cell 8 = .ok (.iaload, 1) := by decide +kernel
theorem dL_cell_9 : decode cL_cell 9 = .ok (.goto 12, 3) := by decide +kernel
theorem dL_cell_12 : decode cL_cell 12 = .ok (.ldc 7, 2) := by decide +kernel
theorem dL_cell_14 : decode cL_cell 14 = .ok (.iload_n 1, 1) := by decide +kernel
theorem dL_cell_15 : decode cL_cell 15 = .ok (.iconst 5, 1) := by decide +kernel
theorem dL_cell_16 : decode cL_cell 16 = .ok (.iadd, 1) := by decide +kernel
theorem dL_cell_17 : decode cL_cell 17 = .ok (.imul, 1) := by decide +kernel
theorem dL_cell_18 : decode cL_cell 18 = .ok (.ldc 8, 2) := by decide +kernel
theorem dL_cell_20 : decode cL_cell 20 = .ok (.iadd, 1) := by decide +kernel
theorem dL_cell_21 : decode cL_cell 21 = .ok (.ireturn, 1) := by decide +kernel
theorem dL_low_0 : decode cL_low 0 = .ok (.iload_n 0, 1) := by decide +kernel
theorem dL_low_1 : decode cL_low 1 = .ok (.ldc 9, 2) := by decide +kernel
theorem dL_low_3 : decode cL_low 3 = .ok (.iand, 1) := by decide +kernel
theorem dL_low_4 : decode cL_low 4 = .ok (.iload_n 1, 1) := by decide +kernel
theorem dL_low_5 : decode cL_low 5 = .ok (.irem, 1) := by decide +kernel
theorem dL_low_6 : decode cL_low 6 = .ok (.ireturn, 1) := by decide +kernel
theorem dL_add_0 : decode cL_add 0 = .ok (.aload_n 0, 1) := by decide +kernel
theorem dL_add_1 : decode cL_add 1 = .ok (.iload_n 1, 1) := by decide +kernel
theorem dL_add_2 : decode cL_add 2 = .ok (.invokevirtual 10, 3) := by decide +kernel
theorem dL_add_5 : decode cL_add 5 = .ok (.ireturn, 1) := by decide +kernel
theorem dL_add_6 : decode cL_add 6 = .ok (.astore_n 2, 1) := by decide +kernel
theorem dL_add_7 : decode cL_add 7 = .ok (.bipush (-101), 2) := by decide +kernel
theorem dL_add_9 : decode cL_add 9 = .ok (.ireturn, 1) := by decide +kernel
theorem dL_add_10 : decode cL_add 10 = .ok (.astore_n 2, 1) := by decide +kernel
theorem dL_add_11 : decode cL_add 11 = .ok (.bipush (-103), 2) := by decide +kernel
theorem dL_add_13 : decode cL_add 13 = .ok (.ireturn, 1) := by decide +kernel
theorem dL_crossOut_0 : decode cL_crossOut 0 = .ok (.aload_n 0, 1) := by decide +kernel
theorem dL_crossOut_1 : decode cL_crossOut 1 = .ok (.iload_n 1, 1) := by decide +kernel
theorem dL_crossOut_2 : decode cL_crossOut 2 = .ok (.invokevirtual 20, 3) := by decide +kernel
theorem dL_crossOut_5 : decode cL_crossOut 5 = .ok (.ireturn, 1) := by decide +kernel
theorem dL_crossOut_6 : decode cL_crossOut 6 = .ok (.astore_n 2, 1) := by decide +kernel
theorem dL_crossOut_7 : decode cL_crossOut 7 = .ok (.bipush (-101), 2) := by decide +kernel
theorem dL_crossOut_9 : decode cL_crossOut 9 = .ok (.ireturn, 1) := by decide +kernel
theorem dL_crossOut_10 : decode cL_crossOut 10 = .ok (.astore_n 2, 1) := by decide +kernel
theorem dL_crossOut_11 : decode cL_crossOut 11 = .ok (.bipush (-103), 2) := by decide +kernel
theorem dL_crossOut_13 : decode cL_crossOut 13 = .ok (.ireturn, 1) := by decide +kernel
theorem dL_publish_0 : decode cL_publish 0 = .ok (.aload_n 0, 1) := by decide +kernel
theorem dL_publish_1 : decode cL_publish 1 = .ok (.invokevirtual 23, 3) := by decide +kernel
theorem dL_publish_4 : decode cL_publish 4 = .ok (.ireturn, 1) := by decide +kernel
theorem dL_publish_5 : decode cL_publish 5 = .ok (.astore_n 1, 1) := by decide +kernel
theorem dL_publish_6 : decode cL_publish 6 = .ok (.bipush (-103), 2) := by decide +kernel
theorem dL_publish_8 : decode cL_publish 8 = .ok (.ireturn, 1) := by decide +kernel
theorem dL_renumber_0 : decode cL_renumber 0 = .ok (.aload_n 0, 1) := by decide +kernel
theorem dL_renumber_1 : decode cL_renumber 1 = .ok (.iload_n 1, 1) := by decide +kernel
theorem dL_renumber_2 : decode cL_renumber 2 = .ok (.invokevirtual 27, 3) := by decide +kernel
theorem dL_renumber_5 : decode cL_renumber 5 = .ok (.ireturn, 1) := by decide +kernel
theorem dL_renumber_6 : decode cL_renumber 6 = .ok (.astore_n 2, 1) := by decide +kernel
theorem dL_renumber_7 : decode cL_renumber 7 = .ok (.bipush (-102), 2) := by decide +kernel
theorem dL_renumber_9 : decode cL_renumber 9 = .ok (.ireturn, 1) := by decide +kernel
theorem dL_setKeep_0 : decode cL_setKeep 0 = .ok (.aload_n 0, 1) := by decide +kernel
theorem dL_setKeep_1 : decode cL_setKeep 1 = .ok (.iload_n 1, 1) := by decide +kernel
theorem dL_setKeep_2 : decode cL_setKeep 2 = .ok (.invokevirtual 32, 3) := by decide +kernel
theorem dL_setKeep_5 : decode cL_setKeep 5 = .ok (.ireturn, 1) := by decide +kernel
theorem dL_setKeep_6 : decode cL_setKeep 6 = .ok (.astore_n 2, 1) := by decide +kernel
theorem dL_setKeep_7 : decode cL_setKeep 7 = .ok (.bipush (-102), 2) := by decide +kernel
theorem dL_setKeep_9 : decode cL_setKeep 9 = .ok (.ireturn, 1) := by decide +kernel
theorem dL_where_0 : decode cL_where 0 = .ok (.aload_n 0, 1) := by decide +kernel
theorem dL_where_1 : decode cL_where 1 = .ok (.iload_n 1, 1) := by decide +kernel
theorem dL_where_2 : decode cL_where 2 = .ok (.invokevirtual 35, 3) := by decide +kernel
theorem dL_where_5 : decode cL_where 5 = .ok (.ireturn, 1) := by decide +kernel
theorem dL_where_6 : decode cL_where 6 = .ok (.astore_n 2, 1) := by decide +kernel
theorem dL_where_7 : decode cL_where 7 = .ok (.bipush (-101), 2) := by decide +kernel
theorem dL_where_9 : decode cL_where 9 = .ok (.ireturn, 1) := by decide +kernel
theorem dL_from_0 : decode cL_from 0 = .ok (.aload_n 0, 1) := by decide +kernel
theorem dL_from_1 : decode cL_from 1 = .ok (.iload_n 1, 1) := by decide +kernel
theorem dL_from_2 : decode cL_from 2 = .ok (.invokevirtual 38, 3) := by decide +kernel
theorem dL_from_5 : decode cL_from 5 = .ok (.ireturn, 1) := by decide +kernel
theorem dL_from_6 : decode cL_from 6 = .ok (.astore_n 2, 1) := by decide +kernel
theorem dL_from_7 : decode cL_from 7 = .ok (.bipush (-101), 2) := by decide +kernel
theorem dL_from_9 : decode cL_from 9 = .ok (.ireturn, 1) := by decide +kernel
theorem dL_cost_0 : decode cL_cost 0 = .ok (.aload_n 0, 1) := by decide +kernel
theorem dL_cost_1 : decode cL_cost 1 = .ok (.iload_n 1, 1) := by decide +kernel
theorem dL_cost_2 : decode cL_cost 2 = .ok (.invokevirtual 41, 3) := by decide +kernel
theorem dL_cost_5 : decode cL_cost 5 = .ok (.ireturn, 1) := by decide +kernel
theorem dL_cost_6 : decode cL_cost 6 = .ok (.astore_n 2, 1) := by decide +kernel
theorem dL_cost_7 : decode cL_cost 7 = .ok (.bipush (-101), 2) := by decide +kernel
theorem dL_cost_9 : decode cL_cost 9 = .ok (.ireturn, 1) := by decide +kernel
theorem dL_compare_0 : decode cL_compare 0 = .ok (.aload_n 0, 1) := by decide +kernel
theorem dL_compare_1 : decode cL_compare 1 = .ok (.iload_n 1, 1) := by decide +kernel
theorem dL_compare_2 : decode cL_compare 2 = .ok (.iload_n 2, 1) := by decide +kernel
theorem dL_compare_3 : decode cL_compare 3 = .ok (.invokevirtual 44, 3) := by decide +kernel
theorem dL_compare_6 : decode cL_compare 6 = .ok (.ireturn, 1) := by decide +kernel
theorem dL_compare_7 : decode cL_compare 7 = .ok (.astore_n 3, 1) := by decide +kernel
theorem dL_compare_8 : decode cL_compare 8 = .ok (.bipush (-102), 2) := by decide +kernel
theorem dL_compare_10 : decode cL_compare 10 = .ok (.ireturn, 1) := by decide +kernel
theorem dL_refresh_0 : decode cL_refresh 0 = .ok (.aload_n 0, 1) := by decide +kernel
theorem dL_refresh_1 : decode cL_refresh 1 = .ok (.iload_n 1, 1) := by decide +kernel
theorem dL_refresh_2 : decode cL_refresh 2 = .ok (.invokevirtual 48, 3) := by decide +kernel
theorem dL_refresh_5 : decode cL_refresh 5 = .ok (.ireturn, 1) := by decide +kernel
theorem dL_refresh_6 : decode cL_refresh 6 = .ok (.astore_n 2, 1) := by decide +kernel
theorem dL_refresh_7 : decode cL_refresh 7 = .ok (.bipush (-101), 2) := by decide +kernel
theorem dL_refresh_9 : decode cL_refresh 9 = .ok (.ireturn, 1) := by decide +kernel
theorem dL_refresh_10 : decode cL_refresh 10 = .ok (.astore_n 2, 1) := by decide +kernel
theorem dL_refresh_11 : decode cL_refresh 11 = .ok (.bipush (-103), 2) := by decide +kernel
theorem dL_refresh_13 : decode cL_refresh 13 = .ok (.ireturn, 1) := by decide +kernel
theorem dL_sleep_0 : decode cL_sleep 0 = .ok (.aload_n 0, 1) := by decide +kernel
theorem dL_sleep_1 : decode cL_sleep 1 = .ok (.iload_n 1, 1) := by decide +kernel
theorem dL_sleep_2 : decode cL_sleep 2 = .ok (.invokevirtual 51, 3) := by decide +kernel
theorem dL_sleep_5 : decode cL_sleep 5 = .ok (.ireturn, 1) := by decide +kernel
theorem dL_sleep_6 : decode cL_sleep 6 = .ok (.astore_n 2, 1) := by decide +kernel
theorem dL_sleep_7 : decode cL_sleep 7 = .ok (.bipush (-101), 2) := by decide +kernel
theorem dL_sleep_9 : decode cL_sleep 9 = .ok (.ireturn, 1) := by decide +kernel
theorem dL_sleep_10 : decode cL_sleep 10 = .ok (.astore_n 2, 1) := by decide +kernel
theorem dL_sleep_11 : decode cL_sleep 11 = .ok (.bipush (-103), 2) := by decide +kernel
theorem dL_sleep_13 : decode cL_sleep 13 = .ok (.ireturn, 1) := by decide +kernel
theorem dL_wake_0 : decode cL_wake 0 = .ok (.aload_n 0, 1) := by decide +kernel
theorem dL_wake_1 : decode cL_wake 1 = .ok (.iload_n 1, 1) := by decide +kernel
theorem dL_wake_2 : decode cL_wake 2 = .ok (.invokevirtual 54, 3) := by decide +kernel
theorem dL_wake_5 : decode cL_wake 5 = .ok (.ireturn, 1) := by decide +kernel
theorem dL_wake_6 : decode cL_wake 6 = .ok (.astore_n 2, 1) := by decide +kernel
theorem dL_wake_7 : decode cL_wake 7 = .ok (.bipush (-101), 2) := by decide +kernel
theorem dL_wake_9 : decode cL_wake 9 = .ok (.ireturn, 1) := by decide +kernel
theorem dL_wake_10 : decode cL_wake 10 = .ok (.astore_n 2, 1) := by decide +kernel
theorem dL_wake_11 : decode cL_wake 11 = .ok (.bipush (-103), 2) := by decide +kernel
theorem dL_wake_13 : decode cL_wake 13 = .ok (.ireturn, 1) := by decide +kernel
theorem dL_throwAway_0 : decode cL_throwAway 0 = .ok (.aload_n 0, 1) := by decide +kernel
theorem dL_throwAway_1 : decode cL_throwAway 1 = .ok (.iload_n 1, 1) := by decide +kernel
theorem dL_throwAway_2 : decode cL_throwAway 2 = .ok (.invokevirtual 57, 3) := by decide +kernel
theorem dL_throwAway_5 : decode cL_throwAway 5 = .ok (.ireturn, 1) := by decide +kernel
theorem dL_throwAway_6 : decode cL_throwAway 6 = .ok (.astore_n 2, 1) := by decide +kernel
theorem dL_throwAway_7 : decode cL_throwAway 7 = .ok (.bipush (-101), 2) := by decide +kernel
theorem dL_throwAway_9 : decode cL_throwAway 9 = .ok (.ireturn, 1) := by decide +kernel
theorem dL_editionOf_0 : decode cL_editionOf 0 = .ok (.aload_n 0, 1) := by decide +kernel
theorem dL_editionOf_1 : decode cL_editionOf 1 = .ok (.iload_n 1, 1) := by decide +kernel
theorem dL_editionOf_2 : decode cL_editionOf 2 = .ok (.invokevirtual 60, 3) := by decide +kernel
theorem dL_editionOf_5 : decode cL_editionOf 5 = .ok (.ireturn, 1) := by decide +kernel
theorem dL_editionOf_6 : decode cL_editionOf 6 = .ok (.astore_n 2, 1) := by decide +kernel
theorem dL_editionOf_7 : decode cL_editionOf 7 = .ok (.bipush (-101), 2) := by decide +kernel
theorem dL_editionOf_9 : decode cL_editionOf 9 = .ok (.ireturn, 1) := by decide +kernel
theorem dL_streets_0 : decode cL_streets 0 = .ok (.aload_n 0, 1) := by decide +kernel
theorem dL_streets_1 : decode cL_streets 1 = .ok (.iload_n 1, 1) := by decide +kernel
theorem dL_streets_2 : decode cL_streets 2 = .ok (.invokevirtual 63, 3) := by decide +kernel
theorem dL_streets_5 : decode cL_streets 5 = .ok (.ireturn, 1) := by decide +kernel
theorem dL_streets_6 : decode cL_streets 6 = .ok (.astore_n 2, 1) := by decide +kernel
theorem dL_streets_7 : decode cL_streets 7 = .ok (.bipush (-101), 2) := by decide +kernel
theorem dL_streets_9 : decode cL_streets 9 = .ok (.ireturn, 1) := by decide +kernel
theorem dL_has_0 : decode cL_has 0 = .ok (.aload_n 0, 1) := by decide +kernel
theorem dL_has_1 : decode cL_has 1 = .ok (.iload_n 1, 1) := by decide +kernel
theorem dL_has_2 : decode cL_has 2 = .ok (.iload_n 2, 1) := by decide +kernel
theorem dL_has_3 : decode cL_has 3 = .ok (.invokevirtual 66, 3) := by decide +kernel
theorem dL_has_6 : decode cL_has 6 = .ok (.ifCond .eq 7, 3) := by decide +kernel
theorem dL_has_9 : decode cL_has 9 = .ok (.iconst 1, 1) := by decide +kernel
theorem dL_has_10 : decode cL_has 10 = .ok (.goto 4, 3) := by decide +kernel
theorem dL_has_13 : decode cL_has 13 = .ok (.iconst 0, 1) := by decide +kernel
theorem dL_has_14 : decode cL_has 14 = .ok (.ireturn, 1) := by decide +kernel
theorem dL_has_15 : decode cL_has 15 = .ok (.astore_n 3, 1) := by decide +kernel
theorem dL_has_16 : decode cL_has 16 = .ok (.bipush (-101), 2) := by decide +kernel
theorem dL_has_18 : decode cL_has 18 = .ok (.ireturn, 1) := by decide +kernel
theorem dL_isRight_0 : decode cL_isRight 0 = .ok (.aload_n 0, 1) := by decide +kernel
theorem dL_isRight_1 : decode cL_isRight 1 = .ok (.iload_n 1, 1) := by decide +kernel
theorem dL_isRight_2 : decode cL_isRight 2 = .ok (.invokevirtual 70, 3) := by decide +kernel
theorem dL_isRight_5 : decode cL_isRight 5 = .ok (.ifCond .eq 7, 3) := by decide +kernel
theorem dL_isRight_8 : decode cL_isRight 8 = .ok (.iconst 1, 1) := by decide +kernel
theorem dL_isRight_9 : decode cL_isRight 9 = .ok (.goto 4, 3) := by decide +kernel
theorem dL_isRight_12 : decode cL_isRight 12 = .ok (.iconst 0, 1) := by decide +kernel
theorem dL_isRight_13 : decode cL_isRight 13 = .ok (.ireturn, 1) := by decide +kernel
theorem dL_isRight_14 : decode cL_isRight 14 = .ok (.astore_n 2, 1) := by decide +kernel
theorem dL_isRight_15 : decode cL_isRight 15 = .ok (.bipush (-101), 2) := by decide +kernel
theorem dL_isRight_17 : decode cL_isRight 17 = .ok (.ireturn, 1) := by decide +kernel
theorem dL_attention_0 : decode cL_attention 0 = .ok (.aload_n 0, 1) := by decide +kernel
theorem dL_attention_1 : decode cL_attention 1 = .ok (.iload_n 1, 1) := by decide +kernel
theorem dL_attention_2 : decode cL_attention 2 = .ok (.invokevirtual 74, 3) := by decide +kernel
theorem dL_attention_5 : decode cL_attention 5 = .ok (.ireturn, 1) := by decide +kernel
theorem dL_attention_6 : decode cL_attention 6 = .ok (.astore_n 2, 1) := by decide +kernel
theorem dL_attention_7 : decode cL_attention 7 = .ok (.bipush (-101), 2) := by decide +kernel
theorem dL_attention_9 : decode cL_attention 9 = .ok (.ireturn, 1) := by decide +kernel
theorem dL_costs_0 : decode cL_costs 0 = .ok (.aload_n 0, 1) := by decide +kernel
theorem dL_costs_1 : decode cL_costs 1 = .ok (.iload_n 1, 1) := by decide +kernel
theorem dL_costs_2 : decode cL_costs 2 = .ok (.invokevirtual 77, 3) := by decide +kernel
theorem dL_costs_5 : decode cL_costs 5 = .ok (.ireturn, 1) := by decide +kernel
theorem dL_costs_6 : decode cL_costs 6 = .ok (.astore_n 2, 1) := by decide +kernel
theorem dL_costs_7 : decode cL_costs 7 = .ok (.bipush (-101), 2) := by decide +kernel
theorem dL_costs_9 : decode cL_costs 9 = .ok (.ireturn, 1) := by decide +kernel
theorem dL_answer_0 : decode cL_answer 0 = .ok (.aload_n 0, 1) := by decide +kernel
theorem dL_answer_1 : decode cL_answer 1 = .ok (.iload_n 1, 1) := by decide +kernel
theorem dL_answer_2 : decode cL_answer 2 = .ok (.invokevirtual 80, 3) := by decide +kernel
theorem dL_answer_5 : decode cL_answer 5 = .ok (.ireturn, 1) := by decide +kernel
theorem dL_answer_6 : decode cL_answer 6 = .ok (.astore_n 2, 1) := by decide +kernel
theorem dL_answer_7 : decode cL_answer 7 = .ok (.bipush (-101), 2) := by decide +kernel
theorem dL_answer_9 : decode cL_answer 9 = .ok (.ireturn, 1) := by decide +kernel
theorem dL_costToCome_0 : decode cL_costToCome 0 = .ok (.aload_n 0, 1) := by decide +kernel
theorem dL_costToCome_1 : decode cL_costToCome 1 = .ok (.iload_n 1, 1) := by decide +kernel
theorem dL_costToCome_2 : decode cL_costToCome 2 = .ok (.invokevirtual 83, 3) := by decide +kernel
theorem dL_costToCome_5 : decode cL_costToCome 5 = .ok (.ireturn, 1) := by decide +kernel
theorem dL_costToCome_6 : decode cL_costToCome 6 = .ok (.astore_n 2, 1) := by decide +kernel
theorem dL_costToCome_7 : decode cL_costToCome 7 = .ok (.bipush (-101), 2) := by decide +kernel
theorem dL_costToCome_9 : decode cL_costToCome 9 = .ok (.ireturn, 1) := by decide +kernel
theorem dL_wrong_0 : decode cL_wrong 0 = .ok (.aload_n 0, 1) := by decide +kernel
theorem dL_wrong_1 : decode cL_wrong 1 = .ok (.iload_n 1, 1) := by decide +kernel
theorem dL_wrong_2 : decode cL_wrong 2 = .ok (.invokevirtual 86, 3) := by decide +kernel
theorem dL_wrong_5 : decode cL_wrong 5 = .ok (.ireturn, 1) := by decide +kernel
theorem dL_wrong_6 : decode cL_wrong 6 = .ok (.astore_n 2, 1) := by decide +kernel
theorem dL_wrong_7 : decode cL_wrong 7 = .ok (.bipush (-101), 2) := by decide +kernel
theorem dL_wrong_9 : decode cL_wrong 9 = .ok (.ireturn, 1) := by decide +kernel
theorem dL_undo_0 : decode cL_undo 0 = .ok (.aload_n 0, 1) := by decide +kernel
theorem dL_undo_1 : decode cL_undo 1 = .ok (.invokevirtual 89, 3) := by decide +kernel
theorem dL_undo_4 : decode cL_undo 4 = .ok (.ireturn, 1) := by decide +kernel
theorem dL_undo_5 : decode cL_undo 5 = .ok (.astore_n 1, 1) := by decide +kernel
theorem dL_undo_6 : decode cL_undo 6 = .ok (.bipush (-103), 2) := by decide +kernel
theorem dL_undo_8 : decode cL_undo 8 = .ok (.ireturn, 1) := by decide +kernel
theorem dL_ones_0 : decode cL_ones 0 = .ok (.iconst 0, 1) := by decide +kernel
theorem dL_ones_1 : decode cL_ones 1 = .ok (.istore_n 1, 1) := by decide +kernel
theorem dL_ones_2 : decode cL_ones 2 = .ok (.iload_n 0, 1) := by decide +kernel
theorem dL_ones_3 : decode cL_ones 3 = .ok (.istore_n 2, 1) := by decide +kernel
theorem dL_ones_4 : decode cL_ones 4 = .ok (.iload_n 2, 1) := by decide +kernel
theorem dL_ones_5 : decode cL_ones 5 = .ok (.ifCond .eq 15, 3) := by decide +kernel
theorem dL_ones_8 : decode cL_ones 8 = .ok (.iinc 1 1, 3) := by decide +kernel
theorem dL_ones_11 : decode cL_ones 11 = .ok (.iload_n 2, 1) := by decide +kernel
theorem dL_ones_12 : decode cL_ones 12 = .ok (.iload_n 2, 1) := by decide +kernel
theorem dL_ones_13 : decode cL_ones 13 = .ok (.iconst 1, 1) := by decide +kernel
theorem dL_ones_14 : decode cL_ones 14 = .ok (.isub, 1) := by decide +kernel
theorem dL_ones_15 : decode cL_ones 15 = .ok (.iand, 1) := by decide +kernel
theorem dL_ones_16 : decode cL_ones 16 = .ok (.istore_n 2, 1) := by decide +kernel
theorem dL_ones_17 : decode cL_ones 17 = .ok (.goto (-13), 3) := by decide +kernel
theorem dL_ones_20 : decode cL_ones 20 = .ok (.iload_n 1, 1) := by decide +kernel
theorem dL_ones_21 : decode cL_ones 21 = .ok (.ireturn, 1) := by decide +kernel
theorem dL_newer_0 : decode cL_newer 0 = .ok (.iconst 0, 1) := by decide +kernel
theorem dL_newer_1 : decode cL_newer 1 = .ok (.istore_n 2, 1) := by decide +kernel
theorem dL_newer_2 : decode cL_newer 2 = .ok (.iload_n 1, 1) := by decide +kernel
theorem dL_newer_3 : decode cL_newer 3 = .ok (.istore_n 3, 1) := by decide +kernel
theorem dL_newer_4 : decode cL_newer 4 = .ok (.iload_n 3, 1) := by decide +kernel
theorem dL_newer_5 : decode cL_newer 5 = .ok (.iload_n 0, 1) := by decide +kernel
theorem dL_newer_6 : decode cL_newer 6 = .ok (.if_icmp .eq 23, 3) := by decide +kernel
theorem dL_newer_9 : decode cL_newer 9 = .ok (.iinc 2 1, 3) := by decide +kernel
theorem dL_newer_12 : decode cL_newer 12 = .ok (.iload_n 3, 1) := by decide +kernel
theorem dL_newer_13 : decode cL_newer 13 = .ok (.bipush 15, 2) := by decide +kernel
theorem dL_newer_15 : decode cL_newer 15 = .ok (.if_icmp .ne 7, 3) := by decide +kernel
theorem dL_newer_18 : decode cL_newer 18 = .ok (.iconst 0, 1) := by decide +kernel
theorem dL_newer_19 : decode cL_newer 19 = .ok (.goto 6, 3) := by decide +kernel
theorem dL_newer_22 : decode cL_newer 22 = .ok (.iload_n 3, 1) := by decide +kernel
theorem dL_newer_23 : decode cL_newer 23 = .ok (.iconst 1, 1) := by decide +kernel
theorem dL_newer_24 : decode cL_newer 24 = .ok (.iadd, 1) := by decide +kernel
theorem dL_newer_25 : decode cL_newer 25 = .ok (.istore_n 3, 1) := by decide +kernel
theorem dL_newer_26 : decode cL_newer 26 = .ok (.goto (-22), 3) := by decide +kernel
theorem dL_newer_29 : decode cL_newer 29 = .ok (.iload_n 2, 1) := by decide +kernel
theorem dL_newer_30 : decode cL_newer 30 = .ok (.ifCond .ne 7, 3) := by decide +kernel
theorem dL_newer_33 : decode cL_newer 33 = .ok (.iconst 0, 1) := by decide +kernel
theorem dL_newer_34 : decode cL_newer 34 = .ok (.goto 14, 3) := by decide +kernel
theorem dL_newer_37 : decode cL_newer 37 = .ok (.iload_n 2, 1) := by decide +kernel
theorem dL_newer_38 : decode cL_newer 38 = .ok (.bipush 8, 2) := by decide +kernel
theorem dL_newer_40 : decode cL_newer 40 = .ok (.if_icmp .ge 7, 3) := by decide +kernel
theorem dL_newer_43 : decode cL_newer 43 = .ok (.iconst 1, 1) := by decide +kernel
theorem dL_newer_44 : decode cL_newer 44 = .ok (.goto 4, 3) := by decide +kernel
theorem dL_newer_47 : decode cL_newer 47 = .ok (.iconst (-1), 1) := by decide +kernel
theorem dL_newer_48 : decode cL_newer 48 = .ok (.ireturn, 1) := by decide +kernel
theorem dL_drops_0 : decode cL_drops 0 = .ok (.aload_n 1, 1) := by decide +kernel
theorem dL_drops_1 : decode cL_drops 1 = .ok (.iconst 4, 1) := by decide +kernel
theorem dL_drops_2 : decode cL_drops 2 = .ok (.iaload, 1) := by decide +kernel
theorem dL_drops_3 : decode cL_drops 3 = .ok (.iload_n 0, 1) := by decide +kernel
theorem dL_drops_4 : decode cL_drops 4 = .ok (.if_icmp .le 38, 3) := by decide +kernel
theorem dL_drops_7 : decode cL_drops 7 = .ok (.aload_n 1, 1) := by decide +kernel
theorem dL_drops_8 : decode cL_drops 8 = .ok (.iconst 4, 1) := by decide +kernel
theorem dL_drops_9 : decode cL_drops 9 = .ok (.dup2, 1) := by decide +kernel
theorem dL_drops_10 : decode cL_drops 10 = .ok (.iaload, 1) := by decide +kernel
theorem dL_drops_11 : decode cL_drops 11 = .ok (.iconst 1, 1) := by decide +kernel
theorem dL_drops_12 : decode cL_drops 12 = .ok (.isub, 1) := by decide +kernel
theorem dL_drops_13 : decode cL_drops 13 = .ok (.iastore, 1) := by decide +kernel
theorem dL_drops_14 : decode cL_drops 14 = .ok (.iconst 0, 1) := by decide +kernel
theorem dL_drops_15 : decode cL_drops 15 = .ok (.istore_n 3, 1) := by decide +kernel
theorem dL_drops_16 : decode cL_drops 16 = .ok (.iload_n 3, 1) := by decide +kernel
theorem dL_drops_17 : decode cL_drops 17 = .ok (.iconst 3, 1) := by decide +kernel
theorem dL_drops_18 : decode cL_drops 18 = .ok (.aload_n 1, 1) := by decide +kernel
theorem dL_drops_19 : decode cL_drops 19 = .ok (.iconst 4, 1) := by decide +kernel
theorem dL_drops_20 : decode cL_drops 20 = .ok (.iaload, 1) := by decide +kernel
theorem dL_drops_21 : decode cL_drops 21 = .ok (.imul, 1) := by decide +kernel
theorem dL_drops_22 : decode cL_drops 22 = .ok (.if_icmp .ge 17, 3) := by decide +kernel
theorem dL_drops_25 : decode cL_drops 25 = .ok (.aload_n 2, 1) := by decide +kernel
theorem dL_drops_26 : decode cL_drops 26 = .ok (.iload_n 3, 1) := by decide +kernel
theorem dL_drops_27 : decode cL_drops 27 = .ok (.aload_n 2, 1) := by decide +kernel
theorem dL_drops_28 : decode cL_drops 28 = .ok (.iload_n 3, 1) := by decide +kernel
theorem dL_drops_29 : decode cL_drops 29 = .ok (.iconst 3, 1) := by decide +kernel
theorem dL_drops_30 : decode cL_drops 30 = .ok (.iadd, 1) := by decide +kernel
theorem dL_drops_31 : decode cL_drops 31 = .ok (.iaload, 1) := by decide +kernel
theorem dL_drops_32 : decode cL_drops 32 = .ok (.iastore, 1) := by decide +kernel
theorem dL_drops_33 : decode cL_drops 33 = .ok (.iinc 3 1, 3) := by decide +kernel
theorem dL_drops_36 : decode cL_drops 36 = .ok (.goto (-20), 3) := by decide +kernel
theorem dL_drops_39 : decode cL_drops 39 = .ok (.goto (-39), 3) := by decide +kernel
theorem dL_drops_42 : decode cL_drops 42 = .ok (.return_, 1) := by decide +kernel
theorem dL_notices_0 : decode cL_notices 0 = .ok (.iconst 0, 1) := by decide +kernel
theorem dL_notices_1 : decode cL_notices 1 = .ok (.istore_n 1, 1) := by decide +kernel
theorem dL_notices_2 : decode cL_notices 2 = .ok (.iload_n 1, 1) := by decide +kernel
theorem dL_notices_3 : decode cL_notices 3 = .ok (.iconst 4, 1) := by decide +kernel
theorem dL_notices_4 : decode cL_notices 4 = .ok (.if_icmp .ge 38, 3) := by decide +kernel
theorem dL_notices_7 : decode cL_notices 7 = .ok (.aload_n 0, 1) := by decide +kernel
theorem dL_notices_8 : decode cL_notices 8 = .ok (.iconst 5, 1) := by decide +kernel
theorem dL_notices_9 : decode cL_notices 9 = .ok (.iload_n 1, 1) := by decide +kernel
theorem dL_notices_10 : decode cL_notices 10 = .ok (.imul, 1) := by decide +kernel
theorem dL_notices_11 : decode cL_notices 11 = .ok (.iconst 3, 1) := by decide +kernel
theorem dL_notices_12 : decode cL_notices 12 = .ok (.iadd, 1) := by decide +kernel
theorem dL_notices_13 : decode cL_notices 13 = .ok (.aload_n 0, 1) := by decide +kernel
theorem dL_notices_14 : decode cL_notices 14 = .ok (.iconst 5, 1) := by decide +kernel
theorem dL_notices_15 : decode cL_notices 15 = .ok (.iload_n 1, 1) := by decide +kernel
theorem dL_notices_16 : decode cL_notices 16 = .ok (.imul, 1) := by decide +kernel
theorem dL_notices_17 : decode cL_notices 17 = .ok (.iconst 2, 1) := by decide +kernel
theorem dL_notices_18 : decode cL_notices 18 = .ok (.iadd, 1) := by decide +kernel
theorem dL_notices_19 : decode cL_notices 19 = .ok (.iaload, 1) := by decide +kernel
theorem dL_notices_20 : decode cL_notices 20 = .ok (.iconst 1, 1) := by decide +kernel
theorem dL_notices_21 : decode cL_notices 21 = .ok (.if_icmp .ne 13, 3) := by decide +kernel
theorem dL_notices_24 : decode cL_notices 24 = .ok (.aload_n 0, 1) := by decide +kernel
theorem dL_notices_25 : decode cL_notices 25 = .ok (.iconst 5, 1) := by decide +kernel
theorem dL_notices_26 : decode cL_notices 26 = .ok (.iload_n 1, 1) := by decide +kernel
theorem dL_notices_27 : decode cL_notices 27 = .ok (.imul, 1) := by decide +kernel
theorem dL_notices_28 : decode cL_notices 28 = .ok (.iconst 3, 1) := by decide +kernel
theorem dL_notices_29 : decode cL_notices 29 = .ok (.iadd, 1) := by decide +kernel
theorem dL_notices_30 : decode cL_notices 30 = .ok (.iaload, 1) := by decide +kernel
theorem dL_notices_31 : decode cL_notices 31 = .ok (.goto 4, 3) := by decide +kernel
theorem dL_notices_34 : decode cL_notices 34 = .ok (.iconst 1, 1) := by decide +kernel
theorem dL_notices_35 : decode cL_notices 35 = .ok (.iastore, 1) := by decide +kernel
theorem dL_notices_36 : decode cL_notices 36 = .ok (.iinc 1 1, 3) := by decide +kernel
theorem dL_notices_39 : decode cL_notices 39 = .ok (.goto (-37), 3) := by decide +kernel
theorem dL_notices_42 : decode cL_notices 42 = .ok (.return_, 1) := by decide +kernel
theorem dL_costOf_0 : decode cL_costOf 0 = .ok (.iconst 1, 1) := by decide +kernel
theorem dL_costOf_1 : decode cL_costOf 1 = .ok (.aload_n 1, 1) := by decide +kernel
theorem dL_costOf_2 : decode cL_costOf 2 = .ok (.iconst 3, 1) := by decide +kernel
theorem dL_costOf_3 : decode cL_costOf 3 = .ok (.iload_n 0, 1) := by decide +kernel
theorem dL_costOf_4 : decode cL_costOf 4 = .ok (.imul, 1) := by decide +kernel
theorem dL_costOf_5 : decode cL_costOf 5 = .ok (.iconst 1, 1) := by decide +kernel
theorem dL_costOf_6 : decode cL_costOf 6 = .ok (.iadd, 1) := by decide +kernel
theorem dL_costOf_7 : decode cL_costOf 7 = .ok (.iaload, 1) := by decide +kernel
theorem dL_costOf_8 : decode cL_costOf 8 = .ok (.aload_n 1, 1) := by decide +kernel
theorem dL_costOf_9 : decode cL_costOf 9 = .ok (.iconst 3, 1) := by decide +kernel
theorem dL_costOf_10 : decode cL_costOf 10 = .ok (.iload_n 0, 1) := by decide +kernel
theorem dL_costOf_11 : decode cL_costOf 11 = .ok (.imul, 1) := by decide +kernel
theorem dL_costOf_12 : decode cL_costOf 12 = .ok (.iconst 2, 1) := by decide +kernel
theorem dL_costOf_13 : decode cL_costOf 13 = .ok (.iadd, 1) := by decide +kernel
theorem dL_costOf_14 : decode cL_costOf 14 = .ok (.iaload, 1) := by decide +kernel
theorem dL_costOf_15 : decode cL_costOf 15 = .ok (.ior, 1) := by decide +kernel
theorem dL_costOf_16 : decode cL_costOf 16 = .ok (.invokestatic 92, 3) := by decide +kernel
theorem dL_costOf_19 : decode cL_costOf 19 = .ok (.iadd, 1) := by decide +kernel
theorem dL_costOf_20 : decode cL_costOf 20 = .ok (.ireturn, 1) := by decide +kernel
theorem dL_path_0 : decode cL_path 0 = .ok (.sipush 999, 3) := by decide +kernel
theorem dL_path_3 : decode cL_path 3 = .ok (.istore_n 3, 1) := by decide +kernel
theorem dL_path_4 : decode cL_path 4 = .ok (.iconst 0, 1) := by decide +kernel
theorem dL_path_5 : decode cL_path 5 = .ok (.istore 4, 2) := by decide +kernel
theorem dL_path_7 : decode cL_path 7 = .ok (.iload 4, 2) := by decide +kernel
theorem dL_path_9 : decode cL_path 9 = .ok (.aload_n 1, 1) := by decide +kernel
theorem dL_path_10 : decode cL_path 10 = .ok (.iconst 4, 1) := by decide +kernel
theorem dL_path_11 : decode cL_path 11 = .ok (.iaload, 1) := by decide +kernel
theorem dL_path_12 : decode cL_path 12 = .ok (.if_icmp .ge 45, 3) := by decide +kernel
theorem dL_path_15 : decode cL_path 15 = .ok (.aload_n 2, 1) := by decide +kernel
theorem dL_path_16 : decode cL_path 16 = .ok (.iconst 3, 1) := by decide +kernel
theorem dL_path_17 : decode cL_path 17 = .ok (.iload 4, 2) := by decide +kernel
theorem dL_path_19 : decode cL_path 19 = .ok (.imul, 1) := by decide +kernel
theorem dL_path_20 : decode cL_path 20 = .ok (.iaload, 1) := by decide +kernel
theorem dL_path_21 : decode cL_path 21 = .ok (.iload_n 0, 1) := by decide +kernel
theorem dL_path_22 : decode cL_path 22 = .ok (.if_icmp .ne 7, 3) := by decide +kernel
theorem dL_path_25 : decode cL_path 25 = .ok (.iconst 0, 1) := by decide +kernel
theorem dL_path_26 : decode cL_path 26 = .ok (.goto 4, 3) := by decide +kernel
theorem dL_path_29 : decode cL_path 29 = .ok (.iload_n 3, 1) := by decide +kernel
theorem dL_path_30 : decode cL_path 30 = .ok (.istore_n 3, 1) := by decide +kernel
theorem dL_path_31 : decode cL_path 31 = .ok (.iload_n 3, 1) := by decide +kernel
theorem dL_path_32 : decode cL_path 32 = .ok (.iload_n 3, 1) := by decide +kernel
theorem dL_path_33 : decode cL_path 33 = .ok (.sipush 999, 3) := by decide +kernel
theorem dL_path_36 : decode cL_path 36 = .ok (.if_icmp .ge 12, 3) := by decide +kernel
theorem dL_path_39 : decode cL_path 39 = .ok (.iload 4, 2) := by decide +kernel
theorem dL_path_41 : decode cL_path 41 = .ok (.aload_n 2, 1) := by decide +kernel
theorem dL_path_42 : decode cL_path 42 = .ok (.invokestatic 97, 3) := by decide +kernel
theorem dL_path_45 : decode cL_path 45 = .ok (.goto 4, 3) := by decide +kernel
theorem dL_path_48 : decode cL_path 48 = .ok (.iconst 0, 1) := by decide +kernel
theorem dL_path_49 : decode cL_path 49 = .ok (.iadd, 1) := by decide +kernel
theorem dL_path_50 : decode cL_path 50 = .ok (.istore_n 3, 1) := by decide +kernel
theorem dL_path_51 : decode cL_path 51 = .ok (.iinc 4 1, 3) := by decide +kernel
theorem dL_path_54 : decode cL_path 54 = .ok (.goto (-47), 3) := by decide +kernel
theorem dL_path_57 : decode cL_path 57 = .ok (.iload_n 3, 1) := by decide +kernel
theorem dL_path_58 : decode cL_path 58 = .ok (.ireturn, 1) := by decide +kernel
theorem dL_answers_0 : decode cL_answers 0 = .ok (.aload_n 3, 1) := by decide +kernel
theorem dL_answers_1 : decode cL_answers 1 = .ok (.iconst 5, 1) := by decide +kernel
theorem dL_answers_2 : decode cL_answers 2 = .ok (.iload_n 0, 1) := by decide +kernel
theorem dL_answers_3 : decode cL_answers 3 = .ok (.imul, 1) := by decide +kernel
theorem dL_answers_4 : decode cL_answers 4 = .ok (.iaload, 1) := by decide +kernel
theorem dL_answers_5 : decode cL_answers 5 = .ok (.ifCond .ge 5, 3) := by decide +kernel
theorem dL_answers_8 : decode cL_answers 8 = .ok (.iconst 2, 1) := by decide +kernel
theorem dL_answers_9 : decode cL_answers 9 = .ok (.ireturn, 1) := by decide +kernel
theorem dL_answers_10 : decode cL_answers 10 = .ok (.aload_n 1, 1) := by decide +kernel
theorem dL_answers_11 : decode cL_answers 11 = .ok (.iconst 2, 1) := by decide +kernel
theorem dL_answers_12 : decode cL_answers 12 = .ok (.iaload, 1) := by decide +kernel
theorem dL_answers_13 : decode cL_answers 13 = .ok (.aload_n 3, 1) := by decide +kernel
theorem dL_answers_14 : decode cL_answers 14 = .ok (.iconst 5, 1) := by decide +kernel
theorem dL_answers_15 : decode cL_answers 15 = .ok (.iload_n 0, 1) := by decide +kernel
theorem dL_answers_16 : decode cL_answers 16 = .ok (.imul, 1) := by decide +kernel
theorem dL_answers_17 : decode cL_answers 17 = .ok (.iconst 1, 1) := by decide +kernel
theorem dL_answers_18 : decode cL_answers 18 = .ok (.iadd, 1) := by decide +kernel
theorem dL_answers_19 : decode cL_answers 19 = .ok (.iaload, 1) := by decide +kernel
theorem dL_answers_20 : decode cL_answers 20 = .ok (.invokestatic 101, 3) := by decide +kernel
theorem dL_answers_23 : decode cL_answers 23 = .ok (.istore 4, 2) := by decide +kernel
theorem dL_answers_25 : decode cL_answers 25 = .ok (.iload 4, 2) := by decide +kernel
theorem dL_answers_27 : decode cL_answers 27 = .ok (.ifCond .ne 7, 3) := by decide +kernel
theorem dL_answers_30 : decode cL_answers 30 = .ok (.iconst 0, 1) := by decide +kernel
theorem dL_answers_31 : decode cL_answers 31 = .ok (.goto 40, 3) := by decide +kernel
theorem dL_answers_34 : decode cL_answers 34 = .ok (.iload 4, 2) := by decide +kernel
theorem dL_answers_36 : decode cL_answers 36 = .ok (.ifCond .ge 7, 3) := by decide +kernel
theorem dL_answers_39 : decode cL_answers 39 = .ok (.iconst 3, 1) := by decide +kernel
theorem dL_answers_40 : decode cL_answers 40 = .ok (.goto 31, 3) := by decide +kernel
theorem dL_answers_43 : decode cL_answers 43 = .ok (.aload_n 3, 1) := by decide +kernel
theorem dL_answers_44 : decode cL_answers 44 = .ok (.iconst 5, 1) := by decide +kernel
theorem dL_answers_45 : decode cL_answers 45 = .ok (.iload_n 0, 1) := by decide +kernel
theorem dL_answers_46 : decode cL_answers 46 = .ok (.imul, 1) := by decide +kernel
theorem dL_answers_47 : decode cL_answers 47 = .ok (.iconst 1, 1) := by decide +kernel
theorem dL_answers_48 : decode cL_answers 48 = .ok (.iadd, 1) := by decide +kernel
theorem dL_answers_49 : decode cL_answers 49 = .ok (.iaload, 1) := by decide +kernel
theorem dL_answers_50 : decode cL_answers 50 = .ok (.aload_n 1, 1) := by decide +kernel
theorem dL_answers_51 : decode cL_answers 51 = .ok (.aload_n 2, 1) := by decide +kernel
theorem dL_answers_52 : decode cL_answers 52 = .ok (.invokestatic 104, 3) := by decide +kernel
theorem dL_answers_55 : decode cL_answers 55 = .ok (.iconst 1, 1) := by decide +kernel
theorem dL_answers_56 : decode cL_answers 56 = .ok (.aload_n 1, 1) := by decide +kernel
theorem dL_answers_57 : decode cL_answers 57 = .ok (.iconst 1, 1) := by decide +kernel
theorem dL_answers_58 : decode cL_answers 58 = .ok (.iaload, 1) := by decide +kernel
theorem dL_answers_59 : decode cL_answers 59 = .ok (.invokestatic 92, 3) := by decide +kernel
theorem dL_answers_62 : decode cL_answers 62 = .ok (.iadd, 1) := by decide +kernel
theorem dL_answers_63 : decode cL_answers 63 = .ok (.if_icmp .gt 7, 3) := by decide +kernel
theorem dL_answers_66 : decode cL_answers 66 = .ok (.iconst 1, 1) := by decide +kernel
theorem dL_answers_67 : decode cL_answers 67 = .ok (.goto 4, 3) := by decide +kernel
theorem dL_answers_70 : decode cL_answers 70 = .ok (.iconst 2, 1) := by decide +kernel
theorem dL_answers_71 : decode cL_answers 71 = .ok (.ireturn, 1) := by decide +kernel
theorem dL_costNow_0 : decode cL_costNow 0 = .ok (.iload_n 0, 1) := by decide +kernel
theorem dL_costNow_1 : decode cL_costNow 1 = .ok (.aload_n 1, 1) := by decide +kernel
theorem dL_costNow_2 : decode cL_costNow 2 = .ok (.aload_n 2, 1) := by decide +kernel
theorem dL_costNow_3 : decode cL_costNow 3 = .ok (.aload_n 3, 1) := by decide +kernel
theorem dL_costNow_4 : decode cL_costNow 4 = .ok (.invokestatic 108, 3) := by decide +kernel
theorem dL_costNow_7 : decode cL_costNow 7 = .ok (.istore 4, 2) := by decide +kernel
theorem dL_costNow_9 : decode cL_costNow 9 = .ok (.iload 4, 2) := by decide +kernel
theorem dL_costNow_11 : decode cL_costNow 11 = .ok (.iconst 1, 1) := by decide +kernel
theorem dL_costNow_12 : decode cL_costNow 12 = .ok (.if_icmp .ne 18, 3) := by decide +kernel
theorem dL_costNow_15 : decode cL_costNow 15 = .ok (.aload_n 3, 1) := by decide +kernel
theorem dL_costNow_16 : decode cL_costNow 16 = .ok (.iconst 5, 1) := by decide +kernel
theorem dL_costNow_17 : decode cL_costNow 17 = .ok (.iload_n 0, 1) := by decide +kernel
theorem dL_costNow_18 : decode cL_costNow 18 = .ok (.imul, 1) := by decide +kernel
theorem dL_costNow_19 : decode cL_costNow 19 = .ok (.iconst 1, 1) := by decide +kernel
theorem dL_costNow_20 : decode cL_costNow 20 = .ok (.iadd, 1) := by decide +kernel
theorem dL_costNow_21 : decode cL_costNow 21 = .ok (.iaload, 1) := by decide +kernel
theorem dL_costNow_22 : decode cL_costNow 22 = .ok (.aload_n 1, 1) := by decide +kernel
theorem dL_costNow_23 : decode cL_costNow 23 = .ok (.aload_n 2, 1) := by decide +kernel
theorem dL_costNow_24 : decode cL_costNow 24 = .ok (.invokestatic 104, 3) := by decide +kernel
theorem dL_costNow_27 : decode cL_costNow 27 = .ok (.goto 21, 3) := by decide +kernel
theorem dL_costNow_30 : decode cL_costNow 30 = .ok (.iload 4, 2) := by decide +kernel
theorem dL_costNow_32 : decode cL_costNow 32 = .ok (.iconst 2, 1) := by decide +kernel
theorem dL_costNow_33 : decode cL_costNow 33 = .ok (.if_icmp .ne 14, 3) := by decide +kernel
theorem dL_costNow_36 : decode cL_costNow 36 = .ok (.iconst 1, 1) := by decide +kernel
theorem dL_costNow_37 : decode cL_costNow 37 = .ok (.aload_n 1, 1) := by decide +kernel
theorem dL_costNow_38 : decode cL_costNow 38 = .ok (.iconst 1, 1) := by decide +kernel
theorem dL_costNow_39 : decode cL_costNow 39 = .ok (.iaload, 1) := by decide +kernel
theorem dL_costNow_40 : decode cL_costNow 40 = .ok (.invokestatic 92, 3) := by decide +kernel
theorem dL_costNow_43 : decode cL_costNow 43 = .ok (.iadd, 1) := by decide +kernel
theorem dL_costNow_44 : decode cL_costNow 44 = .ok (.goto 4, 3) := by decide +kernel
theorem dL_costNow_47 : decode cL_costNow 47 = .ok (.iconst 0, 1) := by decide +kernel
theorem dL_costNow_48 : decode cL_costNow 48 = .ok (.ireturn, 1) := by decide +kernel
theorem dL_refreshes_0 : decode cL_refreshes 0 = .ok (.iload_n 0, 1) := by decide +kernel
theorem dL_refreshes_1 : decode cL_refreshes 1 = .ok (.aload_n 1, 1) := by decide +kernel
theorem dL_refreshes_2 : decode cL_refreshes 2 = .ok (.aload_n 2, 1) := by decide +kernel
theorem dL_refreshes_3 : decode cL_refreshes 3 = .ok (.aload_n 3, 1) := by decide +kernel
theorem dL_refreshes_4 : decode cL_refreshes 4 = .ok (.invokestatic 108, 3) := by decide +kernel
theorem dL_refreshes_7 : decode cL_refreshes 7 = .ok (.istore 4, 2) := by decide +kernel
theorem dL_refreshes_9 : decode cL_refreshes 9 = .ok (.iload_n 0, 1) := by decide +kernel
theorem dL_refreshes_10 : decode cL_refreshes 10 = .ok (.aload_n 1, 1) := by decide +kernel
theorem dL_refreshes_11 : decode cL_refreshes 11 = .ok (.aload_n 2, 1) := by decide +kernel
theorem dL_refreshes_12 : decode cL_refreshes 12 = .ok (.aload_n 3, 1) := by decide +kernel
theorem dL_refreshes_13 : decode cL_refreshes 13 = .ok (.invokestatic 112, 3) := by decide +kernel
theorem dL_refreshes_16 : decode cL_refreshes 16 = .ok (.istore 5, 2) := by decide +kernel
theorem dL_refreshes_18 : decode cL_refreshes 18 = .ok (.aload_n 3, 1) := by decide +kernel
theorem dL_refreshes_19 : decode cL_refreshes 19 = .ok (.iconst 5, 1) := by decide +kernel
theorem dL_refreshes_20 : decode cL_refreshes 20 = .ok (.iload_n 0, 1) := by decide +kernel
theorem dL_refreshes_21 : decode cL_refreshes 21 = .ok (.imul, 1) := by decide +kernel
theorem dL_refreshes_22 : decode cL_refreshes 22 = .ok (.iconst 3, 1) := by decide +kernel
theorem dL_refreshes_23 : decode cL_refreshes 23 = .ok (.iadd, 1) := by decide +kernel
theorem dL_refreshes_24 : decode cL_refreshes 24 = .ok (.iconst 0, 1) := by decide +kernel
theorem dL_refreshes_25 : decode cL_refreshes 25 = .ok (.iastore, 1) := by decide +kernel
theorem dL_refreshes_26 : decode cL_refreshes 26 = .ok (.iload 4, 2) := by decide +kernel
theorem dL_refreshes_28 : decode cL_refreshes 28 = .ok (.iconst 1, 1) := by decide +kernel
theorem dL_refreshes_29 : decode cL_refreshes 29 = .ok (.if_icmp .ne 97, 3) := by decide +kernel
theorem dL_refreshes_32 : decode cL_refreshes 32 = .ok (.iconst 0, 1) := by decide +kernel
theorem dL_refreshes_33 : decode cL_refreshes 33 = .ok (.istore 6, 2) := by decide +kernel
theorem dL_refreshes_35 : decode cL_refreshes 35 = .ok (.iconst 0, 1) := by decide +kernel
theorem dL_refreshes_36 : decode cL_refreshes 36 = .ok (.istore 7, 2) := by decide +kernel
theorem dL_refreshes_38 : decode cL_refreshes 38 = .ok (.iload 7, 2) := by decide +kernel
theorem dL_refreshes_40 : decode cL_refreshes 40 = .ok (.aload_n 1, 1) := by decide +kernel
theorem dL_refreshes_41 : decode cL_refreshes 41 = .ok (.iconst 4, 1) := by decide +kernel
theorem dL_refreshes_42 : decode cL_refreshes 42 = .ok (.iaload, 1) := by decide +kernel
theorem dL_refreshes_43 : decode cL_refreshes 43 = .ok (.if_icmp .ge 80, 3) := by decide +kernel
theorem dL_refreshes_46 : decode cL_refreshes 46 = .ok (.iload 6, 2) := by decide +kernel
theorem dL_refreshes_48 : decode cL_refreshes 48 = .ok (.ifCond .ne 19, 3) := by decide +kernel
theorem dL_refreshes_51 : decode cL_refreshes 51 = .ok (.aload_n 2, 1) := by decide +kernel
theorem dL_refreshes_52 : decode cL_refreshes 52 = .ok (.iconst 3, 1) := by decide +kernel
theorem dL_refreshes_53 : decode cL_refreshes 53 = .ok (.iload 7, 2) := by decide +kernel
theorem dL_refreshes_55 : decode cL_refreshes 55 = .ok (.imul, 1) := by decide +kernel
theorem dL_refreshes_56 : decode cL_refreshes 56 = .ok (.iaload, 1) := by decide +kernel
theorem dL_refreshes_57 : decode cL_refreshes 57 = .ok (.aload_n 3, 1) := by decide +kernel
theorem dL_refreshes_58 : decode cL_refreshes 58 = .ok (.iconst 5, 1) := by decide +kernel
theorem dL_refreshes_59 : decode cL_refreshes 59 = .ok (.iload_n 0, 1) := by decide +kernel
theorem dL_refreshes_60 : decode cL_refreshes 60 = .ok (.imul, 1) := by decide +kernel
theorem dL_refreshes_61 : decode cL_refreshes 61 = .ok (.iconst 1, 1) := by decide +kernel
theorem dL_refreshes_62 : decode cL_refreshes 62 = .ok (.iadd, 1) := by decide +kernel
theorem dL_refreshes_63 : decode cL_refreshes 63 = .ok (.iaload, 1) := by decide +kernel
theorem dL_refreshes_64 : decode cL_refreshes 64 = .ok (.if_icmp .ne 7, 3) := by decide +kernel
theorem dL_refreshes_67 : decode cL_refreshes 67 = .ok (.iconst 1, 1) := by decide +kernel
theorem dL_refreshes_68 : decode cL_refreshes 68 = .ok (.goto 4, 3) := by decide +kernel
theorem dL_refreshes_71 : decode cL_refreshes 71 = .ok (.iconst 0, 1) := by decide +kernel
theorem dL_refreshes_72 : decode cL_refreshes 72 = .ok (.istore 6, 2) := by decide +kernel
theorem dL_refreshes_74 : decode cL_refreshes 74 = .ok (.aload_n 3, 1) := by decide +kernel
theorem dL_refreshes_75 : decode cL_refreshes 75 = .ok (.iconst 5, 1) := by decide +kernel
theorem dL_refreshes_76 : decode cL_refreshes 76 = .ok (.iload_n 0, 1) := by decide +kernel
theorem dL_refreshes_77 : decode cL_refreshes 77 = .ok (.imul, 1) := by decide +kernel
theorem dL_refreshes_78 : decode cL_refreshes 78 = .ok (.iload 6, 2) := by decide +kernel
theorem dL_refreshes_80 : decode cL_refreshes 80 = .ok (.ifCond .eq 31, 3) := by decide +kernel
theorem dL_refreshes_83 : decode cL_refreshes 83 = .ok (.aload_n 3, 1) := by decide +kernel
theorem dL_refreshes_84 : decode cL_refreshes 84 = .ok (.iconst 5, 1) := by decide +kernel
theorem dL_refreshes_85 : decode cL_refreshes 85 = .ok (.iload_n 0, 1) := by decide +kernel
theorem dL_refreshes_86 : decode cL_refreshes 86 = .ok (.imul, 1) := by decide +kernel
theorem dL_refreshes_87 : decode cL_refreshes 87 = .ok (.iaload, 1) := by decide +kernel
theorem dL_refreshes_88 : decode cL_refreshes 88 = .ok (.aload_n 2, 1) := by decide +kernel
theorem dL_refreshes_89 : decode cL_refreshes 89 = .ok (.iconst 3, 1) := by decide +kernel
theorem dL_refreshes_90 : decode cL_refreshes 90 = .ok (.iload 7, 2) := by decide +kernel
theorem dL_refreshes_92 : decode cL_refreshes 92 = .ok (.imul, 1) := by decide +kernel
theorem dL_refreshes_93 : decode cL_refreshes 93 = .ok (.iconst 1, 1) := by decide +kernel
theorem dL_refreshes_94 : decode cL_refreshes 94 = .ok (.iadd, 1) := by decide +kernel
theorem dL_refreshes_95 : decode cL_refreshes 95 = .ok (.iaload, 1) := by decide +kernel
theorem dL_refreshes_96 : decode cL_refreshes 96 = .ok (.iconst (-1), 1) := by decide +kernel
theorem dL_refreshes_97 : decode cL_refreshes 97 = .ok (.ixor, 1) := by decide +kernel
theorem dL_refreshes_98 : decode cL_refreshes 98 = .ok (.iand, 1) := by decide +kernel
theorem dL_refreshes_99 : decode cL_refreshes 99 = .ok (.aload_n 2, 1) := by decide +kernel
theorem dL_refreshes_100 : decode cL_refreshes 100 = .ok (.iconst 3, 1) := by decide +kernel
theorem dL_refreshes_101 : decode cL_refreshes 101 = .ok (.iload 7, 2) := by decide +kernel
theorem dL_refreshes_103 : decode cL_refreshes 103 = .ok (.imul, 1) := by decide +kernel
theorem dL_refreshes_104 : decode cL_refreshes 104 = .ok (.iconst 2, 1) := by decide +kernel
theorem dL_refreshes_105 : decode cL_refreshes 105 = .ok (.iadd, 1) := by decide +kernel
theorem dL_refreshes_106 : decode cL_refreshes 106 = .ok (.iaload, 1) := by decide +kernel
theorem dL_refreshes_107 : decode cL_refreshes 107 = .ok (.ior, 1) := by decide +kernel
theorem dL_refreshes_108 : decode cL_refreshes 108 = .ok (.goto 8, 3) := by decide +kernel
theorem dL_refreshes_111 : decode cL_refreshes 111 = .ok (.aload_n 3, 1) := by decide +kernel
theorem dL_refreshes_112 : decode cL_refreshes 112 = .ok (.iconst 5, 1) := by decide +kernel
theorem dL_refreshes_113 : decode cL_refreshes 113 = .ok (.iload_n 0, 1) := by decide +kernel
theorem dL_refreshes_114 : decode cL_refreshes 114 = .ok (.imul, 1) := by decide +kernel
theorem dL_refreshes_115 : decode cL_refreshes 115 = .ok (.iaload, 1) := by decide +kernel
theorem dL_refreshes_116 : decode cL_refreshes 116 = .ok (.iastore, 1) := by decide +kernel
theorem dL_refreshes_117 : decode cL_refreshes 117 = .ok (.iinc 7 1, 3) := by decide +kernel
theorem dL_refreshes_120 : decode cL_refreshes 120 = .ok (.goto (-82), 3) := by decide +kernel
theorem dL_refreshes_123 : decode cL_refreshes 123 = .ok (.goto 17, 3) := by decide +kernel
theorem dL_refreshes_126 : decode cL_refreshes 126 = .ok (.iload 4, 2) := by decide +kernel
theorem dL_refreshes_128 : decode cL_refreshes 128 = .ok (.iconst 2, 1) := by decide +kernel
theorem dL_refreshes_129 : decode cL_refreshes 129 = .ok (.if_icmp .ne 11, 3) := by decide +kernel
theorem dL_refreshes_132 : decode cL_refreshes 132 = .ok (.aload_n 3, 1) := by decide +kernel
theorem dL_refreshes_133 : decode cL_refreshes 133 = .ok (.iconst 5, 1) := by decide +kernel
theorem dL_refreshes_134 : decode cL_refreshes 134 = .ok (.iload_n 0, 1) := by decide +kernel
theorem dL_refreshes_135 : decode cL_refreshes 135 = .ok (.imul, 1) := by decide +kernel
theorem dL_refreshes_136 : decode cL_refreshes 136 = .ok (.aload_n 1, 1) := by decide +kernel
theorem dL_refreshes_137 : decode cL_refreshes 137 = .ok (.iconst 1, 1) := by decide +kernel
theorem dL_refreshes_138 : decode cL_refreshes 138 = .ok (.iaload, 1) := by decide +kernel
theorem dL_refreshes_139 : decode cL_refreshes 139 = .ok (.iastore, 1) := by decide +kernel
theorem dL_refreshes_140 : decode cL_refreshes 140 = .ok (.iload 4, 2) := by decide +kernel
theorem dL_refreshes_142 : decode cL_refreshes 142 = .ok (.iconst 1, 1) := by decide +kernel
theorem dL_refreshes_143 : decode cL_refreshes 143 = .ok (.if_icmp .eq 9, 3) := by decide +kernel
theorem dL_refreshes_146 : decode cL_refreshes 146 = .ok (.iload 4, 2) := by decide +kernel
theorem dL_refreshes_148 : decode cL_refreshes 148 = .ok (.iconst 2, 1) := by decide +kernel
theorem dL_refreshes_149 : decode cL_refreshes 149 = .ok (.if_icmp .ne 39, 3) := by decide +kernel
theorem dL_refreshes_152 : decode cL_refreshes 152 = .ok (.aload_n 3, 1) := by decide +kernel
theorem dL_refreshes_153 : decode cL_refreshes 153 = .ok (.iconst 5, 1) := by decide +kernel
theorem dL_refreshes_154 : decode cL_refreshes 154 = .ok (.iload_n 0, 1) := by decide +kernel
theorem dL_refreshes_155 : decode cL_refreshes 155 = .ok (.imul, 1) := by decide +kernel
theorem dL_refreshes_156 : decode cL_refreshes 156 = .ok (.iconst 1, 1) := by decide +kernel
theorem dL_refreshes_157 : decode cL_refreshes 157 = .ok (.iadd, 1) := by decide +kernel
theorem dL_refreshes_158 : decode cL_refreshes 158 = .ok (.aload_n 1, 1) := by decide +kernel
theorem dL_refreshes_159 : decode cL_refreshes 159 = .ok (.iconst 2, 1) := by decide +kernel
theorem dL_refreshes_160 : decode cL_refreshes 160 = .ok (.iaload, 1) := by decide +kernel
theorem dL_refreshes_161 : decode cL_refreshes 161 = .ok (.iastore, 1) := by decide +kernel
theorem dL_refreshes_162 : decode cL_refreshes 162 = .ok (.aload_n 3, 1) := by decide +kernel
theorem dL_refreshes_163 : decode cL_refreshes 163 = .ok (.iconst 5, 1) := by decide +kernel
theorem dL_refreshes_164 : decode cL_refreshes 164 = .ok (.iload_n 0, 1) := by decide +kernel
theorem dL_refreshes_165 : decode cL_refreshes 165 = .ok (.imul, 1) := by decide +kernel
theorem dL_refreshes_166 : decode cL_refreshes 166 = .ok (.iconst 4, 1) := by decide +kernel
theorem dL_refreshes_167 : decode cL_refreshes 167 = .ok (.iadd, 1) := by decide +kernel
theorem dL_refreshes_168 : decode cL_refreshes 168 = .ok (.dup2, 1) := by decide +kernel
theorem dL_refreshes_169 : decode cL_refreshes 169 = .ok (.iaload, 1) := by decide +kernel
theorem dL_refreshes_170 : decode cL_refreshes 170 = .ok (.iload 5, 2) := by decide +kernel
theorem dL_refreshes_172 : decode cL_refreshes 172 = .ok (.iadd, 1) := by decide +kernel
theorem dL_refreshes_173 : decode cL_refreshes 173 = .ok (.iastore, 1) := by decide +kernel
theorem dL_refreshes_174 : decode cL_refreshes 174 = .ok (.aload_n 1, 1) := by decide +kernel
theorem dL_refreshes_175 : decode cL_refreshes 175 = .ok (.iconst 5, 1) := by decide +kernel
theorem dL_refreshes_176 : decode cL_refreshes 176 = .ok (.dup2, 1) := by decide +kernel
theorem dL_refreshes_177 : decode cL_refreshes 177 = .ok (.iaload, 1) := by decide +kernel
theorem dL_refreshes_178 : decode cL_refreshes 178 = .ok (.iconst 1, 1) := by decide +kernel
theorem dL_refreshes_179 : decode cL_refreshes 179 = .ok (.aload_n 1, 1) := by decide +kernel
theorem dL_refreshes_180 : decode cL_refreshes 180 = .ok (.iconst 1, 1) := by decide +kernel
theorem dL_refreshes_181 : decode cL_refreshes 181 = .ok (.iaload, 1) := by decide +kernel
theorem dL_refreshes_182 : decode cL_refreshes 182 = .ok (.invokestatic 92, 3) := by decide +kernel
theorem dL_refreshes_185 : decode cL_refreshes 185 = .ok (.iadd, 1) := by decide +kernel
theorem dL_refreshes_186 : decode cL_refreshes 186 = .ok (.iadd, 1) := by decide +kernel
theorem dL_refreshes_187 : decode cL_refreshes 187 = .ok (.iastore, 1) := by decide +kernel
theorem dL_refreshes_188 : decode cL_refreshes 188 = .ok (.iload 4, 2) := by decide +kernel
theorem dL_refreshes_190 : decode cL_refreshes 190 = .ok (.ireturn, 1) := by decide +kernel
theorem dL_asleep_0 : decode cL_asleep 0 = .ok (.aload_n 0, 1) := by decide +kernel
theorem dL_asleep_1 : decode cL_asleep 1 = .ok (.iconst 2, 1) := by decide +kernel
theorem dL_asleep_2 : decode cL_asleep 2 = .ok (.iaload, 1) := by decide +kernel
theorem dL_asleep_3 : decode cL_asleep 3 = .ok (.aload_n 0, 1) := by decide +kernel
theorem dL_asleep_4 : decode cL_asleep 4 = .ok (.bipush 7, 2) := by decide +kernel
theorem dL_asleep_6 : decode cL_asleep 6 = .ok (.iaload, 1) := by decide +kernel
theorem dL_asleep_7 : decode cL_asleep 7 = .ok (.iadd, 1) := by decide +kernel
theorem dL_asleep_8 : decode cL_asleep 8 = .ok (.aload_n 0, 1) := by decide +kernel
theorem dL_asleep_9 : decode cL_asleep 9 = .ok (.bipush 12, 2) := by decide +kernel
theorem dL_asleep_11 : decode cL_asleep 11 = .ok (.iaload, 1) := by decide +kernel
theorem dL_asleep_12 : decode cL_asleep 12 = .ok (.iadd, 1) := by decide +kernel
theorem dL_asleep_13 : decode cL_asleep 13 = .ok (.aload_n 0, 1) := by decide +kernel
theorem dL_asleep_14 : decode cL_asleep 14 = .ok (.bipush 17, 2) := by decide +kernel
theorem dL_asleep_16 : decode cL_asleep 16 = .ok (.iaload, 1) := by decide +kernel
theorem dL_asleep_17 : decode cL_asleep 17 = .ok (.iadd, 1) := by decide +kernel
theorem dL_asleep_18 : decode cL_asleep 18 = .ok (.ireturn, 1) := by decide +kernel
theorem dL_call_0 : decode cL_call 0 = .ok (.iload_n 1, 1) := by decide +kernel
theorem dL_call_1 : decode cL_call 1 = .ok (.tableswitch 103 0 8 #[51, 57, 63, 68, 74, 79, 85, 91, 97], 51) := by decide +kernel
theorem dL_call_52 : decode cL_call 52 = .ok (.aload_n 0, 1) := by decide +kernel
theorem dL_call_53 : decode cL_call 53 = .ok (.iload_n 2, 1) := by decide +kernel
theorem dL_call_54 : decode cL_call 54 = .ok (.invokestatic 115, 3) := by decide +kernel
theorem dL_call_57 : decode cL_call 57 = .ok (.ireturn, 1) := by decide +kernel
theorem dL_call_58 : decode cL_call 58 = .ok (.aload_n 0, 1) := by decide +kernel
theorem dL_call_59 : decode cL_call 59 = .ok (.iload_n 2, 1) := by decide +kernel
theorem dL_call_60 : decode cL_call 60 = .ok (.invokestatic 118, 3) := by decide +kernel
theorem dL_call_63 : decode cL_call 63 = .ok (.ireturn, 1) := by decide +kernel
theorem dL_call_64 : decode cL_call 64 = .ok (.aload_n 0, 1) := by decide +kernel
theorem dL_call_65 : decode cL_call 65 = .ok (.invokestatic 120, 3) := by decide +kernel
theorem dL_call_68 : decode cL_call 68 = .ok (.ireturn, 1) := by decide +kernel
theorem dL_call_69 : decode cL_call 69 = .ok (.aload_n 0, 1) := by decide +kernel
theorem dL_call_70 : decode cL_call 70 = .ok (.iload_n 2, 1) := by decide +kernel
theorem dL_call_71 : decode cL_call 71 = .ok (.invokestatic 123, 3) := by decide +kernel
theorem dL_call_74 : decode cL_call 74 = .ok (.ireturn, 1) := by decide +kernel
theorem dL_call_75 : decode cL_call 75 = .ok (.aload_n 0, 1) := by decide +kernel
theorem dL_call_76 : decode cL_call 76 = .ok (.invokevirtual 125, 3) := by decide +kernel
theorem dL_call_79 : decode cL_call 79 = .ok (.ireturn, 1) := by decide +kernel
theorem dL_call_80 : decode cL_call 80 = .ok (.aload_n 0, 1) := by decide +kernel
theorem dL_call_81 : decode cL_call 81 = .ok (.iload_n 2, 1) := by decide +kernel
theorem dL_call_82 : decode cL_call 82 = .ok (.invokestatic 128, 3) := by decide +kernel
theorem dL_call_85 : decode cL_call 85 = .ok (.ireturn, 1) := by decide +kernel
theorem dL_call_86 : decode cL_call 86 = .ok (.aload_n 0, 1) := by decide +kernel
theorem dL_call_87 : decode cL_call 87 = .ok (.iload_n 2, 1) := by decide +kernel
theorem dL_call_88 : decode cL_call 88 = .ok (.invokestatic 130, 3) := by decide +kernel
theorem dL_call_91 : decode cL_call 91 = .ok (.ireturn, 1) := by decide +kernel
theorem dL_call_92 : decode cL_call 92 = .ok (.aload_n 0, 1) := by decide +kernel
theorem dL_call_93 : decode cL_call 93 = .ok (.iload_n 2, 1) := by decide +kernel
theorem dL_call_94 : decode cL_call 94 = .ok (.invokestatic 132, 3) := by decide +kernel
theorem dL_call_97 : decode cL_call 97 = .ok (.ireturn, 1) := by decide +kernel
theorem dL_call_98 : decode cL_call 98 = .ok (.aload_n 0, 1) := by decide +kernel
theorem dL_call_99 : decode cL_call 99 = .ok (.iload_n 2, 1) := by decide +kernel
theorem dL_call_100 : decode cL_call 100 = .ok (.invokestatic 134, 3) := by decide +kernel
theorem dL_call_103 : decode cL_call 103 = .ok (.ireturn, 1) := by decide +kernel
theorem dL_call_104 : decode cL_call 104 = .ok (.aload_n 0, 1) := by decide +kernel
theorem dL_call_105 : decode cL_call 105 = .ok (.iload_n 2, 1) := by decide +kernel
theorem dL_call_106 : decode cL_call 106 = .ok (.invokestatic 136, 3) := by decide +kernel
theorem dL_call_109 : decode cL_call 109 = .ok (.ireturn, 1) := by decide +kernel
theorem dL_ofPrinter_0 : decode cL_ofPrinter 0 = .ok (.iload_n 0, 1) := by decide +kernel
theorem dL_ofPrinter_1 : decode cL_ofPrinter 1 = .ok (.iconst 2, 1) := by decide +kernel
theorem dL_ofPrinter_2 : decode cL_ofPrinter 2 = .ok (.if_icmp .ge 33, 3) := by decide +kernel
theorem dL_ofPrinter_5 : decode cL_ofPrinter 5 = .ok (.aload_n 2, 1) := by decide +kernel
theorem dL_ofPrinter_6 : decode cL_ofPrinter 6 = .ok (.iconst 0, 1) := by decide +kernel
theorem dL_ofPrinter_7 : decode cL_ofPrinter 7 = .ok (.iaload, 1) := by decide +kernel
theorem dL_ofPrinter_8 : decode cL_ofPrinter 8 = .ok (.iload_n 1, 1) := by decide +kernel
theorem dL_ofPrinter_9 : decode cL_ofPrinter 9 = .ok (.ishr, 1) := by decide +kernel
theorem dL_ofPrinter_10 : decode cL_ofPrinter 10 = .ok (.iconst 1, 1) := by decide +kernel
theorem dL_ofPrinter_11 : decode cL_ofPrinter 11 = .ok (.iand, 1) := by decide +kernel
theorem dL_ofPrinter_12 : decode cL_ofPrinter 12 = .ok (.iload_n 0, 1) := by decide +kernel
theorem dL_ofPrinter_13 : decode cL_ofPrinter 13 = .ok (.if_icmp .eq 6, 3) := by decide +kernel
theorem dL_ofPrinter_16 : decode cL_ofPrinter 16 = .ok (.bipush (-103), 2) := by decide +kernel
theorem dL_ofPrinter_18 : decode cL_ofPrinter 18 = .ok (.ireturn, 1) := by decide +kernel
theorem dL_ofPrinter_19 : decode cL_ofPrinter 19 = .ok (.aload_n 2, 1) := by decide +kernel
theorem dL_ofPrinter_20 : decode cL_ofPrinter 20 = .ok (.iconst 0, 1) := by decide +kernel
theorem dL_ofPrinter_21 : decode cL_ofPrinter 21 = .ok (.dup2, 1) := by decide +kernel
theorem dL_ofPrinter_22 : decode cL_ofPrinter 22 = .ok (.iaload, 1) := by decide +kernel
theorem dL_ofPrinter_23 : decode cL_ofPrinter 23 = .ok (.iconst 1, 1) := by decide +kernel
theorem dL_ofPrinter_24 : decode cL_ofPrinter 24 = .ok (.iload_n 1, 1) := by decide +kernel
theorem dL_ofPrinter_25 : decode cL_ofPrinter 25 = .ok (.ishl, 1) := by decide +kernel
theorem dL_ofPrinter_26 : decode cL_ofPrinter 26 = .ok (.ixor, 1) := by decide +kernel
theorem dL_ofPrinter_27 : decode cL_ofPrinter 27 = .ok (.iastore, 1) := by decide +kernel
theorem dL_ofPrinter_28 : decode cL_ofPrinter 28 = .ok (.aload_n 2, 1) := by decide +kernel
theorem dL_ofPrinter_29 : decode cL_ofPrinter 29 = .ok (.iconst 0, 1) := by decide +kernel
theorem dL_ofPrinter_30 : decode cL_ofPrinter 30 = .ok (.iaload, 1) := by decide +kernel
theorem dL_ofPrinter_31 : decode cL_ofPrinter 31 = .ok (.invokestatic 92, 3) := by decide +kernel
theorem dL_ofPrinter_34 : decode cL_ofPrinter 34 = .ok (.ireturn, 1) := by decide +kernel
theorem dL_ofPrinter_35 : decode cL_ofPrinter 35 = .ok (.iload_n 0, 1) := by decide +kernel
theorem dL_ofPrinter_36 : decode cL_ofPrinter 36 = .ok (.iconst 2, 1) := by decide +kernel
theorem dL_ofPrinter_37 : decode cL_ofPrinter 37 = .ok (.if_icmp .ne 113, 3) := by decide +kernel
theorem dL_ofPrinter_40 : decode cL_ofPrinter 40 = .ok (.aload_n 2, 1) := by decide +kernel
theorem dL_ofPrinter_41 : decode cL_ofPrinter 41 = .ok (.iconst 0, 1) := by decide +kernel
theorem dL_ofPrinter_42 : decode cL_ofPrinter 42 = .ok (.iaload, 1) := by decide +kernel
theorem dL_ofPrinter_43 : decode cL_ofPrinter 43 = .ok (.aload_n 2, 1) := by decide +kernel
theorem dL_ofPrinter_44 : decode cL_ofPrinter 44 = .ok (.iconst 1, 1) := by decide +kernel
theorem dL_ofPrinter_45 : decode cL_ofPrinter 45 = .ok (.iaload, 1) := by decide +kernel
theorem dL_ofPrinter_46 : decode cL_ofPrinter 46 = .ok (.if_icmp .ne 6, 3) := by decide +kernel
theorem dL_ofPrinter_49 : decode cL_ofPrinter 49 = .ok (.bipush (-103), 2) := by decide +kernel
theorem dL_ofPrinter_51 : decode cL_ofPrinter 51 = .ok (.ireturn, 1) := by decide +kernel
theorem dL_ofPrinter_52 : decode cL_ofPrinter 52 = .ok (.aload_n 2, 1) := by decide +kernel
theorem dL_ofPrinter_53 : decode cL_ofPrinter 53 = .ok (.iconst 3, 1) := by decide +kernel
theorem dL_ofPrinter_54 : decode cL_ofPrinter 54 = .ok (.iaload, 1) := by decide +kernel
theorem dL_ofPrinter_55 : decode cL_ofPrinter 55 = .ok (.iconst 1, 1) := by decide +kernel
theorem dL_ofPrinter_56 : decode cL_ofPrinter 56 = .ok (.isub, 1) := by decide +kernel
theorem dL_ofPrinter_57 : decode cL_ofPrinter 57 = .ok (.aload_n 2, 1) := by decide +kernel
theorem dL_ofPrinter_58 : decode cL_ofPrinter 58 = .ok (.aload_n 3, 1) := by decide +kernel
theorem dL_ofPrinter_59 : decode cL_ofPrinter 59 = .ok (.invokestatic 138, 3) := by decide +kernel
theorem dL_ofPrinter_62 : decode cL_ofPrinter 62 = .ok (.aload_n 3, 1) := by decide +kernel
theorem dL_ofPrinter_63 : decode cL_ofPrinter 63 = .ok (.iconst 3, 1) := by decide +kernel
theorem dL_ofPrinter_64 : decode cL_ofPrinter 64 = .ok (.aload_n 2, 1) := by decide +kernel
theorem dL_ofPrinter_65 : decode cL_ofPrinter 65 = .ok (.iconst 4, 1) := by decide +kernel
theorem dL_ofPrinter_66 : decode cL_ofPrinter 66 = .ok (.iaload, 1) := by decide +kernel
theorem dL_ofPrinter_67 : decode cL_ofPrinter 67 = .ok (.imul, 1) := by decide +kernel
theorem dL_ofPrinter_68 : decode cL_ofPrinter 68 = .ok (.aload_n 2, 1) := by decide +kernel
theorem dL_ofPrinter_69 : decode cL_ofPrinter 69 = .ok (.iconst 2, 1) := by decide +kernel
theorem dL_ofPrinter_70 : decode cL_ofPrinter 70 = .ok (.iaload, 1) := by decide +kernel
theorem dL_ofPrinter_71 : decode cL_ofPrinter 71 = .ok (.iastore, 1) := by decide +kernel
theorem dL_ofPrinter_72 : decode cL_ofPrinter 72 = .ok (.aload_n 3, 1) := by decide +kernel
theorem dL_ofPrinter_73 : decode cL_ofPrinter 73 = .ok (.iconst 3, 1) := by decide +kernel
theorem dL_ofPrinter_74 : decode cL_ofPrinter 74 = .ok (.aload_n 2, 1) := by decide +kernel
theorem dL_ofPrinter_75 : decode cL_ofPrinter 75 = .ok (.iconst 4, 1) := by decide +kernel
theorem dL_ofPrinter_76 : decode cL_ofPrinter 76 = .ok (.iaload, 1) := by decide +kernel
theorem dL_ofPrinter_77 : decode cL_ofPrinter 77 = .ok (.imul, 1) := by decide +kernel
theorem dL_ofPrinter_78 : decode cL_ofPrinter 78 = .ok (.iconst 1, 1) := by decide +kernel
theorem dL_ofPrinter_79 : decode cL_ofPrinter 79 = .ok (.iadd, 1) := by decide +kernel
theorem dL_ofPrinter_80 : decode cL_ofPrinter 80 = .ok (.aload_n 2, 1) := by decide +kernel
theorem dL_ofPrinter_81 : decode cL_ofPrinter 81 = .ok (.iconst 1, 1) := by decide +kernel
theorem dL_ofPrinter_82 : decode cL_ofPrinter 82 = .ok (.iaload, 1) := by decide +kernel
theorem dL_ofPrinter_83 : decode cL_ofPrinter 83 = .ok (.aload_n 2, 1) := by decide +kernel
theorem dL_ofPrinter_84 : decode cL_ofPrinter 84 = .ok (.iconst 0, 1) := by decide +kernel
theorem dL_ofPrinter_85 : decode cL_ofPrinter 85 = .ok (.iaload, 1) := by decide +kernel
theorem dL_ofPrinter_86 : decode cL_ofPrinter 86 = .ok (.iconst (-1), 1) := by decide +kernel
theorem dL_ofPrinter_87 : decode cL_ofPrinter 87 = .ok (.ixor, 1) := by decide +kernel
theorem dL_ofPrinter_88 : decode cL_ofPrinter 88 = .ok (.iand, 1) := by decide +kernel
theorem dL_ofPrinter_89 : decode cL_ofPrinter 89 = .ok (.iastore, 1) := by decide +kernel
theorem dL_ofPrinter_90 : decode cL_ofPrinter 90 = .ok (.aload_n 3, 1) := by decide +kernel
theorem dL_ofPrinter_91 : decode cL_ofPrinter 91 = .ok (.iconst 3, 1) := by decide +kernel
theorem dL_ofPrinter_92 : decode cL_ofPrinter 92 = .ok (.aload_n 2, 1) := by decide +kernel
theorem dL_ofPrinter_93 : decode cL_ofPrinter 93 = .ok (.iconst 4, 1) := by decide +kernel
theorem dL_ofPrinter_94 : decode cL_ofPrinter 94 = .ok (.iaload, 1) := by decide +kernel
theorem dL_ofPrinter_95 : decode cL_ofPrinter 95 = .ok (.imul, 1) := by decide +kernel
theorem dL_ofPrinter_96 : decode cL_ofPrinter 96 = .ok (.iconst 2, 1) := by decide +kernel
theorem dL_ofPrinter_97 : decode cL_ofPrinter 97 = .ok (.iadd, 1) := by decide +kernel
theorem dL_ofPrinter_98 : decode cL_ofPrinter 98 = .ok (.aload_n 2, 1) := by decide +kernel
theorem dL_ofPrinter_99 : decode cL_ofPrinter 99 = .ok (.iconst 0, 1) := by decide +kernel
theorem dL_ofPrinter_100 : decode cL_ofPrinter 100 = .ok (.iaload, 1) := by decide +kernel
theorem dL_ofPrinter_101 : decode cL_ofPrinter 101 = .ok (.aload_n 2, 1) := by decide +kernel
theorem dL_ofPrinter_102 : decode cL_ofPrinter 102 = .ok (.iconst 1, 1) := by decide +kernel
theorem dL_ofPrinter_103 : decode cL_ofPrinter 103 = .ok (.iaload, 1) := by decide +kernel
theorem dL_ofPrinter_104 : decode cL_ofPrinter 104 = .ok (.iconst (-1), 1) := by decide +kernel
theorem dL_ofPrinter_105 : decode cL_ofPrinter 105 = .ok (.ixor, 1) := by decide +kernel
theorem dL_ofPrinter_106 : decode cL_ofPrinter 106 = .ok (.iand, 1) := by decide +kernel
theorem dL_ofPrinter_107 : decode cL_ofPrinter 107 = .ok (.iastore, 1) := by decide +kernel
theorem dL_ofPrinter_108 : decode cL_ofPrinter 108 = .ok (.aload_n 2, 1) := by decide +kernel
theorem dL_ofPrinter_109 : decode cL_ofPrinter 109 = .ok (.iconst 4, 1) := by decide +kernel
theorem dL_ofPrinter_110 : decode cL_ofPrinter 110 = .ok (.dup2, 1) := by decide +kernel
theorem dL_ofPrinter_111 : decode cL_ofPrinter 111 = .ok (.iaload, 1) := by decide +kernel
theorem dL_ofPrinter_112 : decode cL_ofPrinter 112 = .ok (.iconst 1, 1) := by decide +kernel
theorem dL_ofPrinter_113 : decode cL_ofPrinter 113 = .ok (.iadd, 1) := by decide +kernel
theorem dL_ofPrinter_114 : decode cL_ofPrinter 114 = .ok (.iastore, 1) := by decide +kernel
theorem dL_ofPrinter_115 : decode cL_ofPrinter 115 = .ok (.aload_n 2, 1) := by decide +kernel
theorem dL_ofPrinter_116 : decode cL_ofPrinter 116 = .ok (.iconst 1, 1) := by decide +kernel
theorem dL_ofPrinter_117 : decode cL_ofPrinter 117 = .ok (.aload_n 2, 1) := by decide +kernel
theorem dL_ofPrinter_118 : decode cL_ofPrinter 118 = .ok (.iconst 0, 1) := by decide +kernel
theorem dL_ofPrinter_119 : decode cL_ofPrinter 119 = .ok (.iaload, 1) := by decide +kernel
theorem dL_ofPrinter_120 : decode cL_ofPrinter 120 = .ok (.iastore, 1) := by decide +kernel
theorem dL_ofPrinter_121 : decode cL_ofPrinter 121 = .ok (.aload_n 2, 1) := by decide +kernel
theorem dL_ofPrinter_122 : decode cL_ofPrinter 122 = .ok (.iconst 2, 1) := by decide +kernel
theorem dL_ofPrinter_123 : decode cL_ofPrinter 123 = .ok (.aload_n 2, 1) := by decide +kernel
theorem dL_ofPrinter_124 : decode cL_ofPrinter 124 = .ok (.iconst 2, 1) := by decide +kernel
theorem dL_ofPrinter_125 : decode cL_ofPrinter 125 = .ok (.iaload, 1) := by decide +kernel
theorem dL_ofPrinter_126 : decode cL_ofPrinter 126 = .ok (.bipush 15, 2) := by decide +kernel
theorem dL_ofPrinter_128 : decode cL_ofPrinter 128 = .ok (.if_icmp .ne 7, 3) := by decide +kernel
theorem dL_ofPrinter_131 : decode cL_ofPrinter 131 = .ok (.iconst 0, 1) := by decide +kernel
theorem dL_ofPrinter_132 : decode cL_ofPrinter 132 = .ok (.goto 8, 3) := by decide +kernel
theorem dL_ofPrinter_135 : decode cL_ofPrinter 135 = .ok (.aload_n 2, 1) := by decide +kernel
theorem dL_ofPrinter_136 : decode cL_ofPrinter 136 = .ok (.iconst 2, 1) := by decide +kernel
theorem dL_ofPrinter_137 : decode cL_ofPrinter 137 = .ok (.iaload, 1) := by decide +kernel
theorem dL_ofPrinter_138 : decode cL_ofPrinter 138 = .ok (.iconst 1, 1) := by decide +kernel
theorem dL_ofPrinter_139 : decode cL_ofPrinter 139 = .ok (.iadd, 1) := by decide +kernel
theorem dL_ofPrinter_140 : decode cL_ofPrinter 140 = .ok (.iastore, 1) := by decide +kernel
theorem dL_ofPrinter_141 : decode cL_ofPrinter 141 = .ok (.aload 4, 2) := by decide +kernel
theorem dL_ofPrinter_143 : decode cL_ofPrinter 143 = .ok (.invokestatic 142, 3) := by decide +kernel
theorem dL_ofPrinter_146 : decode cL_ofPrinter 146 = .ok (.aload_n 2, 1) := by decide +kernel
theorem dL_ofPrinter_147 : decode cL_ofPrinter 147 = .ok (.iconst 2, 1) := by decide +kernel
theorem dL_ofPrinter_148 : decode cL_ofPrinter 148 = .ok (.iaload, 1) := by decide +kernel
theorem dL_ofPrinter_149 : decode cL_ofPrinter 149 = .ok (.ireturn, 1) := by decide +kernel
theorem dL_ofPrinter_150 : decode cL_ofPrinter 150 = .ok (.iload_n 0, 1) := by decide +kernel
theorem dL_ofPrinter_151 : decode cL_ofPrinter 151 = .ok (.bipush 8, 2) := by decide +kernel
theorem dL_ofPrinter_153 : decode cL_ofPrinter 153 = .ok (.if_icmp .ne 17, 3) := by decide +kernel
theorem dL_ofPrinter_156 : decode cL_ofPrinter 156 = .ok (.aload_n 2, 1) := by decide +kernel
theorem dL_ofPrinter_157 : decode cL_ofPrinter 157 = .ok (.iconst 3, 1) := by decide +kernel
theorem dL_ofPrinter_158 : decode cL_ofPrinter 158 = .ok (.iload_n 1, 1) := by decide +kernel
theorem dL_ofPrinter_159 : decode cL_ofPrinter 159 = .ok (.iastore, 1) := by decide +kernel
theorem dL_ofPrinter_160 : decode cL_ofPrinter 160 = .ok (.iload_n 1, 1) := by decide +kernel
theorem dL_ofPrinter_161 : decode cL_ofPrinter 161 = .ok (.aload_n 2, 1) := by decide +kernel
theorem dL_ofPrinter_162 : decode cL_ofPrinter 162 = .ok (.aload_n 3, 1) := by decide +kernel
theorem dL_ofPrinter_163 : decode cL_ofPrinter 163 = .ok (.invokestatic 138, 3) := by decide +kernel
theorem dL_ofPrinter_166 : decode cL_ofPrinter 166 = .ok (.aload_n 2, 1) := by decide +kernel
theorem dL_ofPrinter_167 : decode cL_ofPrinter 167 = .ok (.iconst 4, 1) := by decide +kernel
theorem dL_ofPrinter_168 : decode cL_ofPrinter 168 = .ok (.iaload, 1) := by decide +kernel
theorem dL_ofPrinter_169 : decode cL_ofPrinter 169 = .ok (.ireturn, 1) := by decide +kernel
theorem dL_ofPrinter_170 : decode cL_ofPrinter 170 = .ok (.aload_n 2, 1) := by decide +kernel
theorem dL_ofPrinter_171 : decode cL_ofPrinter 171 = .ok (.iconst 2, 1) := by decide +kernel
theorem dL_ofPrinter_172 : decode cL_ofPrinter 172 = .ok (.iaload, 1) := by decide +kernel
theorem dL_ofPrinter_173 : decode cL_ofPrinter 173 = .ok (.istore 5, 2) := by decide +kernel
theorem dL_ofPrinter_175 : decode cL_ofPrinter 175 = .ok (.iload 5, 2) := by decide +kernel
theorem dL_ofPrinter_177 : decode cL_ofPrinter 177 = .ok (.iload_n 1, 1) := by decide +kernel
theorem dL_ofPrinter_178 : decode cL_ofPrinter 178 = .ok (.if_icmp .ne 6, 3) := by decide +kernel
theorem dL_ofPrinter_181 : decode cL_ofPrinter 181 = .ok (.bipush (-102), 2) := by decide +kernel
theorem dL_ofPrinter_183 : decode cL_ofPrinter 183 = .ok (.ireturn, 1) := by decide +kernel
theorem dL_ofPrinter_184 : decode cL_ofPrinter 184 = .ok (.aload_n 2, 1) := by decide +kernel
theorem dL_ofPrinter_185 : decode cL_ofPrinter 185 = .ok (.iconst 2, 1) := by decide +kernel
theorem dL_ofPrinter_186 : decode cL_ofPrinter 186 = .ok (.iload_n 1, 1) := by decide +kernel
theorem dL_ofPrinter_187 : decode cL_ofPrinter 187 = .ok (.iastore, 1) := by decide +kernel
theorem dL_ofPrinter_188 : decode cL_ofPrinter 188 = .ok (.aload_n 2, 1) := by decide +kernel
theorem dL_ofPrinter_189 : decode cL_ofPrinter 189 = .ok (.iconst 4, 1) := by decide +kernel
theorem dL_ofPrinter_190 : decode cL_ofPrinter 190 = .ok (.iconst 0, 1) := by decide +kernel
theorem dL_ofPrinter_191 : decode cL_ofPrinter 191 = .ok (.iastore, 1) := by decide +kernel
theorem dL_ofPrinter_192 : decode cL_ofPrinter 192 = .ok (.aload 4, 2) := by decide +kernel
theorem dL_ofPrinter_194 : decode cL_ofPrinter 194 = .ok (.invokestatic 142, 3) := by decide +kernel
theorem dL_ofPrinter_197 : decode cL_ofPrinter 197 = .ok (.iload 5, 2) := by decide +kernel
theorem dL_ofPrinter_199 : decode cL_ofPrinter 199 = .ok (.ireturn, 1) := by decide +kernel
theorem dL_due_0 : decode cL_due 0 = .ok (.iload_n 0, 1) := by decide +kernel
theorem dL_due_1 : decode cL_due 1 = .ok (.iconst 3, 1) := by decide +kernel
theorem dL_due_2 : decode cL_due 2 = .ok (.if_icmp .lt 15, 3) := by decide +kernel
theorem dL_due_5 : decode cL_due 5 = .ok (.iload_n 0, 1) := by decide +kernel
theorem dL_due_6 : decode cL_due 6 = .ok (.bipush 7, 2) := by decide +kernel
theorem dL_due_8 : decode cL_due 8 = .ok (.if_icmp .eq 9, 3) := by decide +kernel
theorem dL_due_11 : decode cL_due 11 = .ok (.iload_n 0, 1) := by decide +kernel
theorem dL_due_12 : decode cL_due 12 = .ok (.bipush 8, 2) := by decide +kernel
theorem dL_due_14 : decode cL_due 14 = .ok (.if_icmp .ne 13, 3) := by decide +kernel
theorem dL_due_17 : decode cL_due 17 = .ok (.iload_n 0, 1) := by decide +kernel
theorem dL_due_18 : decode cL_due 18 = .ok (.iload_n 1, 1) := by decide +kernel
theorem dL_due_19 : decode cL_due 19 = .ok (.aload_n 2, 1) := by decide +kernel
theorem dL_due_20 : decode cL_due 20 = .ok (.aload_n 3, 1) := by decide +kernel
theorem dL_due_21 : decode cL_due 21 = .ok (.aload 4, 2) := by decide +kernel
theorem dL_due_23 : decode cL_due 23 = .ok (.invokestatic 146, 3) := by decide +kernel
theorem dL_due_26 : decode cL_due 26 = .ok (.ireturn, 1) := by decide +kernel
theorem dL_due_27 : decode cL_due 27 = .ok (.iload_n 0, 1) := by decide +kernel
theorem dL_due_28 : decode cL_due 28 = .ok (.iconst 4, 1) := by decide +kernel
theorem dL_due_29 : decode cL_due 29 = .ok (.if_icmp .ne 71, 3) := by decide +kernel
theorem dL_due_32 : decode cL_due 32 = .ok (.iconst 0, 1) := by decide +kernel
theorem dL_due_33 : decode cL_due 33 = .ok (.istore 5, 2) := by decide +kernel
theorem dL_due_35 : decode cL_due 35 = .ok (.iconst 0, 1) := by decide +kernel
theorem dL_due_36 : decode cL_due 36 = .ok (.istore 6, 2) := by decide +kernel
theorem dL_due_38 : decode cL_due 38 = .ok (.iload 6, 2) := by decide +kernel
theorem dL_due_40 : decode cL_due 40 = .ok (.iconst 4, 1) := by decide +kernel
theorem dL_due_41 : decode cL_due 41 = .ok (.if_icmp .ge 56, 3) := by decide +kernel
theorem dL_due_44 : decode cL_due 44 = .ok (.aload 4, 2) := by decide +kernel
theorem dL_due_46 : decode cL_due 46 = .ok (.iconst 5, 1) := by decide +kernel
theorem dL_due_47 : decode cL_due 47 = .ok (.iload 6, 2) := by decide +kernel
theorem dL_due_49 : decode cL_due 49 = .ok (.imul, 1) := by decide +kernel
theorem dL_due_50 : decode cL_due 50 = .ok (.iconst 2, 1) := by decide +kernel
theorem dL_due_51 : decode cL_due 51 = .ok (.iadd, 1) := by decide +kernel
theorem dL_due_52 : decode cL_due 52 = .ok (.iaload, 1) := by decide +kernel
theorem dL_due_53 : decode cL_due 53 = .ok (.ifCond .ne 38, 3) := by decide +kernel
theorem dL_due_56 : decode cL_due 56 = .ok (.aload 4, 2) := by decide +kernel
theorem dL_due_58 : decode cL_due 58 = .ok (.iconst 5, 1) := by decide +kernel
theorem dL_due_59 : decode cL_due 59 = .ok (.iload 6, 2) := by decide +kernel
theorem dL_due_61 : decode cL_due 61 = .ok (.imul, 1) := by decide +kernel
theorem dL_due_62 : decode cL_due 62 = .ok (.iconst 3, 1) := by decide +kernel
theorem dL_due_63 : decode cL_due 63 = .ok (.iadd, 1) := by decide +kernel
theorem dL_due_64 : decode cL_due 64 = .ok (.iaload, 1) := by decide +kernel
theorem dL_due_65 : decode cL_due 65 = .ok (.iconst 1, 1) := by decide +kernel
theorem dL_due_66 : decode cL_due 66 = .ok (.if_icmp .ne 25, 3) := by decide +kernel
theorem dL_due_69 : decode cL_due 69 = .ok (.iload 5, 2) := by decide +kernel
theorem dL_due_71 : decode cL_due 71 = .ok (.iload 6, 2) := by decide +kernel
theorem dL_due_73 : decode cL_due 73 = .ok (.aload_n 2, 1) := by decide +kernel
theorem dL_due_74 : decode cL_due 74 = .ok (.aload_n 3, 1) := by decide +kernel
theorem dL_due_75 : decode cL_due 75 = .ok (.aload 4, 2) := by decide +kernel
theorem dL_due_77 : decode cL_due 77 = .ok (.invokestatic 150, 3) := by decide +kernel
theorem dL_due_80 : decode cL_due 80 = .ok (.ifCond .ge 7, 3) := by decide +kernel
theorem dL_due_83 : decode cL_due 83 = .ok (.iconst 0, 1) := by decide +kernel
theorem dL_due_84 : decode cL_due 84 = .ok (.goto 4, 3) := by decide +kernel
theorem dL_due_87 : decode cL_due 87 = .ok (.iconst 1, 1) := by decide +kernel
theorem dL_due_88 : decode cL_due 88 = .ok (.iadd, 1) := by decide +kernel
theorem dL_due_89 : decode cL_due 89 = .ok (.istore 5, 2) := by decide +kernel
theorem dL_due_91 : decode cL_due 91 = .ok (.iinc 6 1, 3) := by decide +kernel
theorem dL_due_94 : decode cL_due 94 = .ok (.goto (-56), 3) := by decide +kernel
theorem dL_due_97 : decode cL_due 97 = .ok (.iload 5, 2) := by decide +kernel
theorem dL_due_99 : decode cL_due 99 = .ok (.ireturn, 1) := by decide +kernel
theorem dL_due_100 : decode cL_due 100 = .ok (.iconst 5, 1) := by decide +kernel
theorem dL_due_101 : decode cL_due 101 = .ok (.iload_n 1, 1) := by decide +kernel
theorem dL_due_102 : decode cL_due 102 = .ok (.imul, 1) := by decide +kernel
theorem dL_due_103 : decode cL_due 103 = .ok (.istore 5, 2) := by decide +kernel
theorem dL_due_105 : decode cL_due 105 = .ok (.iload_n 0, 1) := by decide +kernel
theorem dL_due_106 : decode cL_due 106 = .ok (.bipush 9, 2) := by decide +kernel
theorem dL_due_108 : decode cL_due 108 = .ok (.if_icmp .ne 34, 3) := by decide +kernel
theorem dL_due_111 : decode cL_due 111 = .ok (.aload 4, 2) := by decide +kernel
theorem dL_due_113 : decode cL_due 113 = .ok (.iload 5, 2) := by decide +kernel
theorem dL_due_115 : decode cL_due 115 = .ok (.iaload, 1) := by decide +kernel
theorem dL_due_116 : decode cL_due 116 = .ok (.ifCond .ge 7, 3) := by decide +kernel
theorem dL_due_119 : decode cL_due 119 = .ok (.iconst (-1), 1) := by decide +kernel
theorem dL_due_120 : decode cL_due 120 = .ok (.goto 11, 3) := by decide +kernel
theorem dL_due_123 : decode cL_due 123 = .ok (.aload 4, 2) := by decide +kernel
theorem dL_due_125 : decode cL_due 125 = .ok (.iload 5, 2) := by decide +kernel
theorem dL_due_127 : decode cL_due 127 = .ok (.iaload, 1) := by decide +kernel
theorem dL_due_128 : decode cL_due 128 = .ok (.invokestatic 92, 3) := by decide +kernel
theorem dL_due_131 : decode cL_due 131 = .ok (.istore 6, 2) := by decide +kernel
theorem dL_due_133 : decode cL_due 133 = .ok (.aload 4, 2) := by decide +kernel
theorem dL_due_135 : decode cL_due 135 = .ok (.iload 5, 2) := by decide +kernel
theorem dL_due_137 : decode cL_due 137 = .ok (.iconst (-1), 1) := by decide +kernel
theorem dL_due_138 : decode cL_due 138 = .ok (.iastore, 1) := by decide +kernel
theorem dL_due_139 : decode cL_due 139 = .ok (.iload 6, 2) := by decide +kernel
theorem dL_due_141 : decode cL_due 141 = .ok (.ireturn, 1) := by decide +kernel
theorem dL_due_142 : decode cL_due 142 = .ok (.aload 4, 2) := by decide +kernel
theorem dL_due_144 : decode cL_due 144 = .ok (.iload 5, 2) := by decide +kernel
theorem dL_due_146 : decode cL_due 146 = .ok (.iconst 2, 1) := by decide +kernel
theorem dL_due_147 : decode cL_due 147 = .ok (.iadd, 1) := by decide +kernel
theorem dL_due_148 : decode cL_due 148 = .ok (.iaload, 1) := by decide +kernel
theorem dL_due_149 : decode cL_due 149 = .ok (.iload_n 0, 1) := by decide +kernel
theorem dL_due_150 : decode cL_due 150 = .ok (.bipush 6, 2) := by decide +kernel
theorem dL_due_152 : decode cL_due 152 = .ok (.if_icmp .ne 7, 3) := by decide +kernel
theorem dL_due_155 : decode cL_due 155 = .ok (.iconst 1, 1) := by decide +kernel
theorem dL_due_156 : decode cL_due 156 = .ok (.goto 4, 3) := by decide +kernel
theorem dL_due_159 : decode cL_due 159 = .ok (.iconst 0, 1) := by decide +kernel
theorem dL_due_160 : decode cL_due 160 = .ok (.if_icmp .eq 6, 3) := by decide +kernel
theorem dL_due_163 : decode cL_due 163 = .ok (.bipush (-103), 2) := by decide +kernel
theorem dL_due_165 : decode cL_due 165 = .ok (.ireturn, 1) := by decide +kernel
theorem dL_due_166 : decode cL_due 166 = .ok (.iload_n 0, 1) := by decide +kernel
theorem dL_due_167 : decode cL_due 167 = .ok (.iconst 3, 1) := by decide +kernel
theorem dL_due_168 : decode cL_due 168 = .ok (.if_icmp .ne 12, 3) := by decide +kernel
theorem dL_due_171 : decode cL_due 171 = .ok (.iload_n 1, 1) := by decide +kernel
theorem dL_due_172 : decode cL_due 172 = .ok (.aload_n 2, 1) := by decide +kernel
theorem dL_due_173 : decode cL_due 173 = .ok (.aload_n 3, 1) := by decide +kernel
theorem dL_due_174 : decode cL_due 174 = .ok (.aload 4, 2) := by decide +kernel
theorem dL_due_176 : decode cL_due 176 = .ok (.invokestatic 150, 3) := by decide +kernel
theorem dL_due_179 : decode cL_due 179 = .ok (.ireturn, 1) := by decide +kernel
theorem dL_due_180 : decode cL_due 180 = .ok (.aload 4, 2) := by decide +kernel
theorem dL_due_182 : decode cL_due 182 = .ok (.iload 5, 2) := by decide +kernel
theorem dL_due_184 : decode cL_due 184 = .ok (.iconst 2, 1) := by decide +kernel
theorem dL_due_185 : decode cL_due 185 = .ok (.iadd, 1) := by decide +kernel
theorem dL_due_186 : decode cL_due 186 = .ok (.iload_n 0, 1) := by decide +kernel
theorem dL_due_187 : decode cL_due 187 = .ok (.iconst 5, 1) := by decide +kernel
theorem dL_due_188 : decode cL_due 188 = .ok (.if_icmp .ne 7, 3) := by decide +kernel
theorem dL_due_191 : decode cL_due 191 = .ok (.iconst 1, 1) := by decide +kernel
theorem dL_due_192 : decode cL_due 192 = .ok (.goto 4, 3) := by decide +kernel
theorem dL_due_195 : decode cL_due 195 = .ok (.iconst 0, 1) := by decide +kernel
theorem dL_due_196 : decode cL_due 196 = .ok (.iastore, 1) := by decide +kernel
theorem dL_due_197 : decode cL_due 197 = .ok (.aload 4, 2) := by decide +kernel
theorem dL_due_199 : decode cL_due 199 = .ok (.invokestatic 153, 3) := by decide +kernel
theorem dL_due_202 : decode cL_due 202 = .ok (.ireturn, 1) := by decide +kernel
theorem dL_isFollower_0 : decode cL_isFollower 0 = .ok (.iconst 5, 1) := by decide +kernel
theorem dL_isFollower_1 : decode cL_isFollower 1 = .ok (.iload_n 1, 1) := by decide +kernel
theorem dL_isFollower_2 : decode cL_isFollower 2 = .ok (.imul, 1) := by decide +kernel
theorem dL_isFollower_3 : decode cL_isFollower 3 = .ok (.istore 6, 2) := by decide +kernel
theorem dL_isFollower_5 : decode cL_isFollower 5 = .ok (.aload 5, 2) := by decide +kernel
theorem dL_isFollower_7 : decode cL_isFollower 7 = .ok (.iload 6, 2) := by decide +kernel
theorem dL_isFollower_9 : decode cL_isFollower 9 = .ok (.iaload, 1) := by decide +kernel
theorem dL_isFollower_10 : decode cL_isFollower 10 = .ok (.ifCond .lt 7, 3) := by decide +kernel
theorem dL_isFollower_13 : decode cL_isFollower 13 = .ok (.iconst 1, 1) := by decide +kernel
theorem dL_isFollower_14 : decode cL_isFollower 14 = .ok (.goto 4, 3) := by decide +kernel
theorem dL_isFollower_17 : decode cL_isFollower 17 = .ok (.iconst 0, 1) := by decide +kernel
theorem dL_isFollower_18 : decode cL_isFollower 18 = .ok (.istore 7, 2) := by decide +kernel
theorem dL_isFollower_20 : decode cL_isFollower 20 = .ok (.aload_n 0, 1) := by decide +kernel
theorem dL_isFollower_21 : decode cL_isFollower 21 = .ok (.iload_n 1, 1) := by decide +kernel
theorem dL_isFollower_22 : decode cL_isFollower 22 = .ok (.invokestatic 157, 3) := by decide +kernel
theorem dL_isFollower_25 : decode cL_isFollower 25 = .ok (.iload 7, 2) := by decide +kernel
theorem dL_isFollower_27 : decode cL_isFollower 27 = .ok (.ifCond .eq 13, 3) := by decide +kernel
theorem dL_isFollower_30 : decode cL_isFollower 30 = .ok (.aload 5, 2) := by decide +kernel
theorem dL_isFollower_32 : decode cL_isFollower 32 = .ok (.iload 6, 2) := by decide +kernel
theorem dL_isFollower_34 : decode cL_isFollower 34 = .ok (.iconst 1, 1) := by decide +kernel
theorem dL_isFollower_35 : decode cL_isFollower 35 = .ok (.iadd, 1) := by decide +kernel
theorem dL_isFollower_36 : decode cL_isFollower 36 = .ok (.iaload, 1) := by decide +kernel
theorem dL_isFollower_37 : decode cL_isFollower 37 = .ok (.goto 4, 3) := by decide +kernel
theorem dL_isFollower_40 : decode cL_isFollower 40 = .ok (.iconst (-1), 1) := by decide +kernel
theorem dL_isFollower_41 : decode cL_isFollower 41 = .ok (.if_icmp .ne 128, 3) := by decide +kernel
theorem dL_isFollower_44 : decode cL_isFollower 44 = .ok (.aload_n 0, 1) := by decide +kernel
theorem dL_isFollower_45 : decode cL_isFollower 45 = .ok (.iload_n 1, 1) := by decide +kernel
theorem dL_isFollower_46 : decode cL_isFollower 46 = .ok (.invokestatic 159, 3) := by decide +kernel
theorem dL_isFollower_49 : decode cL_isFollower 49 = .ok (.iload 7, 2) := by decide +kernel
theorem dL_isFollower_51 : decode cL_isFollower 51 = .ok (.ifCond .eq 14, 3) := by decide +kernel
theorem dL_isFollower_54 : decode cL_isFollower 54 = .ok (.aload 5, 2) := by decide +kernel
theorem dL_isFollower_56 : decode cL_isFollower 56 = .ok (.iload 6, 2) := by decide +kernel
theorem dL_isFollower_58 : decode cL_isFollower 58 = .ok (.iaload, 1) := by decide +kernel
theorem dL_isFollower_59 : decode cL_isFollower 59 = .ok (.invokestatic 92, 3) := by decide +kernel
theorem dL_isFollower_62 : decode cL_isFollower 62 = .ok (.goto 4, 3) := by decide +kernel
theorem dL_isFollower_65 : decode cL_isFollower 65 = .ok (.iconst (-1), 1) := by decide +kernel
theorem dL_isFollower_66 : decode cL_isFollower 66 = .ok (.if_icmp .ne 103, 3) := by decide +kernel
theorem dL_isFollower_69 : decode cL_isFollower 69 = .ok (.aload_n 0, 1) := by decide +kernel
theorem dL_isFollower_70 : decode cL_isFollower 70 = .ok (.iload_n 1, 1) := by decide +kernel
theorem dL_isFollower_71 : decode cL_isFollower 71 = .ok (.iload_n 2, 1) := by decide +kernel
theorem dL_isFollower_72 : decode cL_isFollower 72 = .ok (.invokestatic 161, 3) := by decide +kernel
theorem dL_isFollower_75 : decode cL_isFollower 75 = .ok (.iload 7, 2) := by decide +kernel
theorem dL_isFollower_77 : decode cL_isFollower 77 = .ok (.ifCond .eq 15, 3) := by decide +kernel
theorem dL_isFollower_80 : decode cL_isFollower 80 = .ok (.aload 5, 2) := by decide +kernel
theorem dL_isFollower_82 : decode cL_isFollower 82 = .ok (.iload 6, 2) := by decide +kernel
theorem dL_isFollower_84 : decode cL_isFollower 84 = .ok (.iaload, 1) := by decide +kernel
theorem dL_isFollower_85 : decode cL_isFollower 85 = .ok (.iload_n 2, 1) := by decide +kernel
theorem dL_isFollower_86 : decode cL_isFollower 86 = .ok (.ishr, 1) := by decide +kernel
theorem dL_isFollower_87 : decode cL_isFollower 87 = .ok (.iconst 1, 1) := by decide +kernel
theorem dL_isFollower_88 : decode cL_isFollower 88 = .ok (.iand, 1) := by decide +kernel
theorem dL_isFollower_89 : decode cL_isFollower 89 = .ok (.goto 4, 3) := by decide +kernel
theorem dL_isFollower_92 : decode cL_isFollower 92 = .ok (.iconst 0, 1) := by decide +kernel
theorem dL_isFollower_93 : decode cL_isFollower 93 = .ok (.if_icmp .ne 76, 3) := by decide +kernel
theorem dL_isFollower_96 : decode cL_isFollower 96 = .ok (.aload_n 0, 1) := by decide +kernel
theorem dL_isFollower_97 : decode cL_isFollower 97 = .ok (.iload_n 1, 1) := by decide +kernel
theorem dL_isFollower_98 : decode cL_isFollower 98 = .ok (.invokestatic 164, 3) := by decide +kernel
theorem dL_isFollower_101 : decode cL_isFollower 101 = .ok (.iload 7, 2) := by decide +kernel
theorem dL_isFollower_103 : decode cL_isFollower 103 = .ok (.ifCond .eq 18, 3) := by decide +kernel
theorem dL_isFollower_106 : decode cL_isFollower 106 = .ok (.aload 5, 2) := by decide +kernel
theorem dL_isFollower_108 : decode cL_isFollower 108 = .ok (.iload 6, 2) := by decide +kernel
theorem dL_isFollower_110 : decode cL_isFollower 110 = .ok (.iaload, 1) := by decide +kernel
theorem dL_isFollower_111 : decode cL_isFollower 111 = .ok (.aload_n 3, 1) := by decide +kernel
theorem dL_isFollower_112 : decode cL_isFollower 112 = .ok (.iconst 1, 1) := by decide +kernel
theorem dL_isFollower_113 : decode cL_isFollower 113 = .ok (.iaload, 1) := by decide +kernel
theorem dL_isFollower_114 : decode cL_isFollower 114 = .ok (.if_icmp .ne 7, 3) := by decide +kernel
theorem dL_isFollower_117 : decode cL_isFollower 117 = .ok (.iconst 1, 1) := by decide +kernel
theorem dL_isFollower_118 : decode cL_isFollower 118 = .ok (.goto 4, 3) := by decide +kernel
theorem dL_isFollower_121 : decode cL_isFollower 121 = .ok (.iconst 0, 1) := by decide +kernel
theorem dL_isFollower_122 : decode cL_isFollower 122 = .ok (.if_icmp .ne 47, 3) := by decide +kernel
theorem dL_isFollower_125 : decode cL_isFollower 125 = .ok (.aload_n 0, 1) := by decide +kernel
theorem dL_isFollower_126 : decode cL_isFollower 126 = .ok (.iload_n 1, 1) := by decide +kernel
theorem dL_isFollower_127 : decode cL_isFollower 127 = .ok (.invokestatic 166, 3) := by decide +kernel
theorem dL_isFollower_130 : decode cL_isFollower 130 = .ok (.iconst 2, 1) := by decide +kernel
theorem dL_isFollower_131 : decode cL_isFollower 131 = .ok (.aload 5, 2) := by decide +kernel
theorem dL_isFollower_133 : decode cL_isFollower 133 = .ok (.iload 6, 2) := by decide +kernel
theorem dL_isFollower_135 : decode cL_isFollower 135 = .ok (.iconst 2, 1) := by decide +kernel
theorem dL_isFollower_136 : decode cL_isFollower 136 = .ok (.iadd, 1) := by decide +kernel
theorem dL_isFollower_137 : decode cL_isFollower 137 = .ok (.iaload, 1) := by decide +kernel
theorem dL_isFollower_138 : decode cL_isFollower 138 = .ok (.imul, 1) := by decide +kernel
theorem dL_isFollower_139 : decode cL_isFollower 139 = .ok (.aload 5, 2) := by decide +kernel
theorem dL_isFollower_141 : decode cL_isFollower 141 = .ok (.iload 6, 2) := by decide +kernel
theorem dL_isFollower_143 : decode cL_isFollower 143 = .ok (.iconst 3, 1) := by decide +kernel
theorem dL_isFollower_144 : decode cL_isFollower 144 = .ok (.iadd, 1) := by decide +kernel
theorem dL_isFollower_145 : decode cL_isFollower 145 = .ok (.iaload, 1) := by decide +kernel
theorem dL_isFollower_146 : decode cL_isFollower 146 = .ok (.iadd, 1) := by decide +kernel
theorem dL_isFollower_147 : decode cL_isFollower 147 = .ok (.if_icmp .ne 22, 3) := by decide +kernel
theorem dL_isFollower_150 : decode cL_isFollower 150 = .ok (.aload_n 0, 1) := by decide +kernel
theorem dL_isFollower_151 : decode cL_isFollower 151 = .ok (.iload_n 1, 1) := by decide +kernel
theorem dL_isFollower_152 : decode cL_isFollower 152 = .ok (.invokestatic 168, 3) := by decide +kernel
theorem dL_isFollower_155 : decode cL_isFollower 155 = .ok (.aload 5, 2) := by decide +kernel
theorem dL_isFollower_157 : decode cL_isFollower 157 = .ok (.iload 6, 2) := by decide +kernel
theorem dL_isFollower_159 : decode cL_isFollower 159 = .ok (.iconst 4, 1) := by decide +kernel
theorem dL_isFollower_160 : decode cL_isFollower 160 = .ok (.iadd, 1) := by decide +kernel
theorem dL_isFollower_161 : decode cL_isFollower 161 = .ok (.iaload, 1) := by decide +kernel
theorem dL_isFollower_162 : decode cL_isFollower 162 = .ok (.if_icmp .ne 7, 3) := by decide +kernel
theorem dL_isFollower_165 : decode cL_isFollower 165 = .ok (.iconst 1, 1) := by decide +kernel
theorem dL_isFollower_166 : decode cL_isFollower 166 = .ok (.goto 4, 3) := by decide +kernel
theorem dL_isFollower_169 : decode cL_isFollower 169 = .ok (.iconst 0, 1) := by decide +kernel
theorem dL_isFollower_170 : decode cL_isFollower 170 = .ok (.istore 8, 2) := by decide +kernel
theorem dL_isFollower_172 : decode cL_isFollower 172 = .ok (.iload 8, 2) := by decide +kernel
theorem dL_isFollower_174 : decode cL_isFollower 174 = .ok (.ifCond .eq 70, 3) := by decide +kernel
theorem dL_isFollower_177 : decode cL_isFollower 177 = .ok (.aload_n 0, 1) := by decide +kernel
theorem dL_isFollower_178 : decode cL_isFollower 178 = .ok (.iload_n 1, 1) := by decide +kernel
theorem dL_isFollower_179 : decode cL_isFollower 179 = .ok (.invokestatic 170, 3) := by decide +kernel
theorem dL_isFollower_182 : decode cL_isFollower 182 = .ok (.iload_n 1, 1) := by decide +kernel
theorem dL_isFollower_183 : decode cL_isFollower 183 = .ok (.aload_n 3, 1) := by decide +kernel
theorem dL_isFollower_184 : decode cL_isFollower 184 = .ok (.aload 4, 2) := by decide +kernel
theorem dL_isFollower_186 : decode cL_isFollower 186 = .ok (.aload 5, 2) := by decide +kernel
theorem dL_isFollower_188 : decode cL_isFollower 188 = .ok (.invokestatic 108, 3) := by decide +kernel
theorem dL_isFollower_191 : decode cL_isFollower 191 = .ok (.if_icmp .ne 53, 3) := by decide +kernel
theorem dL_isFollower_194 : decode cL_isFollower 194 = .ok (.aload_n 0, 1) := by decide +kernel
theorem dL_isFollower_195 : decode cL_isFollower 195 = .ok (.iload_n 1, 1) := by decide +kernel
theorem dL_isFollower_196 : decode cL_isFollower 196 = .ok (.invokestatic 172, 3) := by decide +kernel
theorem dL_isFollower_199 : decode cL_isFollower 199 = .ok (.iload_n 1, 1) := by decide +kernel
theorem dL_isFollower_200 : decode cL_isFollower 200 = .ok (.aload_n 3, 1) := by decide +kernel
theorem dL_isFollower_201 : decode cL_isFollower 201 = .ok (.aload 4, 2) := by decide +kernel
theorem dL_isFollower_203 : decode cL_isFollower 203 = .ok (.aload 5, 2) := by decide +kernel
theorem dL_isFollower_205 : decode cL_isFollower 205 = .ok (.invokestatic 112, 3) := by decide +kernel
theorem dL_isFollower_208 : decode cL_isFollower 208 = .ok (.if_icmp .ne 36, 3) := by decide +kernel
theorem dL_isFollower_211 : decode cL_isFollower 211 = .ok (.aload_n 0, 1) := by decide +kernel
theorem dL_isFollower_212 : decode cL_isFollower 212 = .ok (.iload_n 1, 1) := by decide +kernel
theorem dL_isFollower_213 : decode cL_isFollower 213 = .ok (.invokestatic 174, 3) := by decide +kernel
theorem dL_isFollower_216 : decode cL_isFollower 216 = .ok (.iload 7, 2) := by decide +kernel
theorem dL_isFollower_218 : decode cL_isFollower 218 = .ok (.ifCond .eq 18, 3) := by decide +kernel
theorem dL_isFollower_221 : decode cL_isFollower 221 = .ok (.aload 5, 2) := by decide +kernel
theorem dL_isFollower_223 : decode cL_isFollower 223 = .ok (.iload 6, 2) := by decide +kernel
theorem dL_isFollower_225 : decode cL_isFollower 225 = .ok (.iaload, 1) := by decide +kernel
theorem dL_isFollower_226 : decode cL_isFollower 226 = .ok (.aload_n 3, 1) := by decide +kernel
theorem dL_isFollower_227 : decode cL_isFollower 227 = .ok (.iconst 1, 1) := by decide +kernel
theorem dL_isFollower_228 : decode cL_isFollower 228 = .ok (.iaload, 1) := by decide +kernel
theorem dL_isFollower_229 : decode cL_isFollower 229 = .ok (.ixor, 1) := by decide +kernel
theorem dL_isFollower_230 : decode cL_isFollower 230 = .ok (.invokestatic 92, 3) := by decide +kernel
theorem dL_isFollower_233 : decode cL_isFollower 233 = .ok (.goto 4, 3) := by decide +kernel
theorem dL_isFollower_236 : decode cL_isFollower 236 = .ok (.iconst (-1), 1) := by decide +kernel
theorem dL_isFollower_237 : decode cL_isFollower 237 = .ok (.if_icmp .ne 7, 3) := by decide +kernel
theorem dL_isFollower_240 : decode cL_isFollower 240 = .ok (.iconst 1, 1) := by decide +kernel
theorem dL_isFollower_241 : decode cL_isFollower 241 = .ok (.goto 4, 3) := by decide +kernel
theorem dL_isFollower_244 : decode cL_isFollower 244 = .ok (.iconst 0, 1) := by decide +kernel
theorem dL_isFollower_245 : decode cL_isFollower 245 = .ok (.ireturn, 1) := by decide +kernel
theorem dL_isSo_0 : decode cL_isSo 0 = .ok (.iload_n 1, 1) := by decide +kernel
theorem dL_isSo_1 : decode cL_isSo 1 = .ok (.bipush 30, 2) := by decide +kernel
theorem dL_isSo_3 : decode cL_isSo 3 = .ok (.invokestatic 176, 3) := by decide +kernel
theorem dL_isSo_6 : decode cL_isSo 6 = .ok (.istore 5, 2) := by decide +kernel
theorem dL_isSo_8 : decode cL_isSo 8 = .ok (.aload 4, 2) := by decide +kernel
theorem dL_isSo_10 : decode cL_isSo 10 = .ok (.iconst 4, 1) := by decide +kernel
theorem dL_isSo_11 : decode cL_isSo 11 = .ok (.iaload, 1) := by decide +kernel
theorem dL_isSo_12 : decode cL_isSo 12 = .ok (.aload 4, 2) := by decide +kernel
theorem dL_isSo_14 : decode cL_isSo 14 = .ok (.bipush 9, 2) := by decide +kernel
theorem dL_isSo_16 : decode cL_isSo 16 = .ok (.iaload, 1) := by decide +kernel
theorem dL_isSo_17 : decode cL_isSo 17 = .ok (.iadd, 1) := by decide +kernel
theorem dL_isSo_18 : decode cL_isSo 18 = .ok (.aload 4, 2) := by decide +kernel
theorem dL_isSo_20 : decode cL_isSo 20 = .ok (.bipush 14, 2) := by decide +kernel
theorem dL_isSo_22 : decode cL_isSo 22 = .ok (.iaload, 1) := by decide +kernel
theorem dL_isSo_23 : decode cL_isSo 23 = .ok (.iadd, 1) := by decide +kernel
theorem dL_isSo_24 : decode cL_isSo 24 = .ok (.aload 4, 2) := by decide +kernel
theorem dL_isSo_26 : decode cL_isSo 26 = .ok (.bipush 19, 2) := by decide +kernel
theorem dL_isSo_28 : decode cL_isSo 28 = .ok (.iaload, 1) := by decide +kernel
theorem dL_isSo_29 : decode cL_isSo 29 = .ok (.iadd, 1) := by decide +kernel
theorem dL_isSo_30 : decode cL_isSo 30 = .ok (.istore 6, 2) := by decide +kernel
theorem dL_isSo_32 : decode cL_isSo 32 = .ok (.aload_n 0, 1) := by decide +kernel
theorem dL_isSo_33 : decode cL_isSo 33 = .ok (.invokevirtual 179, 3) := by decide +kernel
theorem dL_isSo_36 : decode cL_isSo 36 = .ok (.aload_n 2, 1) := by decide +kernel
theorem dL_isSo_37 : decode cL_isSo 37 = .ok (.iconst 2, 1) := by decide +kernel
theorem dL_isSo_38 : decode cL_isSo 38 = .ok (.iaload, 1) := by decide +kernel
theorem dL_isSo_39 : decode cL_isSo 39 = .ok (.if_icmp .ne 115, 3) := by decide +kernel
theorem dL_isSo_42 : decode cL_isSo 42 = .ok (.aload_n 0, 1) := by decide +kernel
theorem dL_isSo_43 : decode cL_isSo 43 = .ok (.invokevirtual 182, 3) := by decide +kernel
theorem dL_isSo_46 : decode cL_isSo 46 = .ok (.aload_n 2, 1) := by decide +kernel
theorem dL_isSo_47 : decode cL_isSo 47 = .ok (.iconst 0, 1) := by decide +kernel
theorem dL_isSo_48 : decode cL_isSo 48 = .ok (.iaload, 1) := by decide +kernel
theorem dL_isSo_49 : decode cL_isSo 49 = .ok (.invokestatic 92, 3) := by decide +kernel
theorem dL_isSo_52 : decode cL_isSo 52 = .ok (.if_icmp .ne 102, 3) := by decide +kernel
theorem dL_isSo_55 : decode cL_isSo 55 = .ok (.aload_n 0, 1) := by decide +kernel
theorem dL_isSo_56 : decode cL_isSo 56 = .ok (.invokevirtual 185, 3) := by decide +kernel
theorem dL_isSo_59 : decode cL_isSo 59 = .ok (.aload_n 2, 1) := by decide +kernel
theorem dL_isSo_60 : decode cL_isSo 60 = .ok (.iconst 1, 1) := by decide +kernel
theorem dL_isSo_61 : decode cL_isSo 61 = .ok (.iaload, 1) := by decide +kernel
theorem dL_isSo_62 : decode cL_isSo 62 = .ok (.invokestatic 92, 3) := by decide +kernel
theorem dL_isSo_65 : decode cL_isSo 65 = .ok (.if_icmp .ne 89, 3) := by decide +kernel
theorem dL_isSo_68 : decode cL_isSo 68 = .ok (.aload_n 0, 1) := by decide +kernel
theorem dL_isSo_69 : decode cL_isSo 69 = .ok (.invokevirtual 188, 3) := by decide +kernel
theorem dL_isSo_72 : decode cL_isSo 72 = .ok (.aload_n 2, 1) := by decide +kernel
theorem dL_isSo_73 : decode cL_isSo 73 = .ok (.iconst 0, 1) := by decide +kernel
theorem dL_isSo_74 : decode cL_isSo 74 = .ok (.iaload, 1) := by decide +kernel
theorem dL_isSo_75 : decode cL_isSo 75 = .ok (.aload_n 2, 1) := by decide +kernel
theorem dL_isSo_76 : decode cL_isSo 76 = .ok (.iconst 1, 1) := by decide +kernel
theorem dL_isSo_77 : decode cL_isSo 77 = .ok (.iaload, 1) := by decide +kernel
theorem dL_isSo_78 : decode cL_isSo 78 = .ok (.ixor, 1) := by decide +kernel
theorem dL_isSo_79 : decode cL_isSo 79 = .ok (.invokestatic 92, 3) := by decide +kernel
theorem dL_isSo_82 : decode cL_isSo 82 = .ok (.if_icmp .ne 72, 3) := by decide +kernel
theorem dL_isSo_85 : decode cL_isSo 85 = .ok (.aload_n 0, 1) := by decide +kernel
theorem dL_isSo_86 : decode cL_isSo 86 = .ok (.invokevirtual 191, 3) := by decide +kernel
theorem dL_isSo_89 : decode cL_isSo 89 = .ok (.aload_n 2, 1) := by decide +kernel
theorem dL_isSo_90 : decode cL_isSo 90 = .ok (.iconst 4, 1) := by decide +kernel
theorem dL_isSo_91 : decode cL_isSo 91 = .ok (.iaload, 1) := by decide +kernel
theorem dL_isSo_92 : decode cL_isSo 92 = .ok (.if_icmp .ne 62, 3) := by decide +kernel
theorem dL_isSo_95 : decode cL_isSo 95 = .ok (.aload_n 0, 1) := by decide +kernel
theorem dL_isSo_96 : decode cL_isSo 96 = .ok (.iload 5, 2) := by decide +kernel
theorem dL_isSo_98 : decode cL_isSo 98 = .ok (.invokestatic 194, 3) := by decide +kernel
theorem dL_isSo_101 : decode cL_isSo 101 = .ok (.aload_n 2, 1) := by decide +kernel
theorem dL_isSo_102 : decode cL_isSo 102 = .ok (.iconst 0, 1) := by decide +kernel
theorem dL_isSo_103 : decode cL_isSo 103 = .ok (.iaload, 1) := by decide +kernel
theorem dL_isSo_104 : decode cL_isSo 104 = .ok (.iload 5, 2) := by decide +kernel
theorem dL_isSo_106 : decode cL_isSo 106 = .ok (.ishr, 1) := by decide +kernel
theorem dL_isSo_107 : decode cL_isSo 107 = .ok (.iconst 1, 1) := by decide +kernel
theorem dL_isSo_108 : decode cL_isSo 108 = .ok (.iand, 1) := by decide +kernel
theorem dL_isSo_109 : decode cL_isSo 109 = .ok (.iconst 2, 1) := by decide +kernel
theorem dL_isSo_110 : decode cL_isSo 110 = .ok (.aload_n 2, 1) := by decide +kernel
theorem dL_isSo_111 : decode cL_isSo 111 = .ok (.iconst 1, 1) := by decide +kernel
theorem dL_isSo_112 : decode cL_isSo 112 = .ok (.iaload, 1) := by decide +kernel
theorem dL_isSo_113 : decode cL_isSo 113 = .ok (.iload 5, 2) := by decide +kernel
theorem dL_isSo_115 : decode cL_isSo 115 = .ok (.ishr, 1) := by decide +kernel
theorem dL_isSo_116 : decode cL_isSo 116 = .ok (.iconst 1, 1) := by decide +kernel
theorem dL_isSo_117 : decode cL_isSo 117 = .ok (.iand, 1) := by decide +kernel
theorem dL_isSo_118 : decode cL_isSo 118 = .ok (.imul, 1) := by decide +kernel
theorem dL_isSo_119 : decode cL_isSo 119 = .ok (.iadd, 1) := by decide +kernel
theorem dL_isSo_120 : decode cL_isSo 120 = .ok (.if_icmp .ne 34, 3) := by decide +kernel
theorem dL_isSo_123 : decode cL_isSo 123 = .ok (.aload_n 0, 1) := by decide +kernel
theorem dL_isSo_124 : decode cL_isSo 124 = .ok (.invokevirtual 196, 3) := by decide +kernel
theorem dL_isSo_127 : decode cL_isSo 127 = .ok (.iload 6, 2) := by decide +kernel
theorem dL_isSo_129 : decode cL_isSo 129 = .ok (.ifCond .ne 7, 3) := by decide +kernel
theorem dL_isSo_132 : decode cL_isSo 132 = .ok (.dconst 0, 1) := by decide +kernel
theorem dL_isSo_133 : decode cL_isSo 133 = .ok (.goto 13, 3) := by decide +kernel
theorem dL_isSo_136 : decode cL_isSo 136 = .ok (.dconst 1, 1) := by decide +kernel
theorem dL_isSo_137 : decode cL_isSo 137 = .ok (.iload 6, 2) := by decide +kernel
theorem dL_isSo_139 : decode cL_isSo 139 = .ok (.i2d, 1) := by decide +kernel
theorem dL_isSo_140 : decode cL_isSo 140 = .ok (.aload_n 2, 1) := by decide +kernel
theorem dL_isSo_141 : decode cL_isSo 141 = .ok (.iconst 5, 1) := by decide +kernel
theorem dL_isSo_142 : decode cL_isSo 142 = .ok (.iaload, 1) := by decide +kernel
theorem dL_isSo_143 : decode cL_isSo 143 = .ok (.i2d, 1) := by decide +kernel
theorem dL_isSo_144 : decode cL_isSo 144 = .ok (.ddiv, 1) := by decide +kernel
theorem dL_isSo_145 : decode cL_isSo 145 = .ok (.dsub, 1) := by decide +kernel
theorem dL_isSo_146 : decode cL_isSo 146 = .ok (.dcmp .l, 1) := by decide +kernel
theorem dL_isSo_147 : decode cL_isSo 147 = .ok (.ifCond .ne 7, 3) := by decide +kernel
theorem dL_isSo_150 : decode cL_isSo 150 = .ok (.iconst 1, 1) := by decide +kernel
theorem dL_isSo_151 : decode cL_isSo 151 = .ok (.goto 4, 3) := by decide +kernel
theorem dL_isSo_154 : decode cL_isSo 154 = .ok (.iconst 0, 1) := by decide +kernel
theorem dL_isSo_155 : decode cL_isSo 155 = .ok (.istore 7, 2) := by decide +kernel
theorem dL_isSo_157 : decode cL_isSo 157 = .ok (.iconst 0, 1) := by decide +kernel
theorem dL_isSo_158 : decode cL_isSo 158 = .ok (.istore 8, 2) := by decide +kernel
theorem dL_isSo_160 : decode cL_isSo 160 = .ok (.iload 8, 2) := by decide +kernel
theorem dL_isSo_162 : decode cL_isSo 162 = .ok (.bipush 7, 2) := by decide +kernel
theorem dL_isSo_164 : decode cL_isSo 164 = .ok (.if_icmp .ge 77, 3) := by decide +kernel
theorem dL_isSo_167 : decode cL_isSo 167 = .ok (.iload 7, 2) := by decide +kernel
theorem dL_isSo_169 : decode cL_isSo 169 = .ok (.ifCond .eq 63, 3) := by decide +kernel
theorem dL_isSo_172 : decode cL_isSo 172 = .ok (.aload_n 0, 1) := by decide +kernel
theorem dL_isSo_173 : decode cL_isSo 173 = .ok (.iload 8, 2) := by decide +kernel
theorem dL_isSo_175 : decode cL_isSo 175 = .ok (.invokestatic 200, 3) := by decide +kernel
theorem dL_isSo_178 : decode cL_isSo 178 = .ok (.iload 8, 2) := by decide +kernel
theorem dL_isSo_180 : decode cL_isSo 180 = .ok (.aload_n 2, 1) := by decide +kernel
theorem dL_isSo_181 : decode cL_isSo 181 = .ok (.iconst 4, 1) := by decide +kernel
theorem dL_isSo_182 : decode cL_isSo 182 = .ok (.iaload, 1) := by decide +kernel
theorem dL_isSo_183 : decode cL_isSo 183 = .ok (.if_icmp .ge 12, 3) := by decide +kernel
theorem dL_isSo_186 : decode cL_isSo 186 = .ok (.aload_n 3, 1) := by decide +kernel
theorem dL_isSo_187 : decode cL_isSo 187 = .ok (.iconst 3, 1) := by decide +kernel
theorem dL_isSo_188 : decode cL_isSo 188 = .ok (.iload 8, 2) := by decide +kernel
theorem dL_isSo_190 : decode cL_isSo 190 = .ok (.imul, 1) := by decide +kernel
theorem dL_isSo_191 : decode cL_isSo 191 = .ok (.iaload, 1) := by decide +kernel
theorem dL_isSo_192 : decode cL_isSo 192 = .ok (.goto 5, 3) := by decide +kernel
theorem dL_isSo_195 : decode cL_isSo 195 = .ok (.bipush (-101), 2) := by decide +kernel
theorem dL_isSo_197 : decode cL_isSo 197 = .ok (.if_icmp .ne 35, 3) := by decide +kernel
theorem dL_isSo_200 : decode cL_isSo 200 = .ok (.aload_n 0, 1) := by decide +kernel
theorem dL_isSo_201 : decode cL_isSo 201 = .ok (.iload 8, 2) := by decide +kernel
theorem dL_isSo_203 : decode cL_isSo 203 = .ok (.invokestatic 202, 3) := by decide +kernel
theorem dL_isSo_206 : decode cL_isSo 206 = .ok (.iload 8, 2) := by decide +kernel
theorem dL_isSo_208 : decode cL_isSo 208 = .ok (.aload_n 2, 1) := by decide +kernel
theorem dL_isSo_209 : decode cL_isSo 209 = .ok (.iconst 4, 1) := by decide +kernel
theorem dL_isSo_210 : decode cL_isSo 210 = .ok (.iaload, 1) := by decide +kernel
theorem dL_isSo_211 : decode cL_isSo 211 = .ok (.if_icmp .ge 12, 3) := by decide +kernel
theorem dL_isSo_214 : decode cL_isSo 214 = .ok (.iload 8, 2) := by decide +kernel
theorem dL_isSo_216 : decode cL_isSo 216 = .ok (.aload_n 3, 1) := by decide +kernel
theorem dL_isSo_217 : decode cL_isSo 217 = .ok (.invokestatic 97, 3) := by decide +kernel
theorem dL_isSo_220 : decode cL_isSo 220 = .ok (.goto 5, 3) := by decide +kernel
theorem dL_isSo_223 : decode cL_isSo 223 = .ok (.bipush (-101), 2) := by decide +kernel
theorem dL_isSo_225 : decode cL_isSo 225 = .ok (.if_icmp .ne 7, 3) := by decide +kernel
theorem dL_isSo_228 : decode cL_isSo 228 = .ok (.iconst 1, 1) := by decide +kernel
theorem dL_isSo_229 : decode cL_isSo 229 = .ok (.goto 4, 3) := by decide +kernel
theorem dL_isSo_232 : decode cL_isSo 232 = .ok (.iconst 0, 1) := by decide +kernel
theorem dL_isSo_233 : decode cL_isSo 233 = .ok (.istore 7, 2) := by decide +kernel
theorem dL_isSo_235 : decode cL_isSo 235 = .ok (.iinc 8 1, 3) := by decide +kernel
theorem dL_isSo_238 : decode cL_isSo 238 = .ok (.goto (-78), 3) := by decide +kernel
theorem dL_isSo_241 : decode cL_isSo 241 = .ok (.iload_n 1, 1) := by decide +kernel
theorem dL_isSo_242 : decode cL_isSo 242 = .ok (.iconst 5, 1) := by decide +kernel
theorem dL_isSo_243 : decode cL_isSo 243 = .ok (.ishr, 1) := by decide +kernel
theorem dL_isSo_244 : decode cL_isSo 244 = .ok (.bipush 16, 2) := by decide +kernel
theorem dL_isSo_246 : decode cL_isSo 246 = .ok (.invokestatic 176, 3) := by decide +kernel
theorem dL_isSo_249 : decode cL_isSo 249 = .ok (.istore 8, 2) := by decide +kernel
theorem dL_isSo_251 : decode cL_isSo 251 = .ok (.iload_n 1, 1) := by decide +kernel
theorem dL_isSo_252 : decode cL_isSo 252 = .ok (.bipush 9, 2) := by decide +kernel
theorem dL_isSo_254 : decode cL_isSo 254 = .ok (.ishr, 1) := by decide +kernel
theorem dL_isSo_255 : decode cL_isSo 255 = .ok (.bipush 16, 2) := by decide +kernel
theorem dL_isSo_257 : decode cL_isSo 257 = .ok (.invokestatic 176, 3) := by decide +kernel
theorem dL_isSo_260 : decode cL_isSo 260 = .ok (.istore 9, 2) := by decide +kernel
theorem dL_isSo_262 : decode cL_isSo 262 = .ok (.iload 7, 2) := by decide +kernel
theorem dL_isSo_264 : decode cL_isSo 264 = .ok (.ifCond .eq 25, 3) := by decide +kernel
theorem dL_isSo_267 : decode cL_isSo 267 = .ok (.aload_n 0, 1) := by decide +kernel
theorem dL_isSo_268 : decode cL_isSo 268 = .ok (.iload 8, 2) := by decide +kernel
theorem dL_isSo_270 : decode cL_isSo 270 = .ok (.iload 9, 2) := by decide +kernel
theorem dL_isSo_272 : decode cL_isSo 272 = .ok (.invokestatic 204, 3) := by decide +kernel
theorem dL_isSo_275 : decode cL_isSo 275 = .ok (.iload 8, 2) := by decide +kernel
theorem dL_isSo_277 : decode cL_isSo 277 = .ok (.iload 9, 2) := by decide +kernel
theorem dL_isSo_279 : decode cL_isSo 279 = .ok (.invokestatic 101, 3) := by decide +kernel
theorem dL_isSo_282 : decode cL_isSo 282 = .ok (.if_icmp .ne 7, 3) := by decide +kernel
theorem dL_isSo_285 : decode cL_isSo 285 = .ok (.iconst 1, 1) := by decide +kernel
theorem dL_isSo_286 : decode cL_isSo 286 = .ok (.goto 4, 3) := by decide +kernel
theorem dL_isSo_289 : decode cL_isSo 289 = .ok (.iconst 0, 1) := by decide +kernel
theorem dL_isSo_290 : decode cL_isSo 290 = .ok (.istore 7, 2) := by decide +kernel
theorem dL_isSo_292 : decode cL_isSo 292 = .ok (.iconst 0, 1) := by decide +kernel
theorem dL_isSo_293 : decode cL_isSo 293 = .ok (.istore 10, 2) := by decide +kernel
theorem dL_isSo_295 : decode cL_isSo 295 = .ok (.iload 10, 2) := by decide +kernel
theorem dL_isSo_297 : decode cL_isSo 297 = .ok (.iconst 4, 1) := by decide +kernel
theorem dL_isSo_298 : decode cL_isSo 298 = .ok (.if_icmp .ge 36, 3) := by decide +kernel
theorem dL_isSo_301 : decode cL_isSo 301 = .ok (.iload 7, 2) := by decide +kernel
theorem dL_isSo_303 : decode cL_isSo 303 = .ok (.ifCond .eq 22, 3) := by decide +kernel
theorem dL_isSo_306 : decode cL_isSo 306 = .ok (.aload_n 0, 1) := by decide +kernel
theorem dL_isSo_307 : decode cL_isSo 307 = .ok (.iload 10, 2) := by decide +kernel
theorem dL_isSo_309 : decode cL_isSo 309 = .ok (.iload 5, 2) := by decide +kernel
theorem dL_isSo_311 : decode cL_isSo 311 = .ok (.aload_n 2, 1) := by decide +kernel
theorem dL_isSo_312 : decode cL_isSo 312 = .ok (.aload_n 3, 1) := by decide +kernel
theorem dL_isSo_313 : decode cL_isSo 313 = .ok (.aload 4, 2) := by decide +kernel
theorem dL_isSo_315 : decode cL_isSo 315 = .ok (.invokestatic 206, 3) := by decide +kernel
theorem dL_isSo_318 : decode cL_isSo 318 = .ok (.ifCond .eq 7, 3) := by decide +kernel
theorem dL_isSo_321 : decode cL_isSo 321 = .ok (.iconst 1, 1) := by decide +kernel
theorem dL_isSo_322 : decode cL_isSo 322 = .ok (.goto 4, 3) := by decide +kernel
theorem dL_isSo_325 : decode cL_isSo 325 = .ok (.iconst 0, 1) := by decide +kernel
theorem dL_isSo_326 : decode cL_isSo 326 = .ok (.istore 7, 2) := by decide +kernel
theorem dL_isSo_328 : decode cL_isSo 328 = .ok (.iinc 10 1, 3) := by decide +kernel
theorem dL_isSo_331 : decode cL_isSo 331 = .ok (.goto (-36), 3) := by decide +kernel
theorem dL_isSo_334 : decode cL_isSo 334 = .ok (.iload 7, 2) := by decide +kernel
theorem dL_isSo_336 : decode cL_isSo 336 = .ok (.ireturn, 1) := by decide +kernel
theorem dL_law_0 : decode cL_law 0 = .ok (.new 11, 3) := by decide +kernel
theorem dL_law_3 : decode cL_law 3 = .ok (.dup, 1) := by decide +kernel
theorem dL_law_4 : decode cL_law 4 = .ok (.invokespecial 210, 3) := by decide +kernel
theorem dL_law_7 : decode cL_law 7 = .ok (.astore_n 1, 1) := by decide +kernel
theorem dL_law_8 : decode cL_law 8 = .ok (.bipush 6, 2) := by decide +kernel
theorem dL_law_10 : decode cL_law 10 = .ok (.newarray .int, 2) := by decide +kernel
theorem dL_law_12 : decode cL_law 12 = .ok (.astore_n 2, 1) := by decide +kernel
theorem dL_law_13 : decode cL_law 13 = .ok (.bipush 18, 2) := by decide +kernel
theorem dL_law_15 : decode cL_law 15 = .ok (.newarray .int, 2) := by decide +kernel
theorem dL_law_17 : decode cL_law 17 = .ok (.astore_n 3, 1) := by decide +kernel
theorem dL_law_18 : decode cL_law 18 = .ok (.bipush 20, 2) := by decide +kernel
theorem dL_law_20 : decode cL_law 20 = .ok (.newarray .int, 2) := by decide +kernel
theorem dL_law_22 : decode cL_law 22 = .ok (.astore 4, 2) := by decide +kernel
theorem dL_law_24 : decode cL_law 24 = .ok (.aload_n 2, 1) := by decide +kernel
theorem dL_law_25 : decode cL_law 25 = .ok (.iconst 3, 1) := by decide +kernel
theorem dL_law_26 : decode cL_law 26 = .ok (.iconst 3, 1) := by decide +kernel
theorem dL_law_27 : decode cL_law 27 = .ok (.iastore, 1) := by decide +kernel
theorem dL_law_28 : decode cL_law 28 = .ok (.iconst 0, 1) := by decide +kernel
theorem dL_law_29 : decode cL_law 29 = .ok (.istore 5, 2) := by decide +kernel
theorem dL_law_31 : decode cL_law 31 = .ok (.iload 5, 2) := by decide +kernel
theorem dL_law_33 : decode cL_law 33 = .ok (.iconst 4, 1) := by decide +kernel
theorem dL_law_34 : decode cL_law 34 = .ok (.if_icmp .ge 17, 3) := by decide +kernel
theorem dL_law_37 : decode cL_law 37 = .ok (.aload 4, 2) := by decide +kernel
theorem dL_law_39 : decode cL_law 39 = .ok (.iconst 5, 1) := by decide +kernel
theorem dL_law_40 : decode cL_law 40 = .ok (.iload 5, 2) := by decide +kernel
theorem dL_law_42 : decode cL_law 42 = .ok (.imul, 1) := by decide +kernel
theorem dL_law_43 : decode cL_law 43 = .ok (.iconst (-1), 1) := by decide +kernel
theorem dL_law_44 : decode cL_law 44 = .ok (.iastore, 1) := by decide +kernel
theorem dL_law_45 : decode cL_law 45 = .ok (.iinc 5 1, 3) := by decide +kernel
theorem dL_law_48 : decode cL_law 48 = .ok (.goto (-17), 3) := by decide +kernel
theorem dL_law_51 : decode cL_law 51 = .ok (.iconst 0, 1) := by decide +kernel
theorem dL_law_52 : decode cL_law 52 = .ok (.istore 5, 2) := by decide +kernel
theorem dL_law_54 : decode cL_law 54 = .ok (.iload 5, 2) := by decide +kernel
theorem dL_law_56 : decode cL_law 56 = .ok (.bipush 60, 2) := by decide +kernel
theorem dL_law_58 : decode cL_law 58 = .ok (.if_icmp .ge 341, 3) := by decide +kernel
theorem dL_law_61 : decode cL_law 61 = .ok (.aload_n 0, 1) := by decide +kernel
theorem dL_law_62 : decode cL_law 62 = .ok (.iconst 2, 1) := by decide +kernel
theorem dL_law_63 : decode cL_law 63 = .ok (.iload 5, 2) := by decide +kernel
theorem dL_law_65 : decode cL_law 65 = .ok (.imul, 1) := by decide +kernel
theorem dL_law_66 : decode cL_law 66 = .ok (.invokestatic 211, 3) := by decide +kernel
theorem dL_law_69 : decode cL_law 69 = .ok (.istore 6, 2) := by decide +kernel
theorem dL_law_71 : decode cL_law 71 = .ok (.aload_n 0, 1) := by decide +kernel
theorem dL_law_72 : decode cL_law 72 = .ok (.iconst 2, 1) := by decide +kernel
theorem dL_law_73 : decode cL_law 73 = .ok (.iload 5, 2) := by decide +kernel
theorem dL_law_75 : decode cL_law 75 = .ok (.imul, 1) := by decide +kernel
theorem dL_law_76 : decode cL_law 76 = .ok (.iconst 1, 1) := by decide +kernel
theorem dL_law_77 : decode cL_law 77 = .ok (.iadd, 1) := by decide +kernel
theorem dL_law_78 : decode cL_law 78 = .ok (.invokestatic 211, 3) := by decide +kernel
theorem dL_law_81 : decode cL_law 81 = .ok (.istore 7, 2) := by decide +kernel
theorem dL_law_83 : decode cL_law 83 = .ok (.iload 6, 2) := by decide +kernel
theorem dL_law_85 : decode cL_law 85 = .ok (.bipush 30, 2) := by decide +kernel
theorem dL_law_87 : decode cL_law 87 = .ok (.invokestatic 176, 3) := by decide +kernel
theorem dL_law_90 : decode cL_law 90 = .ok (.istore 8, 2) := by decide +kernel
theorem dL_law_92 : decode cL_law 92 = .ok (.iload 8, 2) := by decide +kernel
theorem dL_law_94 : decode cL_law 94 = .ok (.bipush 8, 2) := by decide +kernel
theorem dL_law_96 : decode cL_law 96 = .ok (.if_icmp .ge 7, 3) := by decide +kernel
theorem dL_law_99 : decode cL_law 99 = .ok (.iconst 0, 1) := by decide +kernel
theorem dL_law_100 : decode cL_law 100 = .ok (.goto 105, 3) := by decide +kernel
theorem dL_law_103 : decode cL_law 103 = .ok (.iload 8, 2) := by decide +kernel
theorem dL_law_105 : decode cL_law 105 = .ok (.bipush 11, 2) := by decide +kernel
theorem dL_law_107 : decode cL_law 107 = .ok (.if_icmp .ge 7, 3) := by decide +kernel
theorem dL_law_110 : decode cL_law 110 = .ok (.iconst 1, 1) := by decide +kernel
theorem dL_law_111 : decode cL_law 111 = .ok (.goto 94, 3) := by decide +kernel
theorem dL_law_114 : decode cL_law 114 = .ok (.iload 8, 2) := by decide +kernel
theorem dL_law_116 : decode cL_law 116 = .ok (.bipush 16, 2) := by decide +kernel
theorem dL_law_118 : decode cL_law 118 = .ok (.if_icmp .ge 7, 3) := by decide +kernel
theorem dL_law_121 : decode cL_law 121 = .ok (.iconst 2, 1) := by decide +kernel
theorem dL_law_122 : decode cL_law 122 = .ok (.goto 83, 3) := by decide +kernel
theorem dL_law_125 : decode cL_law 125 = .ok (.iload 8, 2) := by decide +kernel
theorem dL_law_127 : decode cL_law 127 = .ok (.bipush 22, 2) := by decide +kernel
theorem dL_law_129 : decode cL_law 129 = .ok (.if_icmp .ge 7, 3) := by decide +kernel
theorem dL_law_132 : decode cL_law 132 = .ok (.iconst 3, 1) := by decide +kernel
theorem dL_law_133 : decode cL_law 133 = .ok (.goto 72, 3) := by decide +kernel
theorem dL_law_136 : decode cL_law 136 = .ok (.iload 8, 2) := by decide +kernel
theorem dL_law_138 : decode cL_law 138 = .ok (.bipush 24, 2) := by decide +kernel
theorem dL_law_140 : decode cL_law 140 = .ok (.if_icmp .ge 7, 3) := by decide +kernel
theorem dL_law_143 : decode cL_law 143 = .ok (.iconst 4, 1) := by decide +kernel
theorem dL_law_144 : decode cL_law 144 = .ok (.goto 61, 3) := by decide +kernel
theorem dL_law_147 : decode cL_law 147 = .ok (.iload 8, 2) := by decide +kernel
theorem dL_law_149 : decode cL_law 149 = .ok (.bipush 26, 2) := by decide +kernel
theorem dL_law_151 : decode cL_law 151 = .ok (.if_icmp .ge 16, 3) := by decide +kernel
theorem dL_law_154 : decode cL_law 154 = .ok (.iconst 5, 1) := by decide +kernel
theorem dL_law_155 : decode cL_law 155 = .ok (.iload 6, 2) := by decide +kernel
theorem dL_law_157 : decode cL_law 157 = .ok (.iconst 5, 1) := by decide +kernel
theorem dL_law_158 : decode cL_law 158 = .ok (.ishr, 1) := by decide +kernel
theorem dL_law_159 : decode cL_law 159 = .ok (.iconst 2, 1) := by decide +kernel
theorem dL_law_160 : decode cL_law 160 = .ok (.invokestatic 176, 3) := by decide +kernel
theorem dL_law_163 : decode cL_law 163 = .ok (.iadd, 1) := by decide +kernel
theorem dL_law_164 : decode cL_law 164 = .ok (.goto 41, 3) := by decide +kernel
theorem dL_law_167 : decode cL_law 167 = .ok (.iload 8, 2) := by decide +kernel
theorem dL_law_169 : decode cL_law 169 = .ok (.bipush 26, 2) := by decide +kernel
theorem dL_law_171 : decode cL_law 171 = .ok (.if_icmp .ne 8, 3) := by decide +kernel
theorem dL_law_174 : decode cL_law 174 = .ok (.bipush 7, 2) := by decide +kernel
theorem dL_law_176 : decode cL_law 176 = .ok (.goto 29, 3) := by decide +kernel
theorem dL_law_179 : decode cL_law 179 = .ok (.iload 8, 2) := by decide +kernel
theorem dL_law_181 : decode cL_law 181 = .ok (.bipush 27, 2) := by decide +kernel
theorem dL_law_183 : decode cL_law 183 = .ok (.if_icmp .ne 8, 3) := by decide +kernel
theorem dL_law_186 : decode cL_law 186 = .ok (.bipush 8, 2) := by decide +kernel
theorem dL_law_188 : decode cL_law 188 = .ok (.goto 17, 3) := by decide +kernel
theorem dL_law_191 : decode cL_law 191 = .ok (.iload 8, 2) := by decide +kernel
theorem dL_law_193 : decode cL_law 193 = .ok (.bipush 28, 2) := by decide +kernel
theorem dL_law_195 : decode cL_law 195 = .ok (.if_icmp .ne 8, 3) := by decide +kernel
theorem dL_law_198 : decode cL_law 198 = .ok (.bipush 9, 2) := by decide +kernel
theorem dL_law_200 : decode cL_law 200 = .ok (.goto 5, 3) := by decide +kernel
theorem dL_law_203 : decode cL_law 203 = .ok (.bipush 6, 2) := by decide +kernel
theorem dL_law_205 : decode cL_law 205 = .ok (.istore 8, 2) := by decide +kernel
theorem dL_law_207 : decode cL_law 207 = .ok (.iload 8, 2) := by decide +kernel
theorem dL_law_209 : decode cL_law 209 = .ok (.iconst 2, 1) := by decide +kernel
theorem dL_law_210 : decode cL_law 210 = .ok (.if_icmp .ge 13, 3) := by decide +kernel
theorem dL_law_213 : decode cL_law 213 = .ok (.iload 7, 2) := by decide +kernel
theorem dL_law_215 : decode cL_law 215 = .ok (.bipush 30, 2) := by decide +kernel
theorem dL_law_217 : decode cL_law 217 = .ok (.invokestatic 176, 3) := by decide +kernel
theorem dL_law_220 : decode cL_law 220 = .ok (.goto 45, 3) := by decide +kernel
theorem dL_law_223 : decode cL_law 223 = .ok (.iload 8, 2) := by decide +kernel
theorem dL_law_225 : decode cL_law 225 = .ok (.bipush 7, 2) := by decide +kernel
theorem dL_law_227 : decode cL_law 227 = .ok (.if_icmp .ne 13, 3) := by decide +kernel
theorem dL_law_230 : decode cL_law 230 = .ok (.iload 7, 2) := by decide +kernel
theorem dL_law_232 : decode cL_law 232 = .ok (.bipush 16, 2) := by decide +kernel
theorem dL_law_234 : decode cL_law 234 = .ok (.invokestatic 176, 3) := by decide +kernel
theorem dL_law_237 : decode cL_law 237 = .ok (.goto 28, 3) := by decide +kernel
theorem dL_law_240 : decode cL_law 240 = .ok (.iload 8, 2) := by decide +kernel
theorem dL_law_242 : decode cL_law 242 = .ok (.bipush 8, 2) := by decide +kernel
theorem dL_law_244 : decode cL_law 244 = .ok (.if_icmp .ne 15, 3) := by decide +kernel
theorem dL_law_247 : decode cL_law 247 = .ok (.iconst 1, 1) := by decide +kernel
theorem dL_law_248 : decode cL_law 248 = .ok (.iload 7, 2) := by decide +kernel
theorem dL_law_250 : decode cL_law 250 = .ok (.bipush 6, 2) := by decide +kernel
theorem dL_law_252 : decode cL_law 252 = .ok (.invokestatic 176, 3) := by decide +kernel
theorem dL_law_255 : decode cL_law 255 = .ok (.iadd, 1) := by decide +kernel
theorem dL_law_256 : decode cL_law 256 = .ok (.goto 9, 3) := by decide +kernel
theorem dL_law_259 : decode cL_law 259 = .ok (.iload 7, 2) := by decide +kernel
theorem dL_law_261 : decode cL_law 261 = .ok (.iconst 4, 1) := by decide +kernel
theorem dL_law_262 : decode cL_law 262 = .ok (.invokestatic 176, 3) := by decide +kernel
theorem dL_law_265 : decode cL_law 265 = .ok (.istore 9, 2) := by decide +kernel
theorem dL_law_267 : decode cL_law 267 = .ok (.aload_n 1, 1) := by decide +kernel
theorem dL_law_268 : decode cL_law 268 = .ok (.invokevirtual 215, 3) := by decide +kernel
theorem dL_law_271 : decode cL_law 271 = .ok (.lstore 10, 2) := by decide +kernel
theorem dL_law_273 : decode cL_law 273 = .ok (.aload_n 1, 1) := by decide +kernel
theorem dL_law_274 : decode cL_law 274 = .ok (.invokevirtual 219, 3) := by decide +kernel
theorem dL_law_277 : decode cL_law 277 = .ok (.istore 12, 2) := by decide +kernel
theorem dL_law_279 : decode cL_law 279 = .ok (.aload_n 1, 1) := by decide +kernel
theorem dL_law_280 : decode cL_law 280 = .ok (.iload 8, 2) := by decide +kernel
theorem dL_law_282 : decode cL_law 282 = .ok (.iload 9, 2) := by decide +kernel
theorem dL_law_284 : decode cL_law 284 = .ok (.invokestatic 222, 3) := by decide +kernel
theorem dL_law_287 : decode cL_law 287 = .ok (.istore 13, 2) := by decide +kernel
theorem dL_law_289 : decode cL_law 289 = .ok (.iload 13, 2) := by decide +kernel
theorem dL_law_291 : decode cL_law 291 = .ok (.bipush (-100), 2) := by decide +kernel
theorem dL_law_293 : decode cL_law 293 = .ok (.if_icmp .ge 25, 3) := by decide +kernel
theorem dL_law_296 : decode cL_law 296 = .ok (.aload_n 1, 1) := by decide +kernel
theorem dL_law_297 : decode cL_law 297 = .ok (.invokevirtual 215, 3) := by decide +kernel
theorem dL_law_300 : decode cL_law 300 = .ok (.lload 10, 2) := by decide +kernel
theorem dL_law_302 : decode cL_law 302 = .ok (.lcmp, 1) := by decide +kernel
theorem dL_law_303 : decode cL_law 303 = .ok (.ifCond .ne 55, 3) := by decide +kernel
theorem dL_law_306 : decode cL_law 306 = .ok (.aload_n 1, 1) := by decide +kernel
theorem dL_law_307 : decode cL_law 307 = .ok (.invokevirtual 219, 3) := by decide +kernel
theorem dL_law_310 : decode cL_law 310 = .ok (.iload 12, 2) := by decide +kernel
theorem dL_law_312 : decode cL_law 312 = .ok (.if_icmp .eq 48, 3) := by decide +kernel
theorem dL_law_315 : decode cL_law 315 = .ok (.goto 43, 3) := by decide +kernel
theorem dL_law_318 : decode cL_law 318 = .ok (.iload 6, 2) := by decide +kernel
theorem dL_law_320 : decode cL_law 320 = .ok (.bipush 24, 2) := by decide +kernel
theorem dL_law_322 : decode cL_law 322 = .ok (.ishr, 1) := by decide +kernel
theorem dL_law_323 : decode cL_law 323 = .ok (.iconst 3, 1) := by decide +kernel
theorem dL_law_324 : decode cL_law 324 = .ok (.iand, 1) := by decide +kernel
theorem dL_law_325 : decode cL_law 325 = .ok (.ifCond .ne 35, 3) := by decide +kernel
theorem dL_law_328 : decode cL_law 328 = .ok (.aload_n 1, 1) := by decide +kernel
theorem dL_law_329 : decode cL_law 329 = .ok (.invokestatic 225, 3) := by decide +kernel
theorem dL_law_332 : decode cL_law 332 = .ok (.ifCond .lt 26, 3) := by decide +kernel
theorem dL_law_335 : decode cL_law 335 = .ok (.aload_n 1, 1) := by decide +kernel
theorem dL_law_336 : decode cL_law 336 = .ok (.invokevirtual 215, 3) := by decide +kernel
theorem dL_law_339 : decode cL_law 339 = .ok (.lload 10, 2) := by decide +kernel
theorem dL_law_341 : decode cL_law 341 = .ok (.lcmp, 1) := by decide +kernel
theorem dL_law_342 : decode cL_law 342 = .ok (.ifCond .ne 16, 3) := by decide +kernel
theorem dL_law_345 : decode cL_law 345 = .ok (.aload_n 1, 1) := by decide +kernel
theorem dL_law_346 : decode cL_law 346 = .ok (.iload 8, 2) := by decide +kernel
theorem dL_law_348 : decode cL_law 348 = .ok (.iload 9, 2) := by decide +kernel
theorem dL_law_350 : decode cL_law 350 = .ok (.invokestatic 222, 3) := by decide +kernel
theorem dL_law_353 : decode cL_law 353 = .ok (.iload 13, 2) := by decide +kernel
theorem dL_law_355 : decode cL_law 355 = .ok (.if_icmp .eq 5, 3) := by decide +kernel
theorem dL_law_358 : decode cL_law 358 = .ok (.iconst 0, 1) := by decide +kernel
theorem dL_law_359 : decode cL_law 359 = .ok (.ireturn, 1) := by decide +kernel
theorem dL_law_360 : decode cL_law 360 = .ok (.iload 13, 2) := by decide +kernel
theorem dL_law_362 : decode cL_law 362 = .ok (.iload 8, 2) := by decide +kernel
theorem dL_law_364 : decode cL_law 364 = .ok (.iload 9, 2) := by decide +kernel
theorem dL_law_366 : decode cL_law 366 = .ok (.aload_n 2, 1) := by decide +kernel
theorem dL_law_367 : decode cL_law 367 = .ok (.aload_n 3, 1) := by decide +kernel
theorem dL_law_368 : decode cL_law 368 = .ok (.aload 4, 2) := by decide +kernel
theorem dL_law_370 : decode cL_law 370 = .ok (.invokestatic 227, 3) := by decide +kernel
theorem dL_law_373 : decode cL_law 373 = .ok (.if_icmp .ne 18, 3) := by decide +kernel
theorem dL_law_376 : decode cL_law 376 = .ok (.aload_n 1, 1) := by decide +kernel
theorem dL_law_377 : decode cL_law 377 = .ok (.iload 6, 2) := by decide +kernel
theorem dL_law_379 : decode cL_law 379 = .ok (.iconst 5, 1) := by decide +kernel
theorem dL_law_380 : decode cL_law 380 = .ok (.ishr, 1) := by decide +kernel
theorem dL_law_381 : decode cL_law 381 = .ok (.aload_n 2, 1) := by decide +kernel
theorem dL_law_382 : decode cL_law 382 = .ok (.aload_n 3, 1) := by decide +kernel
theorem dL_law_383 : decode cL_law 383 = .ok (.aload 4, 2) := by decide +kernel
theorem dL_law_385 : decode cL_law 385 = .ok (.invokestatic 230, 3) := by decide +kernel
theorem dL_law_388 : decode cL_law 388 = .ok (.ifCond .ne 5, 3) := by decide +kernel
theorem dL_law_391 : decode cL_law 391 = .ok (.iconst 0, 1) := by decide +kernel
theorem dL_law_392 : decode cL_law 392 = .ok (.ireturn, 1) := by decide +kernel
theorem dL_law_393 : decode cL_law 393 = .ok (.iinc 5 1, 3) := by decide +kernel
theorem dL_law_396 : decode cL_law 396 = .ok (.goto (-342), 3) := by decide +kernel
theorem dL_law_399 : decode cL_law 399 = .ok (.iconst 1, 1) := by decide +kernel
theorem dL_law_400 : decode cL_law 400 = .ok (.ireturn, 1) := by decide +kernel
