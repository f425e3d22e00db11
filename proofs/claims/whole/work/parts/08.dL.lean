/-! decode rows, by program -/
theorem kd_L_lot_0 : decode kc_L_lot 0 = .ok (.aload 5, 2) := by decide +kernel
theorem kd_L_lot_2 : decode kc_L_lot 2 = .ok (.iconst 0, 1) := by decide +kernel
theorem kd_L_lot_3 : decode kc_L_lot 3 = .ok (.aload_n 0, 1) := by decide +kernel
theorem kd_L_lot_4 : decode kc_L_lot 4 = .ok (.iload_n 1, 1) := by decide +kernel
theorem kd_L_lot_5 : decode kc_L_lot 5 = .ok (.iload_n 2, 1) := by decide +kernel
theorem kd_L_lot_6 : decode kc_L_lot 6 = .ok (.iload_n 3, 1) := by decide +kernel
theorem kd_L_lot_7 : decode kc_L_lot 7 = .ok (.iload 4, 2) := by decide +kernel
theorem kd_L_lot_9 : decode kc_L_lot 9 = .ok (.invokevirtual 7, 3) := by decide +kernel
theorem kd_L_lot_12 : decode kc_L_lot 12 = .ok (.i2l, 1) := by decide +kernel
theorem kd_L_lot_13 : decode kc_L_lot 13 = .ok (.lastore, 1) := by decide +kernel
theorem kd_L_lot_14 : decode kc_L_lot 14 = .ok (.goto 11, 3) := by decide +kernel
theorem kd_L_lot_17 : decode kc_L_lot 17 = .ok (.astore 6, 2) := by decide +kernel
theorem kd_L_lot_19 : decode kc_L_lot 19 = .ok (.iconst 1, 1) := by decide +kernel
theorem kd_L_lot_20 : decode kc_L_lot 20 = .ok (.ireturn, 1) := by decide +kernel
theorem kd_L_lot_21 : decode kc_L_lot 21 = .ok (.astore 6, 2) := by decide +kernel
theorem kd_L_lot_23 : decode kc_L_lot 23 = .ok (.iconst 2, 1) := by decide +kernel
theorem kd_L_lot_24 : decode kc_L_lot 24 = .ok (.ireturn, 1) := by decide +kernel
theorem kd_L_lot_25 : decode kc_L_lot 25 = .ok (.iconst 0, 1) := by decide +kernel
theorem kd_L_lot_26 : decode kc_L_lot 26 = .ok (.ireturn, 1) := by decide +kernel
theorem kd_L_line_0 : decode kc_L_line 0 = .ok (.aload_n 3, 1) := by decide +kernel
theorem kd_L_line_1 : decode kc_L_line 1 = .ok (.iconst 0, 1) := by decide +kernel
theorem kd_L_line_2 : decode kc_L_line 2 = .ok (.aload_n 0, 1) := by decide +kernel
theorem kd_L_line_3 : decode kc_L_line 3 = .ok (.iload_n 1, 1) := by decide +kernel
theorem kd_L_line_4 : decode kc_L_line 4 = .ok (.iload_n 2, 1) := by decide +kernel
theorem kd_L_line_5 : decode kc_L_line 5 = .ok (.invokevirtual 17, 3) := by decide +kernel
theorem kd_L_line_8 : decode kc_L_line 8 = .ok (.i2l, 1) := by decide +kernel
theorem kd_L_line_9 : decode kc_L_line 9 = .ok (.lastore, 1) := by decide +kernel
theorem kd_L_line_10 : decode kc_L_line 10 = .ok (.goto 11, 3) := by decide +kernel
theorem kd_L_line_13 : decode kc_L_line 13 = .ok (.astore 4, 2) := by decide +kernel
theorem kd_L_line_15 : decode kc_L_line 15 = .ok (.iconst 1, 1) := by decide +kernel
theorem kd_L_line_16 : decode kc_L_line 16 = .ok (.ireturn, 1) := by decide +kernel
theorem kd_L_line_17 : decode kc_L_line 17 = .ok (.astore 4, 2) := by decide +kernel
theorem kd_L_line_19 : decode kc_L_line 19 = .ok (.iconst 2, 1) := by decide +kernel
theorem kd_L_line_20 : decode kc_L_line 20 = .ok (.ireturn, 1) := by decide +kernel
theorem kd_L_line_21 : decode kc_L_line 21 = .ok (.iconst 0, 1) := by decide +kernel
theorem kd_L_line_22 : decode kc_L_line 22 = .ok (.ireturn, 1) := by decide +kernel
theorem kd_L_rule_0 : decode kc_L_rule 0 = .ok (.aload_n 0, 1) := by decide +kernel
theorem kd_L_rule_1 : decode kc_L_rule 1 = .ok (.iload_n 1, 1) := by decide +kernel
theorem kd_L_rule_2 : decode kc_L_rule 2 = .ok (.iload_n 2, 1) := by decide +kernel
theorem kd_L_rule_3 : decode kc_L_rule 3 = .ok (.iload_n 3, 1) := by decide +kernel
theorem kd_L_rule_4 : decode kc_L_rule 4 = .ok (.invokevirtual 21, 3) := by decide +kernel
theorem kd_L_rule_7 : decode kc_L_rule 7 = .ok (.goto 11, 3) := by decide +kernel
theorem kd_L_rule_10 : decode kc_L_rule 10 = .ok (.astore 4, 2) := by decide +kernel
theorem kd_L_rule_12 : decode kc_L_rule 12 = .ok (.iconst 1, 1) := by decide +kernel
theorem kd_L_rule_13 : decode kc_L_rule 13 = .ok (.ireturn, 1) := by decide +kernel
theorem kd_L_rule_14 : decode kc_L_rule 14 = .ok (.astore 4, 2) := by decide +kernel
theorem kd_L_rule_16 : decode kc_L_rule 16 = .ok (.iconst 2, 1) := by decide +kernel
theorem kd_L_rule_17 : decode kc_L_rule 17 = .ok (.ireturn, 1) := by decide +kernel
theorem kd_L_rule_18 : decode kc_L_rule 18 = .ok (.iconst 0, 1) := by decide +kernel
theorem kd_L_rule_19 : decode kc_L_rule 19 = .ok (.ireturn, 1) := by decide +kernel
theorem kd_L_cost_0 : decode kc_L_cost 0 = .ok (.aload_n 0, 1) := by decide +kernel
theorem kd_L_cost_1 : decode kc_L_cost 1 = .ok (.iload_n 1, 1) := by decide +kernel
theorem kd_L_cost_2 : decode kc_L_cost 2 = .ok (.iload_n 2, 1) := by decide +kernel
theorem kd_L_cost_3 : decode kc_L_cost 3 = .ok (.iload_n 3, 1) := by decide +kernel
theorem kd_L_cost_4 : decode kc_L_cost 4 = .ok (.invokevirtual 27, 3) := by decide +kernel
theorem kd_L_cost_7 : decode kc_L_cost 7 = .ok (.goto 11, 3) := by decide +kernel
theorem kd_L_cost_10 : decode kc_L_cost 10 = .ok (.astore 4, 2) := by decide +kernel
theorem kd_L_cost_12 : decode kc_L_cost 12 = .ok (.iconst 1, 1) := by decide +kernel
theorem kd_L_cost_13 : decode kc_L_cost 13 = .ok (.ireturn, 1) := by decide +kernel
theorem kd_L_cost_14 : decode kc_L_cost 14 = .ok (.astore 4, 2) := by decide +kernel
theorem kd_L_cost_16 : decode kc_L_cost 16 = .ok (.iconst 2, 1) := by decide +kernel
theorem kd_L_cost_17 : decode kc_L_cost 17 = .ok (.ireturn, 1) := by decide +kernel
theorem kd_L_cost_18 : decode kc_L_cost 18 = .ok (.iconst 0, 1) := by decide +kernel
theorem kd_L_cost_19 : decode kc_L_cost 19 = .ok (.ireturn, 1) := by decide +kernel
theorem kd_L_may_0 : decode kc_L_may 0 = .ok (.aload 4, 2) := by decide +kernel
theorem kd_L_may_2 : decode kc_L_may 2 = .ok (.iconst 0, 1) := by decide +kernel
theorem kd_L_may_3 : decode kc_L_may 3 = .ok (.aload_n 0, 1) := by decide +kernel
theorem kd_L_may_4 : decode kc_L_may 4 = .ok (.iload_n 1, 1) := by decide +kernel
theorem kd_L_may_5 : decode kc_L_may 5 = .ok (.iload_n 2, 1) := by decide +kernel
theorem kd_L_may_6 : decode kc_L_may 6 = .ok (.iload_n 3, 1) := by decide +kernel
theorem kd_L_may_7 : decode kc_L_may 7 = .ok (.invokevirtual 30, 3) := by decide +kernel
theorem kd_L_may_10 : decode kc_L_may 10 = .ok (.ifCond .eq 7, 3) := by decide +kernel
theorem kd_L_may_13 : decode kc_L_may 13 = .ok (.lconst 1, 1) := by decide +kernel
theorem kd_L_may_14 : decode kc_L_may 14 = .ok (.goto 4, 3) := by decide +kernel
theorem kd_L_may_17 : decode kc_L_may 17 = .ok (.lconst 0, 1) := by decide +kernel
theorem kd_L_may_18 : decode kc_L_may 18 = .ok (.lastore, 1) := by decide +kernel
theorem kd_L_may_19 : decode kc_L_may 19 = .ok (.goto 7, 3) := by decide +kernel
theorem kd_L_may_22 : decode kc_L_may 22 = .ok (.astore 5, 2) := by decide +kernel
theorem kd_L_may_24 : decode kc_L_may 24 = .ok (.iconst 1, 1) := by decide +kernel
theorem kd_L_may_25 : decode kc_L_may 25 = .ok (.ireturn, 1) := by decide +kernel
theorem kd_L_may_26 : decode kc_L_may 26 = .ok (.iconst 0, 1) := by decide +kernel
theorem kd_L_may_27 : decode kc_L_may 27 = .ok (.ireturn, 1) := by decide +kernel
theorem kd_L_solve_0 : decode kc_L_solve 0 = .ok (.aload_n 2, 1) := by decide +kernel
theorem kd_L_solve_1 : decode kc_L_solve 1 = .ok (.iconst 0, 1) := by decide +kernel
theorem kd_L_solve_2 : decode kc_L_solve 2 = .ok (.aload_n 0, 1) := by decide +kernel
theorem kd_L_solve_3 : decode kc_L_solve 3 = .ok (.iload_n 1, 1) := by decide +kernel
theorem kd_L_solve_4 : decode kc_L_solve 4 = .ok (.invokevirtual 34, 3) := by decide +kernel
theorem kd_L_solve_7 : decode kc_L_solve 7 = .ok (.i2l, 1) := by decide +kernel
theorem kd_L_solve_8 : decode kc_L_solve 8 = .ok (.lastore, 1) := by decide +kernel
theorem kd_L_solve_9 : decode kc_L_solve 9 = .ok (.goto 6, 3) := by decide +kernel
theorem kd_L_solve_12 : decode kc_L_solve 12 = .ok (.astore_n 3, 1) := by decide +kernel
theorem kd_L_solve_13 : decode kc_L_solve 13 = .ok (.iconst 1, 1) := by decide +kernel
theorem kd_L_solve_14 : decode kc_L_solve 14 = .ok (.ireturn, 1) := by decide +kernel
theorem kd_L_solve_15 : decode kc_L_solve 15 = .ok (.iconst 0, 1) := by decide +kernel
theorem kd_L_solve_16 : decode kc_L_solve 16 = .ok (.ireturn, 1) := by decide +kernel
theorem kd_L_give_0 : decode kc_L_give 0 = .ok (.aload 4, 2) := by decide +kernel
theorem kd_L_give_2 : decode kc_L_give 2 = .ok (.iconst 0, 1) := by decide +kernel
theorem kd_L_give_3 : decode kc_L_give 3 = .ok (.aload_n 0, 1) := by decide +kernel
theorem kd_L_give_4 : decode kc_L_give 4 = .ok (.iload_n 1, 1) := by decide +kernel
theorem kd_L_give_5 : decode kc_L_give 5 = .ok (.iload_n 2, 1) := by decide +kernel
theorem kd_L_give_6 : decode kc_L_give 6 = .ok (.iload_n 3, 1) := by decide +kernel
theorem kd_L_give_7 : decode kc_L_give 7 = .ok (.invokevirtual 38, 3) := by decide +kernel
theorem kd_L_give_10 : decode kc_L_give 10 = .ok (.i2l, 1) := by decide +kernel
theorem kd_L_give_11 : decode kc_L_give 11 = .ok (.lastore, 1) := by decide +kernel
theorem kd_L_give_12 : decode kc_L_give 12 = .ok (.goto 11, 3) := by decide +kernel
theorem kd_L_give_15 : decode kc_L_give 15 = .ok (.astore 5, 2) := by decide +kernel
theorem kd_L_give_17 : decode kc_L_give 17 = .ok (.iconst 1, 1) := by decide +kernel
theorem kd_L_give_18 : decode kc_L_give 18 = .ok (.ireturn, 1) := by decide +kernel
theorem kd_L_give_19 : decode kc_L_give 19 = .ok (.astore 5, 2) := by decide +kernel
theorem kd_L_give_21 : decode kc_L_give 21 = .ok (.iconst 2, 1) := by decide +kernel
theorem kd_L_give_22 : decode kc_L_give 22 = .ok (.ireturn, 1) := by decide +kernel
theorem kd_L_give_23 : decode kc_L_give 23 = .ok (.iconst 0, 1) := by decide +kernel
theorem kd_L_give_24 : decode kc_L_give 24 = .ok (.ireturn, 1) := by decide +kernel
theorem kd_L_held_0 : decode kc_L_held 0 = .ok (.aload_n 2, 1) := by decide +kernel
theorem kd_L_held_1 : decode kc_L_held 1 = .ok (.iconst 0, 1) := by decide +kernel
theorem kd_L_held_2 : decode kc_L_held 2 = .ok (.aload_n 0, 1) := by decide +kernel
theorem kd_L_held_3 : decode kc_L_held 3 = .ok (.iload_n 1, 1) := by decide +kernel
theorem kd_L_held_4 : decode kc_L_held 4 = .ok (.invokevirtual 42, 3) := by decide +kernel
theorem kd_L_held_7 : decode kc_L_held 7 = .ok (.i2l, 1) := by decide +kernel
theorem kd_L_held_8 : decode kc_L_held 8 = .ok (.lastore, 1) := by decide +kernel
theorem kd_L_held_9 : decode kc_L_held 9 = .ok (.goto 6, 3) := by decide +kernel
theorem kd_L_held_12 : decode kc_L_held 12 = .ok (.astore_n 3, 1) := by decide +kernel
theorem kd_L_held_13 : decode kc_L_held 13 = .ok (.iconst 1, 1) := by decide +kernel
theorem kd_L_held_14 : decode kc_L_held 14 = .ok (.ireturn, 1) := by decide +kernel
theorem kd_L_held_15 : decode kc_L_held 15 = .ok (.iconst 0, 1) := by decide +kernel
theorem kd_L_held_16 : decode kc_L_held 16 = .ok (.ireturn, 1) := by decide +kernel
theorem kd_L_left_0 : decode kc_L_left 0 = .ok (.aload_n 2, 1) := by decide +kernel
theorem kd_L_left_1 : decode kc_L_left 1 = .ok (.iconst 0, 1) := by decide +kernel
theorem kd_L_left_2 : decode kc_L_left 2 = .ok (.aload_n 0, 1) := by decide +kernel
theorem kd_L_left_3 : decode kc_L_left 3 = .ok (.iload_n 1, 1) := by decide +kernel
theorem kd_L_left_4 : decode kc_L_left 4 = .ok (.invokevirtual 45, 3) := by decide +kernel
theorem kd_L_left_7 : decode kc_L_left 7 = .ok (.i2l, 1) := by decide +kernel
theorem kd_L_left_8 : decode kc_L_left 8 = .ok (.lastore, 1) := by decide +kernel
theorem kd_L_left_9 : decode kc_L_left 9 = .ok (.goto 6, 3) := by decide +kernel
theorem kd_L_left_12 : decode kc_L_left 12 = .ok (.astore_n 3, 1) := by decide +kernel
theorem kd_L_left_13 : decode kc_L_left 13 = .ok (.iconst 1, 1) := by decide +kernel
theorem kd_L_left_14 : decode kc_L_left 14 = .ok (.ireturn, 1) := by decide +kernel
theorem kd_L_left_15 : decode kc_L_left 15 = .ok (.iconst 0, 1) := by decide +kernel
theorem kd_L_left_16 : decode kc_L_left 16 = .ok (.ireturn, 1) := by decide +kernel
theorem kd_L_bar_0 : decode kc_L_bar 0 = .ok (.aload_n 2, 1) := by decide +kernel
theorem kd_L_bar_1 : decode kc_L_bar 1 = .ok (.iconst 0, 1) := by decide +kernel
theorem kd_L_bar_2 : decode kc_L_bar 2 = .ok (.aload_n 0, 1) := by decide +kernel
theorem kd_L_bar_3 : decode kc_L_bar 3 = .ok (.iload_n 1, 1) := by decide +kernel
theorem kd_L_bar_4 : decode kc_L_bar 4 = .ok (.invokevirtual 48, 3) := by decide +kernel
theorem kd_L_bar_7 : decode kc_L_bar 7 = .ok (.i2l, 1) := by decide +kernel
theorem kd_L_bar_8 : decode kc_L_bar 8 = .ok (.lastore, 1) := by decide +kernel
theorem kd_L_bar_9 : decode kc_L_bar 9 = .ok (.goto 6, 3) := by decide +kernel
theorem kd_L_bar_12 : decode kc_L_bar 12 = .ok (.astore_n 3, 1) := by decide +kernel
theorem kd_L_bar_13 : decode kc_L_bar 13 = .ok (.iconst 1, 1) := by decide +kernel
theorem kd_L_bar_14 : decode kc_L_bar 14 = .ok (.ireturn, 1) := by decide +kernel
theorem kd_L_bar_15 : decode kc_L_bar 15 = .ok (.iconst 0, 1) := by decide +kernel
theorem kd_L_bar_16 : decode kc_L_bar 16 = .ok (.ireturn, 1) := by decide +kernel
theorem kd_L_change_0 : decode kc_L_change 0 = .ok (.aload_n 3, 1) := by decide +kernel
theorem kd_L_change_1 : decode kc_L_change 1 = .ok (.iconst 0, 1) := by decide +kernel
theorem kd_L_change_2 : decode kc_L_change 2 = .ok (.aload_n 0, 1) := by decide +kernel
theorem kd_L_change_3 : decode kc_L_change 3 = .ok (.iload_n 1, 1) := by decide +kernel
theorem kd_L_change_4 : decode kc_L_change 4 = .ok (.iload_n 2, 1) := by decide +kernel
theorem kd_L_change_5 : decode kc_L_change 5 = .ok (.invokevirtual 51, 3) := by decide +kernel
theorem kd_L_change_8 : decode kc_L_change 8 = .ok (.i2l, 1) := by decide +kernel
theorem kd_L_change_9 : decode kc_L_change 9 = .ok (.lastore, 1) := by decide +kernel
theorem kd_L_change_10 : decode kc_L_change 10 = .ok (.goto 11, 3) := by decide +kernel
theorem kd_L_change_13 : decode kc_L_change 13 = .ok (.astore 4, 2) := by decide +kernel
theorem kd_L_change_15 : decode kc_L_change 15 = .ok (.iconst 1, 1) := by decide +kernel
theorem kd_L_change_16 : decode kc_L_change 16 = .ok (.ireturn, 1) := by decide +kernel
theorem kd_L_change_17 : decode kc_L_change 17 = .ok (.astore 4, 2) := by decide +kernel
theorem kd_L_change_19 : decode kc_L_change 19 = .ok (.iconst 2, 1) := by decide +kernel
theorem kd_L_change_20 : decode kc_L_change 20 = .ok (.ireturn, 1) := by decide +kernel
theorem kd_L_change_21 : decode kc_L_change 21 = .ok (.iconst 0, 1) := by decide +kernel
theorem kd_L_change_22 : decode kc_L_change 22 = .ok (.ireturn, 1) := by decide +kernel
theorem kd_L_undo_0 : decode kc_L_undo 0 = .ok (.aload_n 2, 1) := by decide +kernel
theorem kd_L_undo_1 : decode kc_L_undo 1 = .ok (.iconst 0, 1) := by decide +kernel
theorem kd_L_undo_2 : decode kc_L_undo 2 = .ok (.aload_n 0, 1) := by decide +kernel
theorem kd_L_undo_3 : decode kc_L_undo 3 = .ok (.iload_n 1, 1) := by decide +kernel
theorem kd_L_undo_4 : decode kc_L_undo 4 = .ok (.invokevirtual 54, 3) := by decide +kernel
theorem kd_L_undo_7 : decode kc_L_undo 7 = .ok (.i2l, 1) := by decide +kernel
theorem kd_L_undo_8 : decode kc_L_undo 8 = .ok (.lastore, 1) := by decide +kernel
theorem kd_L_undo_9 : decode kc_L_undo 9 = .ok (.goto 9, 3) := by decide +kernel
theorem kd_L_undo_12 : decode kc_L_undo 12 = .ok (.astore_n 3, 1) := by decide +kernel
theorem kd_L_undo_13 : decode kc_L_undo 13 = .ok (.iconst 1, 1) := by decide +kernel
theorem kd_L_undo_14 : decode kc_L_undo 14 = .ok (.ireturn, 1) := by decide +kernel
theorem kd_L_undo_15 : decode kc_L_undo 15 = .ok (.astore_n 3, 1) := by decide +kernel
theorem kd_L_undo_16 : decode kc_L_undo 16 = .ok (.iconst 2, 1) := by decide +kernel
theorem kd_L_undo_17 : decode kc_L_undo 17 = .ok (.ireturn, 1) := by decide +kernel
theorem kd_L_undo_18 : decode kc_L_undo 18 = .ok (.iconst 0, 1) := by decide +kernel
theorem kd_L_undo_19 : decode kc_L_undo 19 = .ok (.ireturn, 1) := by decide +kernel
theorem kd_L_refused_0 : decode kc_L_refused 0 = .ok (.aload_n 2, 1) := by decide +kernel
theorem kd_L_refused_1 : decode kc_L_refused 1 = .ok (.iconst 0, 1) := by decide +kernel
theorem kd_L_refused_2 : decode kc_L_refused 2 = .ok (.aload_n 0, 1) := by decide +kernel
theorem kd_L_refused_3 : decode kc_L_refused 3 = .ok (.iload_n 1, 1) := by decide +kernel
theorem kd_L_refused_4 : decode kc_L_refused 4 = .ok (.invokevirtual 59, 3) := by decide +kernel
theorem kd_L_refused_7 : decode kc_L_refused 7 = .ok (.i2l, 1) := by decide +kernel
theorem kd_L_refused_8 : decode kc_L_refused 8 = .ok (.lastore, 1) := by decide +kernel
theorem kd_L_refused_9 : decode kc_L_refused 9 = .ok (.goto 6, 3) := by decide +kernel
theorem kd_L_refused_12 : decode kc_L_refused 12 = .ok (.astore_n 3, 1) := by decide +kernel
theorem kd_L_refused_13 : decode kc_L_refused 13 = .ok (.iconst 1, 1) := by decide +kernel
theorem kd_L_refused_14 : decode kc_L_refused 14 = .ok (.ireturn, 1) := by decide +kernel
theorem kd_L_refused_15 : decode kc_L_refused 15 = .ok (.iconst 0, 1) := by decide +kernel
theorem kd_L_refused_16 : decode kc_L_refused 16 = .ok (.ireturn, 1) := by decide +kernel
theorem kd_L_average_0 : decode kc_L_average 0 = .ok (.aload_n 2, 1) := by decide +kernel
theorem kd_L_average_1 : decode kc_L_average 1 = .ok (.iconst 0, 1) := by decide +kernel
theorem kd_L_average_2 : decode kc_L_average 2 = .ok (.aload_n 0, 1) := by decide +kernel
theorem kd_L_average_3 : decode kc_L_average 3 = .ok (.iload_n 1, 1) := by decide +kernel
theorem kd_L_average_4 : decode kc_L_average 4 = .ok (.invokevirtual 62, 3) := by decide +kernel
theorem kd_L_average_7 : decode kc_L_average 7 = .ok (.i2l, 1) := by decide +kernel
theorem kd_L_average_8 : decode kc_L_average 8 = .ok (.lastore, 1) := by decide +kernel
theorem kd_L_average_9 : decode kc_L_average 9 = .ok (.goto 9, 3) := by decide +kernel
theorem kd_L_average_12 : decode kc_L_average 12 = .ok (.astore_n 3, 1) := by decide +kernel
theorem kd_L_average_13 : decode kc_L_average 13 = .ok (.iconst 1, 1) := by decide +kernel
theorem kd_L_average_14 : decode kc_L_average 14 = .ok (.ireturn, 1) := by decide +kernel
theorem kd_L_average_15 : decode kc_L_average 15 = .ok (.astore_n 3, 1) := by decide +kernel
theorem kd_L_average_16 : decode kc_L_average 16 = .ok (.iconst 2, 1) := by decide +kernel
theorem kd_L_average_17 : decode kc_L_average 17 = .ok (.ireturn, 1) := by decide +kernel
theorem kd_L_average_18 : decode kc_L_average 18 = .ok (.iconst 0, 1) := by decide +kernel
theorem kd_L_average_19 : decode kc_L_average 19 = .ok (.ireturn, 1) := by decide +kernel
theorem kd_L_law_0 : decode kc_L_law 0 = .ok (.new 8, 3) := by decide +kernel
theorem kd_L_law_3 : decode kc_L_law 3 = .ok (.dup, 1) := by decide +kernel
theorem kd_L_law_4 : decode kc_L_law 4 = .ok (.invokespecial 67, 3) := by decide +kernel
theorem kd_L_law_7 : decode kc_L_law 7 = .ok (.astore_n 1, 1) := by decide +kernel
theorem kd_L_law_8 : decode kc_L_law 8 = .ok (.new 68, 3) := by decide +kernel
theorem kd_L_law_11 : decode kc_L_law 11 = .ok (.dup, 1) := by decide +kernel
theorem kd_L_law_12 : decode kc_L_law 12 = .ok (.invokespecial 70, 3) := by decide +kernel
theorem kd_L_law_15 : decode kc_L_law 15 = .ok (.astore_n 2, 1) := by decide +kernel
theorem kd_L_law_16 : decode kc_L_law 16 = .ok (.iconst 1, 1) := by decide +kernel
theorem kd_L_law_17 : decode kc_L_law 17 = .ok (.newarray .long, 2) := by decide +kernel
theorem kd_L_law_19 : decode kc_L_law 19 = .ok (.astore_n 3, 1) := by decide +kernel
theorem kd_L_law_20 : decode kc_L_law 20 = .ok (.iconst 0, 1) := by decide +kernel
theorem kd_L_law_21 : decode kc_L_law 21 = .ok (.istore 4, 2) := by decide +kernel
theorem kd_L_law_23 : decode kc_L_law 23 = .ok (.iload 4, 2) := by decide +kernel
theorem kd_L_law_25 : decode kc_L_law 25 = .ok (.aload_n 0, 1) := by decide +kernel
theorem kd_L_law_26 : decode kc_L_law 26 = .ok (.arraylength, 1) := by decide +kernel
theorem kd_L_law_27 : decode kc_L_law 27 = .ok (.iconst 5, 1) := by decide +kernel
theorem kd_L_law_28 : decode kc_L_law 28 = .ok (.isub, 1) := by decide +kernel
theorem kd_L_law_29 : decode kc_L_law 29 = .ok (.if_icmp .gt 1088, 3) := by decide +kernel
theorem kd_L_law_32 : decode kc_L_law 32 = .ok (.aload_n 0, 1) := by decide +kernel
theorem kd_L_law_33 : decode kc_L_law 33 = .ok (.iload 4, 2) := by decide +kernel
theorem kd_L_law_35 : decode kc_L_law 35 = .ok (.iaload, 1) := by decide +kernel
theorem kd_L_law_36 : decode kc_L_law 36 = .ok (.bipush 31, 2) := by decide +kernel
theorem kd_L_law_38 : decode kc_L_law 38 = .ok (.iand, 1) := by decide +kernel
theorem kd_L_law_39 : decode kc_L_law 39 = .ok (.tableswitch 1072 0 17 #[85, 177, 245, 305, 365, 468, 524, 537, 550, 563, 643, 699, 755, 811, 879, 935, 991, 1047], 85) := by decide +kernel
theorem kd_L_law_124 : decode kc_L_law 124 = .ok (.aload_n 1, 1) := by decide +kernel
theorem kd_L_law_125 : decode kc_L_law 125 = .ok (.aload_n 0, 1) := by decide +kernel
theorem kd_L_law_126 : decode kc_L_law 126 = .ok (.iload 4, 2) := by decide +kernel
theorem kd_L_law_128 : decode kc_L_law 128 = .ok (.iconst 1, 1) := by decide +kernel
theorem kd_L_law_129 : decode kc_L_law 129 = .ok (.iadd, 1) := by decide +kernel
theorem kd_L_law_130 : decode kc_L_law 130 = .ok (.iaload, 1) := by decide +kernel
theorem kd_L_law_131 : decode kc_L_law 131 = .ok (.aload_n 0, 1) := by decide +kernel
theorem kd_L_law_132 : decode kc_L_law 132 = .ok (.iload 4, 2) := by decide +kernel
theorem kd_L_law_134 : decode kc_L_law 134 = .ok (.iconst 2, 1) := by decide +kernel
theorem kd_L_law_135 : decode kc_L_law 135 = .ok (.iadd, 1) := by decide +kernel
theorem kd_L_law_136 : decode kc_L_law 136 = .ok (.iaload, 1) := by decide +kernel
theorem kd_L_law_137 : decode kc_L_law 137 = .ok (.aload_n 0, 1) := by decide +kernel
theorem kd_L_law_138 : decode kc_L_law 138 = .ok (.iload 4, 2) := by decide +kernel
theorem kd_L_law_140 : decode kc_L_law 140 = .ok (.iconst 3, 1) := by decide +kernel
theorem kd_L_law_141 : decode kc_L_law 141 = .ok (.iadd, 1) := by decide +kernel
theorem kd_L_law_142 : decode kc_L_law 142 = .ok (.iaload, 1) := by decide +kernel
theorem kd_L_law_143 : decode kc_L_law 143 = .ok (.aload_n 0, 1) := by decide +kernel
theorem kd_L_law_144 : decode kc_L_law 144 = .ok (.iload 4, 2) := by decide +kernel
theorem kd_L_law_146 : decode kc_L_law 146 = .ok (.iconst 4, 1) := by decide +kernel
theorem kd_L_law_147 : decode kc_L_law 147 = .ok (.iadd, 1) := by decide +kernel
theorem kd_L_law_148 : decode kc_L_law 148 = .ok (.iaload, 1) := by decide +kernel
theorem kd_L_law_149 : decode kc_L_law 149 = .ok (.aload_n 3, 1) := by decide +kernel
theorem kd_L_law_150 : decode kc_L_law 150 = .ok (.invokestatic 71, 3) := by decide +kernel
theorem kd_L_law_153 : decode kc_L_law 153 = .ok (.istore 5, 2) := by decide +kernel
theorem kd_L_law_155 : decode kc_L_law 155 = .ok (.aload_n 2, 1) := by decide +kernel
theorem kd_L_law_156 : decode kc_L_law 156 = .ok (.aload_n 0, 1) := by decide +kernel
theorem kd_L_law_157 : decode kc_L_law 157 = .ok (.iload 4, 2) := by decide +kernel
theorem kd_L_law_159 : decode kc_L_law 159 = .ok (.iconst 1, 1) := by decide +kernel
theorem kd_L_law_160 : decode kc_L_law 160 = .ok (.iadd, 1) := by decide +kernel
theorem kd_L_law_161 : decode kc_L_law 161 = .ok (.iaload, 1) := by decide +kernel
theorem kd_L_law_162 : decode kc_L_law 162 = .ok (.aload_n 0, 1) := by decide +kernel
theorem kd_L_law_163 : decode kc_L_law 163 = .ok (.iload 4, 2) := by decide +kernel
theorem kd_L_law_165 : decode kc_L_law 165 = .ok (.iconst 2, 1) := by decide +kernel
theorem kd_L_law_166 : decode kc_L_law 166 = .ok (.iadd, 1) := by decide +kernel
theorem kd_L_law_167 : decode kc_L_law 167 = .ok (.iaload, 1) := by decide +kernel
theorem kd_L_law_168 : decode kc_L_law 168 = .ok (.aload_n 0, 1) := by decide +kernel
theorem kd_L_law_169 : decode kc_L_law 169 = .ok (.iload 4, 2) := by decide +kernel
theorem kd_L_law_171 : decode kc_L_law 171 = .ok (.iconst 3, 1) := by decide +kernel
theorem kd_L_law_172 : decode kc_L_law 172 = .ok (.iadd, 1) := by decide +kernel
theorem kd_L_law_173 : decode kc_L_law 173 = .ok (.iaload, 1) := by decide +kernel
theorem kd_L_law_174 : decode kc_L_law 174 = .ok (.aload_n 0, 1) := by decide +kernel
theorem kd_L_law_175 : decode kc_L_law 175 = .ok (.iload 4, 2) := by decide +kernel
theorem kd_L_law_177 : decode kc_L_law 177 = .ok (.iconst 4, 1) := by decide +kernel
theorem kd_L_law_178 : decode kc_L_law 178 = .ok (.iadd, 1) := by decide +kernel
theorem kd_L_law_179 : decode kc_L_law 179 = .ok (.iaload, 1) := by decide +kernel
theorem kd_L_law_180 : decode kc_L_law 180 = .ok (.invokevirtual 76, 3) := by decide +kernel
theorem kd_L_law_183 : decode kc_L_law 183 = .ok (.istore 6, 2) := by decide +kernel
theorem kd_L_law_185 : decode kc_L_law 185 = .ok (.aload_n 2, 1) := by decide +kernel
theorem kd_L_law_186 : decode kc_L_law 186 = .ok (.invokevirtual 77, 3) := by decide +kernel
theorem kd_L_law_189 : decode kc_L_law 189 = .ok (.iload 5, 2) := by decide +kernel
theorem kd_L_law_191 : decode kc_L_law 191 = .ok (.if_icmp .eq 5, 3) := by decide +kernel
theorem kd_L_law_194 : decode kc_L_law 194 = .ok (.iconst 0, 1) := by decide +kernel
theorem kd_L_law_195 : decode kc_L_law 195 = .ok (.ireturn, 1) := by decide +kernel
theorem kd_L_law_196 : decode kc_L_law 196 = .ok (.iload 5, 2) := by decide +kernel
theorem kd_L_law_198 : decode kc_L_law 198 = .ok (.ifCond .ne 15, 3) := by decide +kernel
theorem kd_L_law_201 : decode kc_L_law 201 = .ok (.aload_n 3, 1) := by decide +kernel
theorem kd_L_law_202 : decode kc_L_law 202 = .ok (.iconst 0, 1) := by decide +kernel
theorem kd_L_law_203 : decode kc_L_law 203 = .ok (.laload, 1) := by decide +kernel
theorem kd_L_law_204 : decode kc_L_law 204 = .ok (.iload 6, 2) := by decide +kernel
theorem kd_L_law_206 : decode kc_L_law 206 = .ok (.i2l, 1) := by decide +kernel
theorem kd_L_law_207 : decode kc_L_law 207 = .ok (.lcmp, 1) := by decide +kernel
theorem kd_L_law_208 : decode kc_L_law 208 = .ok (.ifCond .eq 5, 3) := by decide +kernel
theorem kd_L_law_211 : decode kc_L_law 211 = .ok (.iconst 0, 1) := by decide +kernel
theorem kd_L_law_212 : decode kc_L_law 212 = .ok (.ireturn, 1) := by decide +kernel
theorem kd_L_law_213 : decode kc_L_law 213 = .ok (.goto 898, 3) := by decide +kernel
theorem kd_L_law_216 : decode kc_L_law 216 = .ok (.aload_n 1, 1) := by decide +kernel
theorem kd_L_law_217 : decode kc_L_law 217 = .ok (.aload_n 0, 1) := by decide +kernel
theorem kd_L_law_218 : decode kc_L_law 218 = .ok (.iload 4, 2) := by decide +kernel
theorem kd_L_law_220 : decode kc_L_law 220 = .ok (.iconst 1, 1) := by decide +kernel
theorem kd_L_law_221 : decode kc_L_law 221 = .ok (.iadd, 1) := by decide +kernel
theorem kd_L_law_222 : decode kc_L_law 222 = .ok (.iaload, 1) := by decide +kernel
theorem kd_L_law_223 : decode kc_L_law 223 = .ok (.aload_n 0, 1) := by decide +kernel
theorem kd_L_law_224 : decode kc_L_law 224 = .ok (.iload 4, 2) := by decide +kernel
theorem kd_L_law_226 : decode kc_L_law 226 = .ok (.iconst 2, 1) := by decide +kernel
theorem kd_L_law_227 : decode kc_L_law 227 = .ok (.iadd, 1) := by decide +kernel
theorem kd_L_law_228 : decode kc_L_law 228 = .ok (.iaload, 1) := by decide +kernel
theorem kd_L_law_229 : decode kc_L_law 229 = .ok (.aload_n 3, 1) := by decide +kernel
theorem kd_L_law_230 : decode kc_L_law 230 = .ok (.invokestatic 81, 3) := by decide +kernel
theorem kd_L_law_233 : decode kc_L_law 233 = .ok (.istore 5, 2) := by decide +kernel
theorem kd_L_law_235 : decode kc_L_law 235 = .ok (.aload_n 2, 1) := by decide +kernel
theorem kd_L_law_236 : decode kc_L_law 236 = .ok (.aload_n 0, 1) := by decide +kernel
theorem kd_L_law_237 : decode kc_L_law 237 = .ok (.iload 4, 2) := by decide +kernel
theorem kd_L_law_239 : decode kc_L_law 239 = .ok (.iconst 1, 1) := by decide +kernel
theorem kd_L_law_240 : decode kc_L_law 240 = .ok (.iadd, 1) := by decide +kernel
theorem kd_L_law_241 : decode kc_L_law 241 = .ok (.iaload, 1) := by decide +kernel
theorem kd_L_law_242 : decode kc_L_law 242 = .ok (.aload_n 0, 1) := by decide +kernel
theorem kd_L_law_243 : decode kc_L_law 243 = .ok (.iload 4, 2) := by decide +kernel
theorem kd_L_law_245 : decode kc_L_law 245 = .ok (.iconst 2, 1) := by decide +kernel
theorem kd_L_law_246 : decode kc_L_law 246 = .ok (.iadd, 1) := by decide +kernel
theorem kd_L_law_247 : decode kc_L_law 247 = .ok (.iaload, 1) := by decide +kernel
theorem kd_L_law_248 : decode kc_L_law 248 = .ok (.invokevirtual 84, 3) := by decide +kernel
theorem kd_L_law_251 : decode kc_L_law 251 = .ok (.istore 6, 2) := by decide +kernel
theorem kd_L_law_253 : decode kc_L_law 253 = .ok (.aload_n 2, 1) := by decide +kernel
theorem kd_L_law_254 : decode kc_L_law 254 = .ok (.invokevirtual 77, 3) := by decide +kernel
theorem kd_L_law_257 : decode kc_L_law 257 = .ok (.iload 5, 2) := by decide +kernel
theorem kd_L_law_259 : decode kc_L_law 259 = .ok (.if_icmp .eq 5, 3) := by decide +kernel
theorem kd_L_law_262 : decode kc_L_law 262 = .ok (.iconst 0, 1) := by decide +kernel
theorem kd_L_law_263 : decode kc_L_law 263 = .ok (.ireturn, 1) := by decide +kernel
theorem kd_L_law_264 : decode kc_L_law 264 = .ok (.iload 5, 2) := by decide +kernel
theorem kd_L_law_266 : decode kc_L_law 266 = .ok (.ifCond .ne 15, 3) := by decide +kernel
theorem kd_L_law_269 : decode kc_L_law 269 = .ok (.aload_n 3, 1) := by decide +kernel
theorem kd_L_law_270 : decode kc_L_law 270 = .ok (.iconst 0, 1) := by decide +kernel
theorem kd_L_law_271 : decode kc_L_law 271 = .ok (.laload, 1) := by decide +kernel
theorem kd_L_law_272 : decode kc_L_law 272 = .ok (.iload 6, 2) := by decide +kernel
theorem kd_L_law_274 : decode kc_L_law 274 = .ok (.i2l, 1) := by decide +kernel
theorem kd_L_law_275 : decode kc_L_law 275 = .ok (.lcmp, 1) := by decide +kernel
theorem kd_L_law_276 : decode kc_L_law 276 = .ok (.ifCond .eq 5, 3) := by decide +kernel
theorem kd_L_law_279 : decode kc_L_law 279 = .ok (.iconst 0, 1) := by decide +kernel
theorem kd_L_law_280 : decode kc_L_law 280 = .ok (.ireturn, 1) := by decide +kernel
theorem kd_L_law_281 : decode kc_L_law 281 = .ok (.goto 830, 3) := by decide +kernel
theorem kd_L_law_284 : decode kc_L_law 284 = .ok (.aload_n 1, 1) := by decide +kernel
theorem kd_L_law_285 : decode kc_L_law 285 = .ok (.aload_n 0, 1) := by decide +kernel
theorem kd_L_law_286 : decode kc_L_law 286 = .ok (.iload 4, 2) := by decide +kernel
theorem kd_L_law_288 : decode kc_L_law 288 = .ok (.iconst 1, 1) := by decide +kernel
theorem kd_L_law_289 : decode kc_L_law 289 = .ok (.iadd, 1) := by decide +kernel
theorem kd_L_law_290 : decode kc_L_law 290 = .ok (.iaload, 1) := by decide +kernel
theorem kd_L_law_291 : decode kc_L_law 291 = .ok (.aload_n 0, 1) := by decide +kernel
theorem kd_L_law_292 : decode kc_L_law 292 = .ok (.iload 4, 2) := by decide +kernel
theorem kd_L_law_294 : decode kc_L_law 294 = .ok (.iconst 2, 1) := by decide +kernel
theorem kd_L_law_295 : decode kc_L_law 295 = .ok (.iadd, 1) := by decide +kernel
theorem kd_L_law_296 : decode kc_L_law 296 = .ok (.iaload, 1) := by decide +kernel
theorem kd_L_law_297 : decode kc_L_law 297 = .ok (.aload_n 0, 1) := by decide +kernel
theorem kd_L_law_298 : decode kc_L_law 298 = .ok (.iload 4, 2) := by decide +kernel
theorem kd_L_law_300 : decode kc_L_law 300 = .ok (.iconst 3, 1) := by decide +kernel
theorem kd_L_law_301 : decode kc_L_law 301 = .ok (.iadd, 1) := by decide +kernel
theorem kd_L_law_302 : decode kc_L_law 302 = .ok (.iaload, 1) := by decide +kernel
theorem kd_L_law_303 : decode kc_L_law 303 = .ok (.invokestatic 85, 3) := by decide +kernel
theorem kd_L_law_306 : decode kc_L_law 306 = .ok (.istore 5, 2) := by decide +kernel
theorem kd_L_law_308 : decode kc_L_law 308 = .ok (.aload_n 2, 1) := by decide +kernel
theorem kd_L_law_309 : decode kc_L_law 309 = .ok (.aload_n 0, 1) := by decide +kernel
theorem kd_L_law_310 : decode kc_L_law 310 = .ok (.iload 4, 2) := by decide +kernel
theorem kd_L_law_312 : decode kc_L_law 312 = .ok (.iconst 1, 1) := by decide +kernel
theorem kd_L_law_313 : decode kc_L_law 313 = .ok (.iadd, 1) := by decide +kernel
theorem kd_L_law_314 : decode kc_L_law 314 = .ok (.iaload, 1) := by decide +kernel
theorem kd_L_law_315 : decode kc_L_law 315 = .ok (.aload_n 0, 1) := by decide +kernel
theorem kd_L_law_316 : decode kc_L_law 316 = .ok (.iload 4, 2) := by decide +kernel
theorem kd_L_law_318 : decode kc_L_law 318 = .ok (.iconst 2, 1) := by decide +kernel
theorem kd_L_law_319 : decode kc_L_law 319 = .ok (.iadd, 1) := by decide +kernel
theorem kd_L_law_320 : decode kc_L_law 320 = .ok (.iaload, 1) := by decide +kernel
theorem kd_L_law_321 : decode kc_L_law 321 = .ok (.aload_n 0, 1) := by decide +kernel
theorem kd_L_law_322 : decode kc_L_law 322 = .ok (.iload 4, 2) := by decide +kernel
theorem kd_L_law_324 : decode kc_L_law 324 = .ok (.iconst 3, 1) := by decide +kernel
theorem kd_L_law_325 : decode kc_L_law 325 = .ok (.iadd, 1) := by decide +kernel
theorem kd_L_law_326 : decode kc_L_law 326 = .ok (.iaload, 1) := by decide +kernel
theorem kd_L_law_327 : decode kc_L_law 327 = .ok (.invokevirtual 88, 3) := by decide +kernel
theorem kd_L_law_330 : decode kc_L_law 330 = .ok (.aload_n 2, 1) := by decide +kernel
theorem kd_L_law_331 : decode kc_L_law 331 = .ok (.invokevirtual 77, 3) := by decide +kernel
theorem kd_L_law_334 : decode kc_L_law 334 = .ok (.iload 5, 2) := by decide +kernel
theorem kd_L_law_336 : decode kc_L_law 336 = .ok (.if_icmp .eq 5, 3) := by decide +kernel
theorem kd_L_law_339 : decode kc_L_law 339 = .ok (.iconst 0, 1) := by decide +kernel
theorem kd_L_law_340 : decode kc_L_law 340 = .ok (.ireturn, 1) := by decide +kernel
theorem kd_L_law_341 : decode kc_L_law 341 = .ok (.goto 770, 3) := by decide +kernel
theorem kd_L_law_344 : decode kc_L_law 344 = .ok (.aload_n 1, 1) := by decide +kernel
theorem kd_L_law_345 : decode kc_L_law 345 = .ok (.aload_n 0, 1) := by decide +kernel
theorem kd_L_law_346 : decode kc_L_law 346 = .ok (.iload 4, 2) := by decide +kernel
theorem kd_L_law_348 : decode kc_L_law 348 = .ok (.iconst 1, 1) := by decide +kernel
theorem kd_L_law_349 : decode kc_L_law 349 = .ok (.iadd, 1) := by decide +kernel
theorem kd_L_law_350 : decode kc_L_law 350 = .ok (.iaload, 1) := by decide +kernel
theorem kd_L_law_351 : decode kc_L_law 351 = .ok (.aload_n 0, 1) := by decide +kernel
theorem kd_L_law_352 : decode kc_L_law 352 = .ok (.iload 4, 2) := by decide +kernel
theorem kd_L_law_354 : decode kc_L_law 354 = .ok (.iconst 2, 1) := by decide +kernel
theorem kd_L_law_355 : decode kc_L_law 355 = .ok (.iadd, 1) := by decide +kernel
theorem kd_L_law_356 : decode kc_L_law 356 = .ok (.iaload, 1) := by decide +kernel
theorem kd_L_law_357 : decode kc_L_law 357 = .ok (.aload_n 0, 1) := by decide +kernel
theorem kd_L_law_358 : decode kc_L_law 358 = .ok (.iload 4, 2) := by decide +kernel
theorem kd_L_law_360 : decode kc_L_law 360 = .ok (.iconst 3, 1) := by decide +kernel
theorem kd_L_law_361 : decode kc_L_law 361 = .ok (.iadd, 1) := by decide +kernel
theorem kd_L_law_362 : decode kc_L_law 362 = .ok (.iaload, 1) := by decide +kernel
theorem kd_L_law_363 : decode kc_L_law 363 = .ok (.invokestatic 89, 3) := by decide +kernel
theorem kd_L_law_366 : decode kc_L_law 366 = .ok (.istore 5, 2) := by decide +kernel
theorem kd_L_law_368 : decode kc_L_law 368 = .ok (.aload_n 2, 1) := by decide +kernel
theorem kd_L_law_369 : decode kc_L_law 369 = .ok (.aload_n 0, 1) := by decide +kernel
theorem kd_L_law_370 : decode kc_L_law 370 = .ok (.iload 4, 2) := by decide +kernel
theorem kd_L_law_372 : decode kc_L_law 372 = .ok (.iconst 1, 1) := by decide +kernel
theorem kd_L_law_373 : decode kc_L_law 373 = .ok (.iadd, 1) := by decide +kernel
theorem kd_L_law_374 : decode kc_L_law 374 = .ok (.iaload, 1) := by decide +kernel
theorem kd_L_law_375 : decode kc_L_law 375 = .ok (.aload_n 0, 1) := by decide +kernel
theorem kd_L_law_376 : decode kc_L_law 376 = .ok (.iload 4, 2) := by decide +kernel
theorem kd_L_law_378 : decode kc_L_law 378 = .ok (.iconst 2, 1) := by decide +kernel
theorem kd_L_law_379 : decode kc_L_law 379 = .ok (.iadd, 1) := by decide +kernel
theorem kd_L_law_380 : decode kc_L_law 380 = .ok (.iaload, 1) := by decide +kernel
theorem kd_L_law_381 : decode kc_L_law 381 = .ok (.aload_n 0, 1) := by decide +kernel
theorem kd_L_law_382 : decode kc_L_law 382 = .ok (.iload 4, 2) := by decide +kernel
theorem kd_L_law_384 : decode kc_L_law 384 = .ok (.iconst 3, 1) := by decide +kernel
theorem kd_L_law_385 : decode kc_L_law 385 = .ok (.iadd, 1) := by decide +kernel
theorem kd_L_law_386 : decode kc_L_law 386 = .ok (.iaload, 1) := by decide +kernel
theorem kd_L_law_387 : decode kc_L_law 387 = .ok (.invokevirtual 91, 3) := by decide +kernel
theorem kd_L_law_390 : decode kc_L_law 390 = .ok (.aload_n 2, 1) := by decide +kernel
theorem kd_L_law_391 : decode kc_L_law 391 = .ok (.invokevirtual 77, 3) := by decide +kernel
theorem kd_L_law_394 : decode kc_L_law 394 = .ok (.iload 5, 2) := by decide +kernel
theorem kd_L_law_396 : decode kc_L_law 396 = .ok (.if_icmp .eq 5, 3) := by decide +kernel
theorem kd_L_law_399 : decode kc_L_law 399 = .ok (.iconst 0, 1) := by decide +kernel
theorem kd_L_law_400 : decode kc_L_law 400 = .ok (.ireturn, 1) := by decide +kernel
theorem kd_L_law_401 : decode kc_L_law 401 = .ok (.goto 710, 3) := by decide +kernel
theorem kd_L_law_404 : decode kc_L_law 404 = .ok (.aload_n 1, 1) := by decide +kernel
theorem kd_L_law_405 : decode kc_L_law 405 = .ok (.aload_n 0, 1) := by decide +kernel
theorem kd_L_law_406 : decode kc_L_law 406 = .ok (.iload 4, 2) := by decide +kernel
theorem kd_L_law_408 : decode kc_L_law 408 = .ok (.iconst 1, 1) := by decide +kernel
theorem kd_L_law_409 : decode kc_L_law 409 = .ok (.iadd, 1) := by decide +kernel
theorem kd_L_law_410 : decode kc_L_law 410 = .ok (.iaload, 1) := by decide +kernel
theorem kd_L_law_411 : decode kc_L_law 411 = .ok (.aload_n 0, 1) := by decide +kernel
theorem kd_L_law_412 : decode kc_L_law 412 = .ok (.iload 4, 2) := by decide +kernel
theorem kd_L_law_414 : decode kc_L_law 414 = .ok (.iconst 2, 1) := by decide +kernel
theorem kd_L_law_415 : decode kc_L_law 415 = .ok (.iadd, 1) := by decide +kernel
theorem kd_L_law_416 : decode kc_L_law 416 = .ok (.iaload, 1) := by decide +kernel
theorem kd_L_law_417 : decode kc_L_law 417 = .ok (.aload_n 0, 1) := by decide +kernel
theorem kd_L_law_418 : decode kc_L_law 418 = .ok (.iload 4, 2) := by decide +kernel
theorem kd_L_law_420 : decode kc_L_law 420 = .ok (.iconst 3, 1) := by decide +kernel
theorem kd_L_law_421 : decode kc_L_law 421 = .ok (.iadd, 1) := by decide +kernel
theorem kd_L_law_422 : decode kc_L_law 422 = .ok (.iaload, 1) := by decide +kernel
theorem kd_L_law_423 : decode kc_L_law 423 = .ok (.ifCond .eq 7, 3) := by decide +kernel
theorem kd_L_law_426 : decode kc_L_law 426 = .ok (.iconst 1, 1) := by decide +kernel
theorem kd_L_law_427 : decode kc_L_law 427 = .ok (.goto 4, 3) := by decide +kernel
theorem kd_L_law_430 : decode kc_L_law 430 = .ok (.iconst 0, 1) := by decide +kernel
theorem kd_L_law_431 : decode kc_L_law 431 = .ok (.aload_n 3, 1) := by decide +kernel
theorem kd_L_law_432 : decode kc_L_law 432 = .ok (.invokestatic 92, 3) := by decide +kernel
theorem kd_L_law_435 : decode kc_L_law 435 = .ok (.istore 5, 2) := by decide +kernel
theorem kd_L_law_437 : decode kc_L_law 437 = .ok (.aload_n 2, 1) := by decide +kernel
theorem kd_L_law_438 : decode kc_L_law 438 = .ok (.aload_n 0, 1) := by decide +kernel
theorem kd_L_law_439 : decode kc_L_law 439 = .ok (.iload 4, 2) := by decide +kernel
theorem kd_L_law_441 : decode kc_L_law 441 = .ok (.iconst 1, 1) := by decide +kernel
theorem kd_L_law_442 : decode kc_L_law 442 = .ok (.iadd, 1) := by decide +kernel
theorem kd_L_law_443 : decode kc_L_law 443 = .ok (.iaload, 1) := by decide +kernel
theorem kd_L_law_444 : decode kc_L_law 444 = .ok (.aload_n 0, 1) := by decide +kernel
theorem kd_L_law_445 : decode kc_L_law 445 = .ok (.iload 4, 2) := by decide +kernel
theorem kd_L_law_447 : decode kc_L_law 447 = .ok (.iconst 2, 1) := by decide +kernel
theorem kd_L_law_448 : decode kc_L_law 448 = .ok (.iadd, 1) := by decide +kernel
theorem kd_L_law_449 : decode kc_L_law 449 = .ok (.iaload, 1) := by decide +kernel
theorem kd_L_law_450 : decode kc_L_law 450 = .ok (.aload_n 0, 1) := by decide +kernel
theorem kd_L_law_451 : decode kc_L_law 451 = .ok (.iload 4, 2) := by decide +kernel
theorem kd_L_law_453 : decode kc_L_law 453 = .ok (.iconst 3, 1) := by decide +kernel
theorem kd_L_law_454 : decode kc_L_law 454 = .ok (.iadd, 1) := by decide +kernel
theorem kd_L_law_455 : decode kc_L_law 455 = .ok (.iaload, 1) := by decide +kernel
theorem kd_L_law_456 : decode kc_L_law 456 = .ok (.ifCond .eq 7, 3) := by decide +kernel
theorem kd_L_law_459 : decode kc_L_law 459 = .ok (.iconst 1, 1) := by decide +kernel
theorem kd_L_law_460 : decode kc_L_law 460 = .ok (.goto 4, 3) := by decide +kernel
theorem kd_L_law_463 : decode kc_L_law 463 = .ok (.iconst 0, 1) := by decide +kernel
theorem kd_L_law_464 : decode kc_L_law 464 = .ok (.invokevirtual 95, 3) := by decide +kernel
theorem kd_L_law_467 : decode kc_L_law 467 = .ok (.istore 6, 2) := by decide +kernel
theorem kd_L_law_469 : decode kc_L_law 469 = .ok (.aload_n 2, 1) := by decide +kernel
theorem kd_L_law_470 : decode kc_L_law 470 = .ok (.invokevirtual 77, 3) := by decide +kernel
theorem kd_L_law_473 : decode kc_L_law 473 = .ok (.iload 5, 2) := by decide +kernel
theorem kd_L_law_475 : decode kc_L_law 475 = .ok (.if_icmp .eq 5, 3) := by decide +kernel
theorem kd_L_law_478 : decode kc_L_law 478 = .ok (.iconst 0, 1) := by decide +kernel
theorem kd_L_law_479 : decode kc_L_law 479 = .ok (.ireturn, 1) := by decide +kernel
theorem kd_L_law_480 : decode kc_L_law 480 = .ok (.iload 5, 2) := by decide +kernel
theorem kd_L_law_482 : decode kc_L_law 482 = .ok (.ifCond .ne 22, 3) := by decide +kernel
theorem kd_L_law_485 : decode kc_L_law 485 = .ok (.aload_n 3, 1) := by decide +kernel
theorem kd_L_law_486 : decode kc_L_law 486 = .ok (.iconst 0, 1) := by decide +kernel
theorem kd_L_law_487 : decode kc_L_law 487 = .ok (.laload, 1) := by decide +kernel
theorem kd_L_law_488 : decode kc_L_law 488 = .ok (.iload 6, 2) := by decide +kernel
theorem kd_L_law_490 : decode kc_L_law 490 = .ok (.ifCond .eq 7, 3) := by decide +kernel
theorem kd_L_law_493 : decode kc_L_law 493 = .ok (.lconst 1, 1) := by decide +kernel
theorem kd_L_law_494 : decode kc_L_law 494 = .ok (.goto 4, 3) := by decide +kernel
theorem kd_L_law_497 : decode kc_L_law 497 = .ok (.lconst 0, 1) := by decide +kernel
theorem kd_L_law_498 : decode kc_L_law 498 = .ok (.lcmp, 1) := by decide +kernel
theorem kd_L_law_499 : decode kc_L_law 499 = .ok (.ifCond .eq 5, 3) := by decide +kernel
theorem kd_L_law_502 : decode kc_L_law 502 = .ok (.iconst 0, 1) := by decide +kernel
theorem kd_L_law_503 : decode kc_L_law 503 = .ok (.ireturn, 1) := by decide +kernel
theorem kd_L_law_504 : decode kc_L_law 504 = .ok (.goto 607, 3) := by decide +kernel
theorem kd_L_law_507 : decode kc_L_law 507 = .ok (.aload_n 1, 1) := by decide +kernel
theorem kd_L_law_508 : decode kc_L_law 508 = .ok (.aload_n 0, 1) := by decide +kernel
theorem kd_L_law_509 : decode kc_L_law 509 = .ok (.iload 4, 2) := by decide +kernel
theorem kd_L_law_511 : decode kc_L_law 511 = .ok (.iconst 1, 1) := by decide +kernel
theorem kd_L_law_512 : decode kc_L_law 512 = .ok (.iadd, 1) := by decide +kernel
theorem kd_L_law_513 : decode kc_L_law 513 = .ok (.iaload, 1) := by decide +kernel
theorem kd_L_law_514 : decode kc_L_law 514 = .ok (.aload_n 3, 1) := by decide +kernel
theorem kd_L_law_515 : decode kc_L_law 515 = .ok (.invokestatic 96, 3) := by decide +kernel
theorem kd_L_law_518 : decode kc_L_law 518 = .ok (.istore 5, 2) := by decide +kernel
theorem kd_L_law_520 : decode kc_L_law 520 = .ok (.aload_n 2, 1) := by decide +kernel
theorem kd_L_law_521 : decode kc_L_law 521 = .ok (.aload_n 0, 1) := by decide +kernel
theorem kd_L_law_522 : decode kc_L_law 522 = .ok (.iload 4, 2) := by decide +kernel
theorem kd_L_law_524 : decode kc_L_law 524 = .ok (.iconst 1, 1) := by decide +kernel
theorem kd_L_law_525 : decode kc_L_law 525 = .ok (.iadd, 1) := by decide +kernel
theorem kd_L_law_526 : decode kc_L_law 526 = .ok (.iaload, 1) := by decide +kernel
theorem kd_L_law_527 : decode kc_L_law 527 = .ok (.invokevirtual 99, 3) := by decide +kernel
theorem kd_L_law_530 : decode kc_L_law 530 = .ok (.istore 6, 2) := by decide +kernel
theorem kd_L_law_532 : decode kc_L_law 532 = .ok (.aload_n 2, 1) := by decide +kernel
theorem kd_L_law_533 : decode kc_L_law 533 = .ok (.invokevirtual 77, 3) := by decide +kernel
theorem kd_L_law_536 : decode kc_L_law 536 = .ok (.iload 5, 2) := by decide +kernel
theorem kd_L_law_538 : decode kc_L_law 538 = .ok (.if_icmp .eq 5, 3) := by decide +kernel
theorem kd_L_law_541 : decode kc_L_law 541 = .ok (.iconst 0, 1) := by decide +kernel
theorem kd_L_law_542 : decode kc_L_law 542 = .ok (.ireturn, 1) := by decide +kernel
theorem kd_L_law_543 : decode kc_L_law 543 = .ok (.iload 5, 2) := by decide +kernel
theorem kd_L_law_545 : decode kc_L_law 545 = .ok (.ifCond .ne 15, 3) := by decide +kernel
theorem kd_L_law_548 : decode kc_L_law 548 = .ok (.aload_n 3, 1) := by decide +kernel
theorem kd_L_law_549 : decode kc_L_law 549 = .ok (.iconst 0, 1) := by decide +kernel
theorem kd_L_law_550 : decode kc_L_law 550 = .ok (.laload, 1) := by decide +kernel
theorem kd_L_law_551 : decode kc_L_law 551 = .ok (.iload 6, 2) := by decide +kernel
theorem kd_L_law_553 : decode kc_L_law 553 = .ok (.i2l, 1) := by decide +kernel
theorem kd_L_law_554 : decode kc_L_law 554 = .ok (.lcmp, 1) := by decide +kernel
theorem kd_L_law_555 : decode kc_L_law 555 = .ok (.ifCond .eq 5, 3) := by decide +kernel
theorem kd_L_law_558 : decode kc_L_law 558 = .ok (.iconst 0, 1) := by decide +kernel
theorem kd_L_law_559 : decode kc_L_law 559 = .ok (.ireturn, 1) := by decide +kernel
theorem kd_L_law_560 : decode kc_L_law 560 = .ok (.goto 551, 3) := by decide +kernel
theorem kd_L_law_563 : decode kc_L_law 563 = .ok (.aload_n 1, 1) := by decide +kernel
theorem kd_L_law_564 : decode kc_L_law 564 = .ok (.invokevirtual 100, 3) := by decide +kernel
theorem kd_L_law_567 : decode kc_L_law 567 = .ok (.aload_n 2, 1) := by decide +kernel
theorem kd_L_law_568 : decode kc_L_law 568 = .ok (.invokevirtual 104, 3) := by decide +kernel
theorem kd_L_law_571 : decode kc_L_law 571 = .ok (.if_icmp .eq 540, 3) := by decide +kernel
theorem kd_L_law_574 : decode kc_L_law 574 = .ok (.iconst 0, 1) := by decide +kernel
theorem kd_L_law_575 : decode kc_L_law 575 = .ok (.ireturn, 1) := by decide +kernel
theorem kd_L_law_576 : decode kc_L_law 576 = .ok (.aload_n 1, 1) := by decide +kernel
theorem kd_L_law_577 : decode kc_L_law 577 = .ok (.invokevirtual 105, 3) := by decide +kernel
theorem kd_L_law_580 : decode kc_L_law 580 = .ok (.aload_n 2, 1) := by decide +kernel
theorem kd_L_law_581 : decode kc_L_law 581 = .ok (.invokevirtual 108, 3) := by decide +kernel
theorem kd_L_law_584 : decode kc_L_law 584 = .ok (.if_icmp .eq 527, 3) := by decide +kernel
theorem kd_L_law_587 : decode kc_L_law 587 = .ok (.iconst 0, 1) := by decide +kernel
theorem kd_L_law_588 : decode kc_L_law 588 = .ok (.ireturn, 1) := by decide +kernel
theorem kd_L_law_589 : decode kc_L_law 589 = .ok (.aload_n 1, 1) := by decide +kernel
theorem kd_L_law_590 : decode kc_L_law 590 = .ok (.invokevirtual 109, 3) := by decide +kernel
theorem kd_L_law_593 : decode kc_L_law 593 = .ok (.aload_n 2, 1) := by decide +kernel
theorem kd_L_law_594 : decode kc_L_law 594 = .ok (.invokevirtual 112, 3) := by decide +kernel
theorem kd_L_law_597 : decode kc_L_law 597 = .ok (.if_icmp .eq 514, 3) := by decide +kernel
theorem kd_L_law_600 : decode kc_L_law 600 = .ok (.iconst 0, 1) := by decide +kernel
theorem kd_L_law_601 : decode kc_L_law 601 = .ok (.ireturn, 1) := by decide +kernel
theorem kd_L_law_602 : decode kc_L_law 602 = .ok (.aload_n 1, 1) := by decide +kernel
theorem kd_L_law_603 : decode kc_L_law 603 = .ok (.aload_n 0, 1) := by decide +kernel
theorem kd_L_law_604 : decode kc_L_law 604 = .ok (.iload 4, 2) := by decide +kernel
theorem kd_L_law_606 : decode kc_L_law 606 = .ok (.iconst 1, 1) := by decide +kernel
theorem kd_L_law_607 : decode kc_L_law 607 = .ok (.iadd, 1) := by decide +kernel
theorem kd_L_law_608 : decode kc_L_law 608 = .ok (.iaload, 1) := by decide +kernel
theorem kd_L_law_609 : decode kc_L_law 609 = .ok (.aload_n 0, 1) := by decide +kernel
theorem kd_L_law_610 : decode kc_L_law 610 = .ok (.iload 4, 2) := by decide +kernel
theorem kd_L_law_612 : decode kc_L_law 612 = .ok (.iconst 2, 1) := by decide +kernel
theorem kd_L_law_613 : decode kc_L_law 613 = .ok (.iadd, 1) := by decide +kernel
theorem kd_L_law_614 : decode kc_L_law 614 = .ok (.iaload, 1) := by decide +kernel
theorem kd_L_law_615 : decode kc_L_law 615 = .ok (.aload_n 0, 1) := by decide +kernel
theorem kd_L_law_616 : decode kc_L_law 616 = .ok (.iload 4, 2) := by decide +kernel
theorem kd_L_law_618 : decode kc_L_law 618 = .ok (.iconst 3, 1) := by decide +kernel
theorem kd_L_law_619 : decode kc_L_law 619 = .ok (.iadd, 1) := by decide +kernel
theorem kd_L_law_620 : decode kc_L_law 620 = .ok (.iaload, 1) := by decide +kernel
theorem kd_L_law_621 : decode kc_L_law 621 = .ok (.aload_n 3, 1) := by decide +kernel
theorem kd_L_law_622 : decode kc_L_law 622 = .ok (.invokestatic 113, 3) := by decide +kernel
theorem kd_L_law_625 : decode kc_L_law 625 = .ok (.istore 5, 2) := by decide +kernel
theorem kd_L_law_627 : decode kc_L_law 627 = .ok (.aload_n 2, 1) := by decide +kernel
theorem kd_L_law_628 : decode kc_L_law 628 = .ok (.aload_n 0, 1) := by decide +kernel
theorem kd_L_law_629 : decode kc_L_law 629 = .ok (.iload 4, 2) := by decide +kernel
theorem kd_L_law_631 : decode kc_L_law 631 = .ok (.iconst 1, 1) := by decide +kernel
theorem kd_L_law_632 : decode kc_L_law 632 = .ok (.iadd, 1) := by decide +kernel
theorem kd_L_law_633 : decode kc_L_law 633 = .ok (.iaload, 1) := by decide +kernel
theorem kd_L_law_634 : decode kc_L_law 634 = .ok (.aload_n 0, 1) := by decide +kernel
theorem kd_L_law_635 : decode kc_L_law 635 = .ok (.iload 4, 2) := by decide +kernel
theorem kd_L_law_637 : decode kc_L_law 637 = .ok (.iconst 2, 1) := by decide +kernel
theorem kd_L_law_638 : decode kc_L_law 638 = .ok (.iadd, 1) := by decide +kernel
theorem kd_L_law_639 : decode kc_L_law 639 = .ok (.iaload, 1) := by decide +kernel
theorem kd_L_law_640 : decode kc_L_law 640 = .ok (.aload_n 0, 1) := by decide +kernel
theorem kd_L_law_641 : decode kc_L_law 641 = .ok (.iload 4, 2) := by decide +kernel
theorem kd_L_law_643 : decode kc_L_law 643 = .ok (.iconst 3, 1) := by decide +kernel
theorem kd_L_law_644 : decode kc_L_law 644 = .ok (.iadd, 1) := by decide +kernel
theorem kd_L_law_645 : decode kc_L_law 645 = .ok (.iaload, 1) := by decide +kernel
theorem kd_L_law_646 : decode kc_L_law 646 = .ok (.invokevirtual 116, 3) := by decide +kernel
theorem kd_L_law_649 : decode kc_L_law 649 = .ok (.istore 6, 2) := by decide +kernel
theorem kd_L_law_651 : decode kc_L_law 651 = .ok (.aload_n 2, 1) := by decide +kernel
theorem kd_L_law_652 : decode kc_L_law 652 = .ok (.invokevirtual 77, 3) := by decide +kernel
theorem kd_L_law_655 : decode kc_L_law 655 = .ok (.iload 5, 2) := by decide +kernel
theorem kd_L_law_657 : decode kc_L_law 657 = .ok (.if_icmp .eq 5, 3) := by decide +kernel
theorem kd_L_law_660 : decode kc_L_law 660 = .ok (.iconst 0, 1) := by decide +kernel
theorem kd_L_law_661 : decode kc_L_law 661 = .ok (.ireturn, 1) := by decide +kernel
theorem kd_L_law_662 : decode kc_L_law 662 = .ok (.iload 5, 2) := by decide +kernel
theorem kd_L_law_664 : decode kc_L_law 664 = .ok (.ifCond .ne 15, 3) := by decide +kernel
theorem kd_L_law_667 : decode kc_L_law 667 = .ok (.aload_n 3, 1) := by decide +kernel
theorem kd_L_law_668 : decode kc_L_law 668 = .ok (.iconst 0, 1) := by decide +kernel
theorem kd_L_law_669 : decode kc_L_law 669 = .ok (.laload, 1) := by decide +kernel
theorem kd_L_law_670 : decode kc_L_law 670 = .ok (.iload 6, 2) := by decide +kernel
theorem kd_L_law_672 : decode kc_L_law 672 = .ok (.i2l, 1) := by decide +kernel
theorem kd_L_law_673 : decode kc_L_law 673 = .ok (.lcmp, 1) := by decide +kernel
theorem kd_L_law_674 : decode kc_L_law 674 = .ok (.ifCond .eq 5, 3) := by decide +kernel
theorem kd_L_law_677 : decode kc_L_law 677 = .ok (.iconst 0, 1) := by decide +kernel
theorem kd_L_law_678 : decode kc_L_law 678 = .ok (.ireturn, 1) := by decide +kernel
theorem kd_L_law_679 : decode kc_L_law 679 = .ok (.goto 432, 3) := by decide +kernel
theorem kd_L_law_682 : decode kc_L_law 682 = .ok (.aload_n 1, 1) := by decide +kernel
theorem kd_L_law_683 : decode kc_L_law 683 = .ok (.aload_n 0, 1) := by decide +kernel
theorem kd_L_law_684 : decode kc_L_law 684 = .ok (.iload 4, 2) := by decide +kernel
theorem kd_L_law_686 : decode kc_L_law 686 = .ok (.iconst 1, 1) := by decide +kernel
theorem kd_L_law_687 : decode kc_L_law 687 = .ok (.iadd, 1) := by decide +kernel
theorem kd_L_law_688 : decode kc_L_law 688 = .ok (.iaload, 1) := by decide +kernel
theorem kd_L_law_689 : decode kc_L_law 689 = .ok (.aload_n 3, 1) := by decide +kernel
theorem kd_L_law_690 : decode kc_L_law 690 = .ok (.invokestatic 117, 3) := by decide +kernel
theorem kd_L_law_693 : decode kc_L_law 693 = .ok (.istore 5, 2) := by decide +kernel
theorem kd_L_law_695 : decode kc_L_law 695 = .ok (.aload_n 2, 1) := by decide +kernel
theorem kd_L_law_696 : decode kc_L_law 696 = .ok (.aload_n 0, 1) := by decide +kernel
theorem kd_L_law_697 : decode kc_L_law 697 = .ok (.iload 4, 2) := by decide +kernel
theorem kd_L_law_699 : decode kc_L_law 699 = .ok (.iconst 1, 1) := by decide +kernel
theorem kd_L_law_700 : decode kc_L_law 700 = .ok (.iadd, 1) := by decide +kernel
theorem kd_L_law_701 : decode kc_L_law 701 = .ok (.iaload, 1) := by decide +kernel
theorem kd_L_law_702 : decode kc_L_law 702 = .ok (.invokevirtual 119, 3) := by decide +kernel
theorem kd_L_law_705 : decode kc_L_law 705 = .ok (.istore 6, 2) := by decide +kernel
theorem kd_L_law_707 : decode kc_L_law 707 = .ok (.aload_n 2, 1) := by decide +kernel
theorem kd_L_law_708 : decode kc_L_law 708 = .ok (.invokevirtual 77, 3) := by decide +kernel
theorem kd_L_law_711 : decode kc_L_law 711 = .ok (.iload 5, 2) := by decide +kernel
theorem kd_L_law_713 : decode kc_L_law 713 = .ok (.if_icmp .eq 5, 3) := by decide +kernel
theorem kd_L_law_716 : decode kc_L_law 716 = .ok (.iconst 0, 1) := by decide +kernel
theorem kd_L_law_717 : decode kc_L_law 717 = .ok (.ireturn, 1) := by decide +kernel
theorem kd_L_law_718 : decode kc_L_law 718 = .ok (.iload 5, 2) := by decide +kernel
theorem kd_L_law_720 : decode kc_L_law 720 = .ok (.ifCond .ne 15, 3) := by decide +kernel
theorem kd_L_law_723 : decode kc_L_law 723 = .ok (.aload_n 3, 1) := by decide +kernel
theorem kd_L_law_724 : decode kc_L_law 724 = .ok (.iconst 0, 1) := by decide +kernel
theorem kd_L_law_725 : decode kc_L_law 725 = .ok (.laload, 1) := by decide +kernel
theorem kd_L_law_726 : decode kc_L_law 726 = .ok (.iload 6, 2) := by decide +kernel
theorem kd_L_law_728 : decode kc_L_law 728 = .ok (.i2l, 1) := by decide +kernel
theorem kd_L_law_729 : decode kc_L_law 729 = .ok (.lcmp, 1) := by decide +kernel
theorem kd_L_law_730 : decode kc_L_law 730 = .ok (.ifCond .eq 5, 3) := by decide +kernel
theorem kd_L_law_733 : decode kc_L_law 733 = .ok (.iconst 0, 1) := by decide +kernel
theorem kd_L_law_734 : decode kc_L_law 734 = .ok (.ireturn, 1) := by decide +kernel
theorem kd_L_law_735 : decode kc_L_law 735 = .ok (.goto 376, 3) := by decide +kernel
theorem kd_L_law_738 : decode kc_L_law 738 = .ok (.aload_n 1, 1) := by decide +kernel
theorem kd_L_law_739 : decode kc_L_law 739 = .ok (.aload_n 0, 1) := by decide +kernel
theorem kd_L_law_740 : decode kc_L_law 740 = .ok (.iload 4, 2) := by decide +kernel
theorem kd_L_law_742 : decode kc_L_law 742 = .ok (.iconst 1, 1) := by decide +kernel
theorem kd_L_law_743 : decode kc_L_law 743 = .ok (.iadd, 1) := by decide +kernel
theorem kd_L_law_744 : decode kc_L_law 744 = .ok (.iaload, 1) := by decide +kernel
theorem kd_L_law_745 : decode kc_L_law 745 = .ok (.aload_n 3, 1) := by decide +kernel
theorem kd_L_law_746 : decode kc_L_law 746 = .ok (.invokestatic 120, 3) := by decide +kernel
theorem kd_L_law_749 : decode kc_L_law 749 = .ok (.istore 5, 2) := by decide +kernel
theorem kd_L_law_751 : decode kc_L_law 751 = .ok (.aload_n 2, 1) := by decide +kernel
theorem kd_L_law_752 : decode kc_L_law 752 = .ok (.aload_n 0, 1) := by decide +kernel
theorem kd_L_law_753 : decode kc_L_law 753 = .ok (.iload 4, 2) := by decide +kernel
theorem kd_L_law_755 : decode kc_L_law 755 = .ok (.iconst 1, 1) := by decide +kernel
theorem kd_L_law_756 : decode kc_L_law 756 = .ok (.iadd, 1) := by decide +kernel
theorem kd_L_law_757 : decode kc_L_law 757 = .ok (.iaload, 1) := by decide +kernel
theorem kd_L_law_758 : decode kc_L_law 758 = .ok (.invokevirtual 122, 3) := by decide +kernel
theorem kd_L_law_761 : decode kc_L_law 761 = .ok (.istore 6, 2) := by decide +kernel
theorem kd_L_law_763 : decode kc_L_law 763 = .ok (.aload_n 2, 1) := by decide +kernel
theorem kd_L_law_764 : decode kc_L_law 764 = .ok (.invokevirtual 77, 3) := by decide +kernel
theorem kd_L_law_767 : decode kc_L_law 767 = .ok (.iload 5, 2) := by decide +kernel
theorem kd_L_law_769 : decode kc_L_law 769 = .ok (.if_icmp .eq 5, 3) := by decide +kernel
theorem kd_L_law_772 : decode kc_L_law 772 = .ok (.iconst 0, 1) := by decide +kernel
theorem kd_L_law_773 : decode kc_L_law 773 = .ok (.ireturn, 1) := by decide +kernel
theorem kd_L_law_774 : decode kc_L_law 774 = .ok (.iload 5, 2) := by decide +kernel
theorem kd_L_law_776 : decode kc_L_law 776 = .ok (.ifCond .ne 15, 3) := by decide +kernel
theorem kd_L_law_779 : decode kc_L_law 779 = .ok (.aload_n 3, 1) := by decide +kernel
theorem kd_L_law_780 : decode kc_L_law 780 = .ok (.iconst 0, 1) := by decide +kernel
theorem kd_L_law_781 : decode kc_L_law 781 = .ok (.laload, 1) := by decide +kernel
theorem kd_L_law_782 : decode kc_L_law 782 = .ok (.iload 6, 2) := by decide +kernel
theorem kd_L_law_784 : decode kc_L_law 784 = .ok (.i2l, 1) := by decide +kernel
theorem kd_L_law_785 : decode kc_L_law 785 = .ok (.lcmp, 1) := by decide +kernel
theorem kd_L_law_786 : decode kc_L_law 786 = .ok (.ifCond .eq 5, 3) := by decide +kernel
theorem kd_L_law_789 : decode kc_L_law 789 = .ok (.iconst 0, 1) := by decide +kernel
theorem kd_L_law_790 : decode kc_L_law 790 = .ok (.ireturn, 1) := by decide +kernel
theorem kd_L_law_791 : decode kc_L_law 791 = .ok (.goto 320, 3) := by decide +kernel
theorem kd_L_law_794 : decode kc_L_law 794 = .ok (.aload_n 1, 1) := by decide +kernel
theorem kd_L_law_795 : decode kc_L_law 795 = .ok (.aload_n 0, 1) := by decide +kernel
theorem kd_L_law_796 : decode kc_L_law 796 = .ok (.iload 4, 2) := by decide +kernel
theorem kd_L_law_798 : decode kc_L_law 798 = .ok (.iconst 1, 1) := by decide +kernel
theorem kd_L_law_799 : decode kc_L_law 799 = .ok (.iadd, 1) := by decide +kernel
theorem kd_L_law_800 : decode kc_L_law 800 = .ok (.iaload, 1) := by decide +kernel
theorem kd_L_law_801 : decode kc_L_law 801 = .ok (.aload_n 3, 1) := by decide +kernel
theorem kd_L_law_802 : decode kc_L_law 802 = .ok (.invokestatic 123, 3) := by decide +kernel
theorem kd_L_law_805 : decode kc_L_law 805 = .ok (.istore 5, 2) := by decide +kernel
theorem kd_L_law_807 : decode kc_L_law 807 = .ok (.aload_n 2, 1) := by decide +kernel
theorem kd_L_law_808 : decode kc_L_law 808 = .ok (.aload_n 0, 1) := by decide +kernel
theorem kd_L_law_809 : decode kc_L_law 809 = .ok (.iload 4, 2) := by decide +kernel
theorem kd_L_law_811 : decode kc_L_law 811 = .ok (.iconst 1, 1) := by decide +kernel
theorem kd_L_law_812 : decode kc_L_law 812 = .ok (.iadd, 1) := by decide +kernel
theorem kd_L_law_813 : decode kc_L_law 813 = .ok (.iaload, 1) := by decide +kernel
theorem kd_L_law_814 : decode kc_L_law 814 = .ok (.invokevirtual 125, 3) := by decide +kernel
theorem kd_L_law_817 : decode kc_L_law 817 = .ok (.istore 6, 2) := by decide +kernel
theorem kd_L_law_819 : decode kc_L_law 819 = .ok (.aload_n 2, 1) := by decide +kernel
theorem kd_L_law_820 : decode kc_L_law 820 = .ok (.invokevirtual 77, 3) := by decide +kernel
theorem kd_L_law_823 : decode kc_L_law 823 = .ok (.iload 5, 2) := by decide +kernel
theorem kd_L_law_825 : decode kc_L_law 825 = .ok (.if_icmp .eq 5, 3) := by decide +kernel
theorem kd_L_law_828 : decode kc_L_law 828 = .ok (.iconst 0, 1) := by decide +kernel
theorem kd_L_law_829 : decode kc_L_law 829 = .ok (.ireturn, 1) := by decide +kernel
theorem kd_L_law_830 : decode kc_L_law 830 = .ok (.iload 5, 2) := by decide +kernel
theorem kd_L_law_832 : decode kc_L_law 832 = .ok (.ifCond .ne 15, 3) := by decide +kernel
theorem kd_L_law_835 : decode kc_L_law 835 = .ok (.aload_n 3, 1) := by decide +kernel
theorem kd_L_law_836 : decode kc_L_law 836 = .ok (.iconst 0, 1) := by decide +kernel
theorem kd_L_law_837 : decode kc_L_law 837 = .ok (.laload, 1) := by decide +kernel
theorem kd_L_law_838 : decode kc_L_law 838 = .ok (.iload 6, 2) := by decide +kernel
theorem kd_L_law_840 : decode kc_L_law 840 = .ok (.i2l, 1) := by decide +kernel
theorem kd_L_law_841 : decode kc_L_law 841 = .ok (.lcmp, 1) := by decide +kernel
theorem kd_L_law_842 : decode kc_L_law 842 = .ok (.ifCond .eq 5, 3) := by decide +kernel
theorem kd_L_law_845 : decode kc_L_law 845 = .ok (.iconst 0, 1) := by decide +kernel
theorem kd_L_law_846 : decode kc_L_law 846 = .ok (.ireturn, 1) := by decide +kernel
theorem kd_L_law_847 : decode kc_L_law 847 = .ok (.goto 264, 3) := by decide +kernel
theorem kd_L_law_850 : decode kc_L_law 850 = .ok (.aload_n 1, 1) := by decide +kernel
theorem kd_L_law_851 : decode kc_L_law 851 = .ok (.aload_n 0, 1) := by decide +kernel
theorem kd_L_law_852 : decode kc_L_law 852 = .ok (.iload 4, 2) := by decide +kernel
theorem kd_L_law_854 : decode kc_L_law 854 = .ok (.iconst 1, 1) := by decide +kernel
theorem kd_L_law_855 : decode kc_L_law 855 = .ok (.iadd, 1) := by decide +kernel
theorem kd_L_law_856 : decode kc_L_law 856 = .ok (.iaload, 1) := by decide +kernel
theorem kd_L_law_857 : decode kc_L_law 857 = .ok (.aload_n 0, 1) := by decide +kernel
theorem kd_L_law_858 : decode kc_L_law 858 = .ok (.iload 4, 2) := by decide +kernel
theorem kd_L_law_860 : decode kc_L_law 860 = .ok (.iconst 2, 1) := by decide +kernel
theorem kd_L_law_861 : decode kc_L_law 861 = .ok (.iadd, 1) := by decide +kernel
theorem kd_L_law_862 : decode kc_L_law 862 = .ok (.iaload, 1) := by decide +kernel
theorem kd_L_law_863 : decode kc_L_law 863 = .ok (.aload_n 3, 1) := by decide +kernel
theorem kd_L_law_864 : decode kc_L_law 864 = .ok (.invokestatic 126, 3) := by decide +kernel
theorem kd_L_law_867 : decode kc_L_law 867 = .ok (.istore 5, 2) := by decide +kernel
theorem kd_L_law_869 : decode kc_L_law 869 = .ok (.aload_n 2, 1) := by decide +kernel
theorem kd_L_law_870 : decode kc_L_law 870 = .ok (.aload_n 0, 1) := by decide +kernel
theorem kd_L_law_871 : decode kc_L_law 871 = .ok (.iload 4, 2) := by decide +kernel
theorem kd_L_law_873 : decode kc_L_law 873 = .ok (.iconst 1, 1) := by decide +kernel
theorem kd_L_law_874 : decode kc_L_law 874 = .ok (.iadd, 1) := by decide +kernel
theorem kd_L_law_875 : decode kc_L_law 875 = .ok (.iaload, 1) := by decide +kernel
theorem kd_L_law_876 : decode kc_L_law 876 = .ok (.aload_n 0, 1) := by decide +kernel
theorem kd_L_law_877 : decode kc_L_law 877 = .ok (.iload 4, 2) := by decide +kernel
theorem kd_L_law_879 : decode kc_L_law 879 = .ok (.iconst 2, 1) := by decide +kernel
theorem kd_L_law_880 : decode kc_L_law 880 = .ok (.iadd, 1) := by decide +kernel
theorem kd_L_law_881 : decode kc_L_law 881 = .ok (.iaload, 1) := by decide +kernel
theorem kd_L_law_882 : decode kc_L_law 882 = .ok (.invokevirtual 128, 3) := by decide +kernel
theorem kd_L_law_885 : decode kc_L_law 885 = .ok (.istore 6, 2) := by decide +kernel
theorem kd_L_law_887 : decode kc_L_law 887 = .ok (.aload_n 2, 1) := by decide +kernel
theorem kd_L_law_888 : decode kc_L_law 888 = .ok (.invokevirtual 77, 3) := by decide +kernel
theorem kd_L_law_891 : decode kc_L_law 891 = .ok (.iload 5, 2) := by decide +kernel
theorem kd_L_law_893 : decode kc_L_law 893 = .ok (.if_icmp .eq 5, 3) := by decide +kernel
theorem kd_L_law_896 : decode kc_L_law 896 = .ok (.iconst 0, 1) := by decide +kernel
theorem kd_L_law_897 : decode kc_L_law 897 = .ok (.ireturn, 1) := by decide +kernel
theorem kd_L_law_898 : decode kc_L_law 898 = .ok (.iload 5, 2) := by decide +kernel
theorem kd_L_law_900 : decode kc_L_law 900 = .ok (.ifCond .ne 15, 3) := by decide +kernel
theorem kd_L_law_903 : decode kc_L_law 903 = .ok (.aload_n 3, 1) := by decide +kernel
theorem kd_L_law_904 : decode kc_L_law 904 = .ok (.iconst 0, 1) := by decide +kernel
theorem kd_L_law_905 : decode kc_L_law 905 = .ok (.laload, 1) := by decide +kernel
theorem kd_L_law_906 : decode kc_L_law 906 = .ok (.iload 6, 2) := by decide +kernel
theorem kd_L_law_908 : decode kc_L_law 908 = .ok (.i2l, 1) := by decide +kernel
theorem kd_L_law_909 : decode kc_L_law 909 = .ok (.lcmp, 1) := by decide +kernel
theorem kd_L_law_910 : decode kc_L_law 910 = .ok (.ifCond .eq 5, 3) := by decide +kernel
theorem kd_L_law_913 : decode kc_L_law 913 = .ok (.iconst 0, 1) := by decide +kernel
theorem kd_L_law_914 : decode kc_L_law 914 = .ok (.ireturn, 1) := by decide +kernel
theorem kd_L_law_915 : decode kc_L_law 915 = .ok (.goto 196, 3) := by decide +kernel
theorem kd_L_law_918 : decode kc_L_law 918 = .ok (.aload_n 1, 1) := by decide +kernel
theorem kd_L_law_919 : decode kc_L_law 919 = .ok (.aload_n 0, 1) := by decide +kernel
theorem kd_L_law_920 : decode kc_L_law 920 = .ok (.iload 4, 2) := by decide +kernel
theorem kd_L_law_922 : decode kc_L_law 922 = .ok (.iconst 1, 1) := by decide +kernel
theorem kd_L_law_923 : decode kc_L_law 923 = .ok (.iadd, 1) := by decide +kernel
theorem kd_L_law_924 : decode kc_L_law 924 = .ok (.iaload, 1) := by decide +kernel
theorem kd_L_law_925 : decode kc_L_law 925 = .ok (.aload_n 3, 1) := by decide +kernel
theorem kd_L_law_926 : decode kc_L_law 926 = .ok (.invokestatic 129, 3) := by decide +kernel
theorem kd_L_law_929 : decode kc_L_law 929 = .ok (.istore 5, 2) := by decide +kernel
theorem kd_L_law_931 : decode kc_L_law 931 = .ok (.aload_n 2, 1) := by decide +kernel
theorem kd_L_law_932 : decode kc_L_law 932 = .ok (.aload_n 0, 1) := by decide +kernel
theorem kd_L_law_933 : decode kc_L_law 933 = .ok (.iload 4, 2) := by decide +kernel
theorem kd_L_law_935 : decode kc_L_law 935 = .ok (.iconst 1, 1) := by decide +kernel
theorem kd_L_law_936 : decode kc_L_law 936 = .ok (.iadd, 1) := by decide +kernel
theorem kd_L_law_937 : decode kc_L_law 937 = .ok (.iaload, 1) := by decide +kernel
theorem kd_L_law_938 : decode kc_L_law 938 = .ok (.invokevirtual 131, 3) := by decide +kernel
theorem kd_L_law_941 : decode kc_L_law 941 = .ok (.istore 6, 2) := by decide +kernel
theorem kd_L_law_943 : decode kc_L_law 943 = .ok (.aload_n 2, 1) := by decide +kernel
theorem kd_L_law_944 : decode kc_L_law 944 = .ok (.invokevirtual 77, 3) := by decide +kernel
theorem kd_L_law_947 : decode kc_L_law 947 = .ok (.iload 5, 2) := by decide +kernel
theorem kd_L_law_949 : decode kc_L_law 949 = .ok (.if_icmp .eq 5, 3) := by decide +kernel
theorem kd_L_law_952 : decode kc_L_law 952 = .ok (.iconst 0, 1) := by decide +kernel
theorem kd_L_law_953 : decode kc_L_law 953 = .ok (.ireturn, 1) := by decide +kernel
theorem kd_L_law_954 : decode kc_L_law 954 = .ok (.iload 5, 2) := by decide +kernel
theorem kd_L_law_956 : decode kc_L_law 956 = .ok (.ifCond .ne 15, 3) := by decide +kernel
theorem kd_L_law_959 : decode kc_L_law 959 = .ok (.aload_n 3, 1) := by decide +kernel
theorem kd_L_law_960 : decode kc_L_law 960 = .ok (.iconst 0, 1) := by decide +kernel
theorem kd_L_law_961 : decode kc_L_law 961 = .ok (.laload, 1) := by decide +kernel
theorem kd_L_law_962 : decode kc_L_law 962 = .ok (.iload 6, 2) := by decide +kernel
theorem kd_L_law_964 : decode kc_L_law 964 = .ok (.i2l, 1) := by decide +kernel
theorem kd_L_law_965 : decode kc_L_law 965 = .ok (.lcmp, 1) := by decide +kernel
theorem kd_L_law_966 : decode kc_L_law 966 = .ok (.ifCond .eq 5, 3) := by decide +kernel
theorem kd_L_law_969 : decode kc_L_law 969 = .ok (.iconst 0, 1) := by decide +kernel
theorem kd_L_law_970 : decode kc_L_law 970 = .ok (.ireturn, 1) := by decide +kernel
theorem kd_L_law_971 : decode kc_L_law 971 = .ok (.goto 140, 3) := by decide +kernel
theorem kd_L_law_974 : decode kc_L_law 974 = .ok (.aload_n 1, 1) := by decide +kernel
theorem kd_L_law_975 : decode kc_L_law 975 = .ok (.aload_n 0, 1) := by decide +kernel
theorem kd_L_law_976 : decode kc_L_law 976 = .ok (.iload 4, 2) := by decide +kernel
theorem kd_L_law_978 : decode kc_L_law 978 = .ok (.iconst 1, 1) := by decide +kernel
theorem kd_L_law_979 : decode kc_L_law 979 = .ok (.iadd, 1) := by decide +kernel
theorem kd_L_law_980 : decode kc_L_law 980 = .ok (.iaload, 1) := by decide +kernel
theorem kd_L_law_981 : decode kc_L_law 981 = .ok (.aload_n 3, 1) := by decide +kernel
theorem kd_L_law_982 : decode kc_L_law 982 = .ok (.invokestatic 132, 3) := by decide +kernel
theorem kd_L_law_985 : decode kc_L_law 985 = .ok (.istore 5, 2) := by decide +kernel
theorem kd_L_law_987 : decode kc_L_law 987 = .ok (.aload_n 2, 1) := by decide +kernel
theorem kd_L_law_988 : decode kc_L_law 988 = .ok (.aload_n 0, 1) := by decide +kernel
theorem kd_L_law_989 : decode kc_L_law 989 = .ok (.iload 4, 2) := by decide +kernel
theorem kd_L_law_991 : decode kc_L_law 991 = .ok (.iconst 1, 1) := by decide +kernel
theorem kd_L_law_992 : decode kc_L_law 992 = .ok (.iadd, 1) := by decide +kernel
theorem kd_L_law_993 : decode kc_L_law 993 = .ok (.iaload, 1) := by decide +kernel
theorem kd_L_law_994 : decode kc_L_law 994 = .ok (.invokevirtual 134, 3) := by decide +kernel
theorem kd_L_law_997 : decode kc_L_law 997 = .ok (.istore 6, 2) := by decide +kernel
theorem kd_L_law_999 : decode kc_L_law 999 = .ok (.aload_n 2, 1) := by decide +kernel
theorem kd_L_law_1000 : decode kc_L_law 1000 = .ok (.invokevirtual 77, 3) := by decide +kernel
theorem kd_L_law_1003 : decode kc_L_law 1003 = .ok (.iload 5, 2) := by decide +kernel
theorem kd_L_law_1005 : decode kc_L_law 1005 = .ok (.if_icmp .eq 5, 3) := by decide +kernel
theorem kd_L_law_1008 : decode kc_L_law 1008 = .ok (.iconst 0, 1) := by decide +kernel
theorem kd_L_law_1009 : decode kc_L_law 1009 = .ok (.ireturn, 1) := by decide +kernel
theorem kd_L_law_1010 : decode kc_L_law 1010 = .ok (.iload 5, 2) := by decide +kernel
theorem kd_L_law_1012 : decode kc_L_law 1012 = .ok (.ifCond .ne 15, 3) := by decide +kernel
theorem kd_L_law_1015 : decode kc_L_law 1015 = .ok (.aload_n 3, 1) := by decide +kernel
theorem kd_L_law_1016 : decode kc_L_law 1016 = .ok (.iconst 0, 1) := by decide +kernel
theorem kd_L_law_1017 : decode kc_L_law 1017 = .ok (.laload, 1) := by decide +kernel
theorem kd_L_law_1018 : decode kc_L_law 1018 = .ok (.iload 6, 2) := by decide +kernel
theorem kd_L_law_1020 : decode kc_L_law 1020 = .ok (.i2l, 1) := by decide +kernel
theorem kd_L_law_1021 : decode kc_L_law 1021 = .ok (.lcmp, 1) := by decide +kernel
theorem kd_L_law_1022 : decode kc_L_law 1022 = .ok (.ifCond .eq 5, 3) := by decide +kernel
theorem kd_L_law_1025 : decode kc_L_law 1025 = .ok (.iconst 0, 1) := by decide +kernel
theorem kd_L_law_1026 : decode kc_L_law 1026 = .ok (.ireturn, 1) := by decide +kernel
theorem kd_L_law_1027 : decode kc_L_law 1027 = .ok (.goto 84, 3) := by decide +kernel
theorem kd_L_law_1030 : decode kc_L_law 1030 = .ok (.aload_n 1, 1) := by decide +kernel
theorem kd_L_law_1031 : decode kc_L_law 1031 = .ok (.aload_n 0, 1) := by decide +kernel
theorem kd_L_law_1032 : decode kc_L_law 1032 = .ok (.iload 4, 2) := by decide +kernel
theorem kd_L_law_1034 : decode kc_L_law 1034 = .ok (.iconst 1, 1) := by decide +kernel
theorem kd_L_law_1035 : decode kc_L_law 1035 = .ok (.iadd, 1) := by decide +kernel
theorem kd_L_law_1036 : decode kc_L_law 1036 = .ok (.iaload, 1) := by decide +kernel
theorem kd_L_law_1037 : decode kc_L_law 1037 = .ok (.aload_n 3, 1) := by decide +kernel
theorem kd_L_law_1038 : decode kc_L_law 1038 = .ok (.invokestatic 135, 3) := by decide +kernel
theorem kd_L_law_1041 : decode kc_L_law 1041 = .ok (.istore 5, 2) := by decide +kernel
theorem kd_L_law_1043 : decode kc_L_law 1043 = .ok (.aload_n 2, 1) := by decide +kernel
theorem kd_L_law_1044 : decode kc_L_law 1044 = .ok (.aload_n 0, 1) := by decide +kernel
theorem kd_L_law_1045 : decode kc_L_law 1045 = .ok (.iload 4, 2) := by decide +kernel
theorem kd_L_law_1047 : decode kc_L_law 1047 = .ok (.iconst 1, 1) := by decide +kernel
theorem kd_L_law_1048 : decode kc_L_law 1048 = .ok (.iadd, 1) := by decide +kernel
theorem kd_L_law_1049 : decode kc_L_law 1049 = .ok (.iaload, 1) := by decide +kernel
theorem kd_L_law_1050 : decode kc_L_law 1050 = .ok (.invokevirtual 137, 3) := by decide +kernel
theorem kd_L_law_1053 : decode kc_L_law 1053 = .ok (.istore 6, 2) := by decide +kernel
theorem kd_L_law_1055 : decode kc_L_law 1055 = .ok (.aload_n 2, 1) := by decide +kernel
theorem kd_L_law_1056 : decode kc_L_law 1056 = .ok (.invokevirtual 77, 3) := by decide +kernel
theorem kd_L_law_1059 : decode kc_L_law 1059 = .ok (.iload 5, 2) := by decide +kernel
theorem kd_L_law_1061 : decode kc_L_law 1061 = .ok (.if_icmp .eq 5, 3) := by decide +kernel
theorem kd_L_law_1064 : decode kc_L_law 1064 = .ok (.iconst 0, 1) := by decide +kernel
theorem kd_L_law_1065 : decode kc_L_law 1065 = .ok (.ireturn, 1) := by decide +kernel
theorem kd_L_law_1066 : decode kc_L_law 1066 = .ok (.iload 5, 2) := by decide +kernel
theorem kd_L_law_1068 : decode kc_L_law 1068 = .ok (.ifCond .ne 15, 3) := by decide +kernel
theorem kd_L_law_1071 : decode kc_L_law 1071 = .ok (.aload_n 3, 1) := by decide +kernel
theorem kd_L_law_1072 : decode kc_L_law 1072 = .ok (.iconst 0, 1) := by decide +kernel
theorem kd_L_law_1073 : decode kc_L_law 1073 = .ok (.laload, 1) := by decide +kernel
theorem kd_L_law_1074 : decode kc_L_law 1074 = .ok (.iload 6, 2) := by decide +kernel
theorem kd_L_law_1076 : decode kc_L_law 1076 = .ok (.i2l, 1) := by decide +kernel
theorem kd_L_law_1077 : decode kc_L_law 1077 = .ok (.lcmp, 1) := by decide +kernel
theorem kd_L_law_1078 : decode kc_L_law 1078 = .ok (.ifCond .eq 5, 3) := by decide +kernel
theorem kd_L_law_1081 : decode kc_L_law 1081 = .ok (.iconst 0, 1) := by decide +kernel
theorem kd_L_law_1082 : decode kc_L_law 1082 = .ok (.ireturn, 1) := by decide +kernel
theorem kd_L_law_1083 : decode kc_L_law 1083 = .ok (.goto 28, 3) := by decide +kernel
theorem kd_L_law_1086 : decode kc_L_law 1086 = .ok (.aload_n 1, 1) := by decide +kernel
theorem kd_L_law_1087 : decode kc_L_law 1087 = .ok (.aload_n 0, 1) := by decide +kernel
theorem kd_L_law_1088 : decode kc_L_law 1088 = .ok (.iload 4, 2) := by decide +kernel
theorem kd_L_law_1090 : decode kc_L_law 1090 = .ok (.iconst 1, 1) := by decide +kernel
theorem kd_L_law_1091 : decode kc_L_law 1091 = .ok (.iadd, 1) := by decide +kernel
theorem kd_L_law_1092 : decode kc_L_law 1092 = .ok (.iaload, 1) := by decide +kernel
theorem kd_L_law_1093 : decode kc_L_law 1093 = .ok (.invokevirtual 138, 3) := by decide +kernel
theorem kd_L_law_1096 : decode kc_L_law 1096 = .ok (.aload_n 2, 1) := by decide +kernel
theorem kd_L_law_1097 : decode kc_L_law 1097 = .ok (.aload_n 0, 1) := by decide +kernel
theorem kd_L_law_1098 : decode kc_L_law 1098 = .ok (.iload 4, 2) := by decide +kernel
theorem kd_L_law_1100 : decode kc_L_law 1100 = .ok (.iconst 1, 1) := by decide +kernel
theorem kd_L_law_1101 : decode kc_L_law 1101 = .ok (.iadd, 1) := by decide +kernel
theorem kd_L_law_1102 : decode kc_L_law 1102 = .ok (.iaload, 1) := by decide +kernel
theorem kd_L_law_1103 : decode kc_L_law 1103 = .ok (.invokevirtual 141, 3) := by decide +kernel
theorem kd_L_law_1106 : decode kc_L_law 1106 = .ok (.if_icmp .eq 5, 3) := by decide +kernel
theorem kd_L_law_1109 : decode kc_L_law 1109 = .ok (.iconst 0, 1) := by decide +kernel
theorem kd_L_law_1110 : decode kc_L_law 1110 = .ok (.ireturn, 1) := by decide +kernel
theorem kd_L_law_1111 : decode kc_L_law 1111 = .ok (.iinc 4 5, 3) := by decide +kernel
theorem kd_L_law_1114 : decode kc_L_law 1114 = .ok (.goto (-1091), 3) := by decide +kernel
theorem kd_L_law_1117 : decode kc_L_law 1117 = .ok (.iconst 1, 1) := by decide +kernel
theorem kd_L_law_1118 : decode kc_L_law 1118 = .ok (.ireturn, 1) := by decide +kernel
