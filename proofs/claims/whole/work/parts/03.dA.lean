/-! decode rows, by program -/
theorem kd_A_init_0 : decode kc_A_init 0 = .ok (.aload_n 0, 1) := by decide +kernel
theorem kd_A_init_1 : decode kc_A_init 1 = .ok (.invokespecial 1, 3) := by decide +kernel
theorem kd_A_init_4 : decode kc_A_init 4 = .ok (.aload_n 0, 1) := by decide +kernel
theorem kd_A_init_5 : decode kc_A_init 5 = .ok (.new 7, 3) := by decide +kernel
theorem kd_A_init_8 : decode kc_A_init 8 = .ok (.dup, 1) := by decide +kernel
theorem kd_A_init_9 : decode kc_A_init 9 = .ok (.invokespecial 9, 3) := by decide +kernel
theorem kd_A_init_12 : decode kc_A_init 12 = .ok (.putfield 10, 3) := by decide +kernel
theorem kd_A_init_15 : decode kc_A_init 15 = .ok (.aload_n 0, 1) := by decide +kernel
theorem kd_A_init_16 : decode kc_A_init 16 = .ok (.aload_n 0, 1) := by decide +kernel
theorem kd_A_init_17 : decode kc_A_init 17 = .ok (.getfield 10, 3) := by decide +kernel
theorem kd_A_init_20 : decode kc_A_init 20 = .ok (.getfield 16, 3) := by decide +kernel
theorem kd_A_init_23 : decode kc_A_init 23 = .ok (.putfield 20, 3) := by decide +kernel
theorem kd_A_init_26 : decode kc_A_init 26 = .ok (.aload_n 0, 1) := by decide +kernel
theorem kd_A_init_27 : decode kc_A_init 27 = .ok (.aload_n 0, 1) := by decide +kernel
theorem kd_A_init_28 : decode kc_A_init 28 = .ok (.getfield 20, 3) := by decide +kernel
theorem kd_A_init_31 : decode kc_A_init 31 = .ok (.getfield 21, 3) := by decide +kernel
theorem kd_A_init_34 : decode kc_A_init 34 = .ok (.putfield 27, 3) := by decide +kernel
theorem kd_A_init_37 : decode kc_A_init 37 = .ok (.aload_n 0, 1) := by decide +kernel
theorem kd_A_init_38 : decode kc_A_init 38 = .ok (.aload_n 0, 1) := by decide +kernel
theorem kd_A_init_39 : decode kc_A_init 39 = .ok (.getfield 20, 3) := by decide +kernel
theorem kd_A_init_42 : decode kc_A_init 42 = .ok (.getfield 28, 3) := by decide +kernel
theorem kd_A_init_45 : decode kc_A_init 45 = .ok (.putfield 32, 3) := by decide +kernel
theorem kd_A_init_48 : decode kc_A_init 48 = .ok (.aload_n 0, 1) := by decide +kernel
theorem kd_A_init_49 : decode kc_A_init 49 = .ok (.iconst 0, 1) := by decide +kernel
theorem kd_A_init_50 : decode kc_A_init 50 = .ok (.putfield 33, 3) := by decide +kernel
theorem kd_A_init_53 : decode kc_A_init 53 = .ok (.return_, 1) := by decide +kernel
theorem kd_A_exact_0 : decode kc_A_exact 0 = .ok (.aload_n 0, 1) := by decide +kernel
theorem kd_A_exact_1 : decode kc_A_exact 1 = .ok (.getfield 33, 3) := by decide +kernel
theorem kd_A_exact_4 : decode kc_A_exact 4 = .ok (.ireturn, 1) := by decide +kernel
theorem kd_A_choices_0 : decode kc_A_choices 0 = .ok (.aload_n 0, 1) := by decide +kernel
theorem kd_A_choices_1 : decode kc_A_choices 1 = .ok (.getfield 20, 3) := by decide +kernel
theorem kd_A_choices_4 : decode kc_A_choices 4 = .ok (.invokevirtual 96, 3) := by decide +kernel
theorem kd_A_choices_7 : decode kc_A_choices 7 = .ok (.ireturn, 1) := by decide +kernel
theorem kd_A_bound_0 : decode kc_A_bound 0 = .ok (.iconst 0, 1) := by decide +kernel
theorem kd_A_bound_1 : decode kc_A_bound 1 = .ok (.istore_n 1, 1) := by decide +kernel
theorem kd_A_bound_2 : decode kc_A_bound 2 = .ok (.iconst 0, 1) := by decide +kernel
theorem kd_A_bound_3 : decode kc_A_bound 3 = .ok (.istore_n 2, 1) := by decide +kernel
theorem kd_A_bound_4 : decode kc_A_bound 4 = .ok (.iload_n 2, 1) := by decide +kernel
theorem kd_A_bound_5 : decode kc_A_bound 5 = .ok (.aload_n 0, 1) := by decide +kernel
theorem kd_A_bound_6 : decode kc_A_bound 6 = .ok (.getfield 32, 3) := by decide +kernel
theorem kd_A_bound_9 : decode kc_A_bound 9 = .ok (.getfield 58, 3) := by decide +kernel
theorem kd_A_bound_12 : decode kc_A_bound 12 = .ok (.if_icmp .ge 20, 3) := by decide +kernel
theorem kd_A_bound_15 : decode kc_A_bound 15 = .ok (.iload_n 1, 1) := by decide +kernel
theorem kd_A_bound_16 : decode kc_A_bound 16 = .ok (.aload_n 0, 1) := by decide +kernel
theorem kd_A_bound_17 : decode kc_A_bound 17 = .ok (.getfield 20, 3) := by decide +kernel
theorem kd_A_bound_20 : decode kc_A_bound 20 = .ok (.iload_n 2, 1) := by decide +kernel
theorem kd_A_bound_21 : decode kc_A_bound 21 = .ok (.invokevirtual 115, 3) := by decide +kernel
theorem kd_A_bound_24 : decode kc_A_bound 24 = .ok (.iadd, 1) := by decide +kernel
theorem kd_A_bound_25 : decode kc_A_bound 25 = .ok (.istore_n 1, 1) := by decide +kernel
theorem kd_A_bound_26 : decode kc_A_bound 26 = .ok (.iinc 2 1, 3) := by decide +kernel
theorem kd_A_bound_29 : decode kc_A_bound 29 = .ok (.goto (-25), 3) := by decide +kernel
theorem kd_A_bound_32 : decode kc_A_bound 32 = .ok (.iload_n 1, 1) := by decide +kernel
theorem kd_A_bound_33 : decode kc_A_bound 33 = .ok (.ireturn, 1) := by decide +kernel
theorem kd_A_count_0 : decode kc_A_count 0 = .ok (.iload_n 1, 1) := by decide +kernel
theorem kd_A_count_1 : decode kc_A_count 1 = .ok (.tableswitch 75 0 4 #[35, 43, 51, 59, 67], 35) := by decide +kernel
theorem kd_A_count_36 : decode kc_A_count 36 = .ok (.aload_n 0, 1) := by decide +kernel
theorem kd_A_count_37 : decode kc_A_count 37 = .ok (.getfield 27, 3) := by decide +kernel
theorem kd_A_count_40 : decode kc_A_count 40 = .ok (.getfield 41, 3) := by decide +kernel
theorem kd_A_count_43 : decode kc_A_count 43 = .ok (.ireturn, 1) := by decide +kernel
theorem kd_A_count_44 : decode kc_A_count 44 = .ok (.aload_n 0, 1) := by decide +kernel
theorem kd_A_count_45 : decode kc_A_count 45 = .ok (.getfield 32, 3) := by decide +kernel
theorem kd_A_count_48 : decode kc_A_count 48 = .ok (.getfield 58, 3) := by decide +kernel
theorem kd_A_count_51 : decode kc_A_count 51 = .ok (.ireturn, 1) := by decide +kernel
theorem kd_A_count_52 : decode kc_A_count 52 = .ok (.aload_n 0, 1) := by decide +kernel
theorem kd_A_count_53 : decode kc_A_count 53 = .ok (.getfield 20, 3) := by decide +kernel
theorem kd_A_count_56 : decode kc_A_count 56 = .ok (.invokevirtual 167, 3) := by decide +kernel
theorem kd_A_count_59 : decode kc_A_count 59 = .ok (.ireturn, 1) := by decide +kernel
theorem kd_A_count_60 : decode kc_A_count 60 = .ok (.aload_n 0, 1) := by decide +kernel
theorem kd_A_count_61 : decode kc_A_count 61 = .ok (.getfield 20, 3) := by decide +kernel
theorem kd_A_count_64 : decode kc_A_count 64 = .ok (.invokevirtual 170, 3) := by decide +kernel
theorem kd_A_count_67 : decode kc_A_count 67 = .ok (.ireturn, 1) := by decide +kernel
theorem kd_A_count_68 : decode kc_A_count 68 = .ok (.aload_n 0, 1) := by decide +kernel
theorem kd_A_count_69 : decode kc_A_count 69 = .ok (.getfield 20, 3) := by decide +kernel
theorem kd_A_count_72 : decode kc_A_count 72 = .ok (.invokevirtual 112, 3) := by decide +kernel
theorem kd_A_count_75 : decode kc_A_count 75 = .ok (.ireturn, 1) := by decide +kernel
theorem kd_A_count_76 : decode kc_A_count 76 = .ok (.iconst (-1), 1) := by decide +kernel
theorem kd_A_count_77 : decode kc_A_count 77 = .ok (.ireturn, 1) := by decide +kernel
theorem kd_A_lot_0 : decode kc_A_lot 0 = .ok (.iload_n 1, 1) := by decide +kernel
theorem kd_A_lot_1 : decode kc_A_lot 1 = .ok (.iconst 0, 1) := by decide +kernel
theorem kd_A_lot_2 : decode kc_A_lot 2 = .ok (.bipush 99, 2) := by decide +kernel
theorem kd_A_lot_4 : decode kc_A_lot 4 = .ok (.invokestatic 37, 3) := by decide +kernel
theorem kd_A_lot_7 : decode kc_A_lot 7 = .ok (.iload_n 2, 1) := by decide +kernel
theorem kd_A_lot_8 : decode kc_A_lot 8 = .ok (.iconst 0, 1) := by decide +kernel
theorem kd_A_lot_9 : decode kc_A_lot 9 = .ok (.iconst 5, 1) := by decide +kernel
theorem kd_A_lot_10 : decode kc_A_lot 10 = .ok (.invokestatic 37, 3) := by decide +kernel
theorem kd_A_lot_13 : decode kc_A_lot 13 = .ok (.iload_n 3, 1) := by decide +kernel
theorem kd_A_lot_14 : decode kc_A_lot 14 = .ok (.iconst 0, 1) := by decide +kernel
theorem kd_A_lot_15 : decode kc_A_lot 15 = .ok (.sipush 500, 3) := by decide +kernel
theorem kd_A_lot_18 : decode kc_A_lot 18 = .ok (.invokestatic 37, 3) := by decide +kernel
theorem kd_A_lot_21 : decode kc_A_lot 21 = .ok (.iload 4, 2) := by decide +kernel
theorem kd_A_lot_23 : decode kc_A_lot 23 = .ok (.iconst 0, 1) := by decide +kernel
theorem kd_A_lot_24 : decode kc_A_lot 24 = .ok (.sipush 9999, 3) := by decide +kernel
theorem kd_A_lot_27 : decode kc_A_lot 27 = .ok (.invokestatic 37, 3) := by decide +kernel
theorem kd_A_lot_30 : decode kc_A_lot 30 = .ok (.aload_n 0, 1) := by decide +kernel
theorem kd_A_lot_31 : decode kc_A_lot 31 = .ok (.getfield 27, 3) := by decide +kernel
theorem kd_A_lot_34 : decode kc_A_lot 34 = .ok (.getfield 41, 3) := by decide +kernel
theorem kd_A_lot_37 : decode kc_A_lot 37 = .ok (.bipush 8, 2) := by decide +kernel
theorem kd_A_lot_39 : decode kc_A_lot 39 = .ok (.if_icmp .lt 13, 3) := by decide +kernel
theorem kd_A_lot_42 : decode kc_A_lot 42 = .ok (.new 47, 3) := by decide +kernel
theorem kd_A_lot_45 : decode kc_A_lot 45 = .ok (.dup, 1) := by decide +kernel
theorem kd_A_lot_46 : decode kc_A_lot 46 = .ok (.ldc 49, 2) := by decide +kernel
theorem kd_A_lot_48 : decode kc_A_lot 48 = .ok (.invokespecial 51, 3) := by decide +kernel
theorem kd_A_lot_51 : decode kc_A_lot 51 = .ok (.athrow, 1) := by decide +kernel
theorem kd_A_lot_52 : decode kc_A_lot 52 = .ok (.aload_n 0, 1) := by decide +kernel
theorem kd_A_lot_53 : decode kc_A_lot 53 = .ok (.getfield 27, 3) := by decide +kernel
theorem kd_A_lot_56 : decode kc_A_lot 56 = .ok (.iload_n 1, 1) := by decide +kernel
theorem kd_A_lot_57 : decode kc_A_lot 57 = .ok (.iload_n 2, 1) := by decide +kernel
theorem kd_A_lot_58 : decode kc_A_lot 58 = .ok (.iload_n 3, 1) := by decide +kernel
theorem kd_A_lot_59 : decode kc_A_lot 59 = .ok (.iload 4, 2) := by decide +kernel
theorem kd_A_lot_61 : decode kc_A_lot 61 = .ok (.invokevirtual 54, 3) := by decide +kernel
theorem kd_A_lot_64 : decode kc_A_lot 64 = .ok (.ireturn, 1) := by decide +kernel
theorem kd_A_needRange_0 : decode kc_A_needRange 0 = .ok (.iload_n 0, 1) := by decide +kernel
theorem kd_A_needRange_1 : decode kc_A_needRange 1 = .ok (.iload_n 1, 1) := by decide +kernel
theorem kd_A_needRange_2 : decode kc_A_needRange 2 = .ok (.if_icmp .lt 8, 3) := by decide +kernel
theorem kd_A_needRange_5 : decode kc_A_needRange 5 = .ok (.iload_n 0, 1) := by decide +kernel
theorem kd_A_needRange_6 : decode kc_A_needRange 6 = .ok (.iload_n 2, 1) := by decide +kernel
theorem kd_A_needRange_7 : decode kc_A_needRange 7 = .ok (.if_icmp .le 13, 3) := by decide +kernel
theorem kd_A_needRange_10 : decode kc_A_needRange 10 = .ok (.new 177, 3) := by decide +kernel
theorem kd_A_needRange_13 : decode kc_A_needRange 13 = .ok (.dup, 1) := by decide +kernel
theorem kd_A_needRange_14 : decode kc_A_needRange 14 = .ok (.ldc 179, 2) := by decide +kernel
theorem kd_A_needRange_16 : decode kc_A_needRange 16 = .ok (.invokespecial 181, 3) := by decide +kernel
theorem kd_A_needRange_19 : decode kc_A_needRange 19 = .ok (.athrow, 1) := by decide +kernel
theorem kd_A_needRange_20 : decode kc_A_needRange 20 = .ok (.return_, 1) := by decide +kernel
theorem kd_A_line_0 : decode kc_A_line 0 = .ok (.iload_n 1, 1) := by decide +kernel
theorem kd_A_line_1 : decode kc_A_line 1 = .ok (.iconst 0, 1) := by decide +kernel
theorem kd_A_line_2 : decode kc_A_line 2 = .ok (.iconst 5, 1) := by decide +kernel
theorem kd_A_line_3 : decode kc_A_line 3 = .ok (.invokestatic 37, 3) := by decide +kernel
theorem kd_A_line_6 : decode kc_A_line 6 = .ok (.iload_n 2, 1) := by decide +kernel
theorem kd_A_line_7 : decode kc_A_line 7 = .ok (.iconst 1, 1) := by decide +kernel
theorem kd_A_line_8 : decode kc_A_line 8 = .ok (.sipush 200, 3) := by decide +kernel
theorem kd_A_line_11 : decode kc_A_line 11 = .ok (.invokestatic 37, 3) := by decide +kernel
theorem kd_A_line_14 : decode kc_A_line 14 = .ok (.aload_n 0, 1) := by decide +kernel
theorem kd_A_line_15 : decode kc_A_line 15 = .ok (.getfield 32, 3) := by decide +kernel
theorem kd_A_line_18 : decode kc_A_line 18 = .ok (.getfield 58, 3) := by decide +kernel
theorem kd_A_line_21 : decode kc_A_line 21 = .ok (.bipush 6, 2) := by decide +kernel
theorem kd_A_line_23 : decode kc_A_line 23 = .ok (.if_icmp .lt 13, 3) := by decide +kernel
theorem kd_A_line_26 : decode kc_A_line 26 = .ok (.new 47, 3) := by decide +kernel
theorem kd_A_line_29 : decode kc_A_line 29 = .ok (.dup, 1) := by decide +kernel
theorem kd_A_line_30 : decode kc_A_line 30 = .ok (.ldc 61, 2) := by decide +kernel
theorem kd_A_line_32 : decode kc_A_line 32 = .ok (.invokespecial 51, 3) := by decide +kernel
theorem kd_A_line_35 : decode kc_A_line 35 = .ok (.athrow, 1) := by decide +kernel
theorem kd_A_line_36 : decode kc_A_line 36 = .ok (.aload_n 0, 1) := by decide +kernel
theorem kd_A_line_37 : decode kc_A_line 37 = .ok (.getfield 32, 3) := by decide +kernel
theorem kd_A_line_40 : decode kc_A_line 40 = .ok (.iload_n 1, 1) := by decide +kernel
theorem kd_A_line_41 : decode kc_A_line 41 = .ok (.iload_n 2, 1) := by decide +kernel
theorem kd_A_line_42 : decode kc_A_line 42 = .ok (.invokevirtual 63, 3) := by decide +kernel
theorem kd_A_line_45 : decode kc_A_line 45 = .ok (.ireturn, 1) := by decide +kernel
theorem kd_A_rule_0 : decode kc_A_rule 0 = .ok (.aload_n 0, 1) := by decide +kernel
theorem kd_A_rule_1 : decode kc_A_rule 1 = .ok (.iload_n 1, 1) := by decide +kernel
theorem kd_A_rule_2 : decode kc_A_rule 2 = .ok (.invokevirtual 66, 3) := by decide +kernel
theorem kd_A_rule_5 : decode kc_A_rule 5 = .ok (.iload_n 2, 1) := by decide +kernel
theorem kd_A_rule_6 : decode kc_A_rule 6 = .ok (.iconst 0, 1) := by decide +kernel
theorem kd_A_rule_7 : decode kc_A_rule 7 = .ok (.iconst 3, 1) := by decide +kernel
theorem kd_A_rule_8 : decode kc_A_rule 8 = .ok (.invokestatic 37, 3) := by decide +kernel
theorem kd_A_rule_11 : decode kc_A_rule 11 = .ok (.iload_n 3, 1) := by decide +kernel
theorem kd_A_rule_12 : decode kc_A_rule 12 = .ok (.getstatic 70, 3) := by decide +kernel
theorem kd_A_rule_15 : decode kc_A_rule 15 = .ok (.iload_n 2, 1) := by decide +kernel
theorem kd_A_rule_16 : decode kc_A_rule 16 = .ok (.iaload, 1) := by decide +kernel
theorem kd_A_rule_17 : decode kc_A_rule 17 = .ok (.getstatic 74, 3) := by decide +kernel
theorem kd_A_rule_20 : decode kc_A_rule 20 = .ok (.iload_n 2, 1) := by decide +kernel
theorem kd_A_rule_21 : decode kc_A_rule 21 = .ok (.iaload, 1) := by decide +kernel
theorem kd_A_rule_22 : decode kc_A_rule 22 = .ok (.invokestatic 37, 3) := by decide +kernel
theorem kd_A_rule_25 : decode kc_A_rule 25 = .ok (.aload_n 0, 1) := by decide +kernel
theorem kd_A_rule_26 : decode kc_A_rule 26 = .ok (.getfield 32, 3) := by decide +kernel
theorem kd_A_rule_29 : decode kc_A_rule 29 = .ok (.getfield 77, 3) := by decide +kernel
theorem kd_A_rule_32 : decode kc_A_rule 32 = .ok (.iload_n 1, 1) := by decide +kernel
theorem kd_A_rule_33 : decode kc_A_rule 33 = .ok (.aaload, 1) := by decide +kernel
theorem kd_A_rule_34 : decode kc_A_rule 34 = .ok (.iload_n 2, 1) := by decide +kernel
theorem kd_A_rule_35 : decode kc_A_rule 35 = .ok (.iload_n 3, 1) := by decide +kernel
theorem kd_A_rule_36 : decode kc_A_rule 36 = .ok (.iastore, 1) := by decide +kernel
theorem kd_A_rule_37 : decode kc_A_rule 37 = .ok (.return_, 1) := by decide +kernel
theorem kd_A_needLine_0 : decode kc_A_needLine 0 = .ok (.iload_n 1, 1) := by decide +kernel
theorem kd_A_needLine_1 : decode kc_A_needLine 1 = .ok (.ifCond .lt 14, 3) := by decide +kernel
theorem kd_A_needLine_4 : decode kc_A_needLine 4 = .ok (.iload_n 1, 1) := by decide +kernel
theorem kd_A_needLine_5 : decode kc_A_needLine 5 = .ok (.aload_n 0, 1) := by decide +kernel
theorem kd_A_needLine_6 : decode kc_A_needLine 6 = .ok (.getfield 32, 3) := by decide +kernel
theorem kd_A_needLine_9 : decode kc_A_needLine 9 = .ok (.getfield 58, 3) := by decide +kernel
theorem kd_A_needLine_12 : decode kc_A_needLine 12 = .ok (.if_icmp .lt 13, 3) := by decide +kernel
theorem kd_A_needLine_15 : decode kc_A_needLine 15 = .ok (.new 122, 3) := by decide +kernel
theorem kd_A_needLine_18 : decode kc_A_needLine 18 = .ok (.dup, 1) := by decide +kernel
theorem kd_A_needLine_19 : decode kc_A_needLine 19 = .ok (.ldc 175, 2) := by decide +kernel
theorem kd_A_needLine_21 : decode kc_A_needLine 21 = .ok (.invokespecial 126, 3) := by decide +kernel
theorem kd_A_needLine_24 : decode kc_A_needLine 24 = .ok (.athrow, 1) := by decide +kernel
theorem kd_A_needLine_25 : decode kc_A_needLine 25 = .ok (.return_, 1) := by decide +kernel
theorem kd_A_cost_0 : decode kc_A_cost 0 = .ok (.aload_n 0, 1) := by decide +kernel
theorem kd_A_cost_1 : decode kc_A_cost 1 = .ok (.iload_n 1, 1) := by decide +kernel
theorem kd_A_cost_2 : decode kc_A_cost 2 = .ok (.invokevirtual 81, 3) := by decide +kernel
theorem kd_A_cost_5 : decode kc_A_cost 5 = .ok (.aload_n 0, 1) := by decide +kernel
theorem kd_A_cost_6 : decode kc_A_cost 6 = .ok (.iload_n 2, 1) := by decide +kernel
theorem kd_A_cost_7 : decode kc_A_cost 7 = .ok (.invokevirtual 66, 3) := by decide +kernel
theorem kd_A_cost_10 : decode kc_A_cost 10 = .ok (.iload_n 3, 1) := by decide +kernel
theorem kd_A_cost_11 : decode kc_A_cost 11 = .ok (.iconst (-1), 1) := by decide +kernel
theorem kd_A_cost_12 : decode kc_A_cost 12 = .ok (.sipush 1000, 3) := by decide +kernel
theorem kd_A_cost_15 : decode kc_A_cost 15 = .ok (.invokestatic 37, 3) := by decide +kernel
theorem kd_A_cost_18 : decode kc_A_cost 18 = .ok (.aload_n 0, 1) := by decide +kernel
theorem kd_A_cost_19 : decode kc_A_cost 19 = .ok (.getfield 32, 3) := by decide +kernel
theorem kd_A_cost_22 : decode kc_A_cost 22 = .ok (.getfield 84, 3) := by decide +kernel
theorem kd_A_cost_25 : decode kc_A_cost 25 = .ok (.iload_n 2, 1) := by decide +kernel
theorem kd_A_cost_26 : decode kc_A_cost 26 = .ok (.aaload, 1) := by decide +kernel
theorem kd_A_cost_27 : decode kc_A_cost 27 = .ok (.iload_n 1, 1) := by decide +kernel
theorem kd_A_cost_28 : decode kc_A_cost 28 = .ok (.iload_n 3, 1) := by decide +kernel
theorem kd_A_cost_29 : decode kc_A_cost 29 = .ok (.iastore, 1) := by decide +kernel
theorem kd_A_cost_30 : decode kc_A_cost 30 = .ok (.return_, 1) := by decide +kernel
theorem kd_A_needLot_0 : decode kc_A_needLot 0 = .ok (.iload_n 1, 1) := by decide +kernel
theorem kd_A_needLot_1 : decode kc_A_needLot 1 = .ok (.ifCond .lt 14, 3) := by decide +kernel
theorem kd_A_needLot_4 : decode kc_A_needLot 4 = .ok (.iload_n 1, 1) := by decide +kernel
theorem kd_A_needLot_5 : decode kc_A_needLot 5 = .ok (.aload_n 0, 1) := by decide +kernel
theorem kd_A_needLot_6 : decode kc_A_needLot 6 = .ok (.getfield 27, 3) := by decide +kernel
theorem kd_A_needLot_9 : decode kc_A_needLot 9 = .ok (.getfield 41, 3) := by decide +kernel
theorem kd_A_needLot_12 : decode kc_A_needLot 12 = .ok (.if_icmp .lt 13, 3) := by decide +kernel
theorem kd_A_needLot_15 : decode kc_A_needLot 15 = .ok (.new 122, 3) := by decide +kernel
theorem kd_A_needLot_18 : decode kc_A_needLot 18 = .ok (.dup, 1) := by decide +kernel
theorem kd_A_needLot_19 : decode kc_A_needLot 19 = .ok (.ldc 173, 2) := by decide +kernel
theorem kd_A_needLot_21 : decode kc_A_needLot 21 = .ok (.invokespecial 126, 3) := by decide +kernel
theorem kd_A_needLot_24 : decode kc_A_needLot 24 = .ok (.athrow, 1) := by decide +kernel
theorem kd_A_needLot_25 : decode kc_A_needLot 25 = .ok (.return_, 1) := by decide +kernel
theorem kd_A_may_0 : decode kc_A_may 0 = .ok (.aload_n 0, 1) := by decide +kernel
theorem kd_A_may_1 : decode kc_A_may 1 = .ok (.iload_n 1, 1) := by decide +kernel
theorem kd_A_may_2 : decode kc_A_may 2 = .ok (.invokevirtual 81, 3) := by decide +kernel
theorem kd_A_may_5 : decode kc_A_may 5 = .ok (.aload_n 0, 1) := by decide +kernel
theorem kd_A_may_6 : decode kc_A_may 6 = .ok (.iload_n 2, 1) := by decide +kernel
theorem kd_A_may_7 : decode kc_A_may 7 = .ok (.invokevirtual 66, 3) := by decide +kernel
theorem kd_A_may_10 : decode kc_A_may 10 = .ok (.aload_n 0, 1) := by decide +kernel
theorem kd_A_may_11 : decode kc_A_may 11 = .ok (.getfield 32, 3) := by decide +kernel
theorem kd_A_may_14 : decode kc_A_may 14 = .ok (.iload_n 2, 1) := by decide +kernel
theorem kd_A_may_15 : decode kc_A_may 15 = .ok (.iload_n 1, 1) := by decide +kernel
theorem kd_A_may_16 : decode kc_A_may 16 = .ok (.iload_n 3, 1) := by decide +kernel
theorem kd_A_may_17 : decode kc_A_may 17 = .ok (.ifCond .ne 7, 3) := by decide +kernel
theorem kd_A_may_20 : decode kc_A_may 20 = .ok (.iconst 1, 1) := by decide +kernel
theorem kd_A_may_21 : decode kc_A_may 21 = .ok (.goto 4, 3) := by decide +kernel
theorem kd_A_may_24 : decode kc_A_may 24 = .ok (.iconst 0, 1) := by decide +kernel
theorem kd_A_may_25 : decode kc_A_may 25 = .ok (.invokevirtual 87, 3) := by decide +kernel
theorem kd_A_may_28 : decode kc_A_may 28 = .ok (.aload_n 0, 1) := by decide +kernel
theorem kd_A_may_29 : decode kc_A_may 29 = .ok (.getfield 20, 3) := by decide +kernel
theorem kd_A_may_32 : decode kc_A_may 32 = .ok (.iload_n 2, 1) := by decide +kernel
theorem kd_A_may_33 : decode kc_A_may 33 = .ok (.iload_n 1, 1) := by decide +kernel
theorem kd_A_may_34 : decode kc_A_may 34 = .ok (.invokevirtual 91, 3) := by decide +kernel
theorem kd_A_may_37 : decode kc_A_may 37 = .ok (.ireturn, 1) := by decide +kernel
theorem kd_A_solve_0 : decode kc_A_solve 0 = .ok (.iload_n 1, 1) := by decide +kernel
theorem kd_A_solve_1 : decode kc_A_solve 1 = .ok (.iconst 0, 1) := by decide +kernel
theorem kd_A_solve_2 : decode kc_A_solve 2 = .ok (.ldc 95, 2) := by decide +kernel
theorem kd_A_solve_4 : decode kc_A_solve 4 = .ok (.invokestatic 37, 3) := by decide +kernel
theorem kd_A_solve_7 : decode kc_A_solve 7 = .ok (.aload_n 0, 1) := by decide +kernel
theorem kd_A_solve_8 : decode kc_A_solve 8 = .ok (.getfield 20, 3) := by decide +kernel
theorem kd_A_solve_11 : decode kc_A_solve 11 = .ok (.invokevirtual 96, 3) := by decide +kernel
theorem kd_A_solve_14 : decode kc_A_solve 14 = .ok (.istore_n 2, 1) := by decide +kernel
theorem kd_A_solve_15 : decode kc_A_solve 15 = .ok (.aload_n 0, 1) := by decide +kernel
theorem kd_A_solve_16 : decode kc_A_solve 16 = .ok (.iload_n 2, 1) := by decide +kernel
theorem kd_A_solve_17 : decode kc_A_solve 17 = .ok (.ifCond .lt 12, 3) := by decide +kernel
theorem kd_A_solve_20 : decode kc_A_solve 20 = .ok (.iload_n 2, 1) := by decide +kernel
theorem kd_A_solve_21 : decode kc_A_solve 21 = .ok (.iload_n 1, 1) := by decide +kernel
theorem kd_A_solve_22 : decode kc_A_solve 22 = .ok (.if_icmp .gt 7, 3) := by decide +kernel
theorem kd_A_solve_25 : decode kc_A_solve 25 = .ok (.iconst 1, 1) := by decide +kernel
theorem kd_A_solve_26 : decode kc_A_solve 26 = .ok (.goto 4, 3) := by decide +kernel
theorem kd_A_solve_29 : decode kc_A_solve 29 = .ok (.iconst 0, 1) := by decide +kernel
theorem kd_A_solve_30 : decode kc_A_solve 30 = .ok (.putfield 33, 3) := by decide +kernel
theorem kd_A_solve_33 : decode kc_A_solve 33 = .ok (.aload_n 0, 1) := by decide +kernel
theorem kd_A_solve_34 : decode kc_A_solve 34 = .ok (.getfield 20, 3) := by decide +kernel
theorem kd_A_solve_37 : decode kc_A_solve 37 = .ok (.invokevirtual 100, 3) := by decide +kernel
theorem kd_A_solve_40 : decode kc_A_solve 40 = .ok (.aload_n 0, 1) := by decide +kernel
theorem kd_A_solve_41 : decode kc_A_solve 41 = .ok (.getfield 10, 3) := by decide +kernel
theorem kd_A_solve_44 : decode kc_A_solve 44 = .ok (.invokevirtual 103, 3) := by decide +kernel
theorem kd_A_solve_47 : decode kc_A_solve 47 = .ok (.aload_n 0, 1) := by decide +kernel
theorem kd_A_solve_48 : decode kc_A_solve 48 = .ok (.getfield 33, 3) := by decide +kernel
theorem kd_A_solve_51 : decode kc_A_solve 51 = .ok (.ifCond .eq 13, 3) := by decide +kernel
theorem kd_A_solve_54 : decode kc_A_solve 54 = .ok (.aload_n 0, 1) := by decide +kernel
theorem kd_A_solve_55 : decode kc_A_solve 55 = .ok (.getfield 10, 3) := by decide +kernel
theorem kd_A_solve_58 : decode kc_A_solve 58 = .ok (.invokevirtual 106, 3) := by decide +kernel
theorem kd_A_solve_61 : decode kc_A_solve 61 = .ok (.goto 10, 3) := by decide +kernel
theorem kd_A_solve_64 : decode kc_A_solve 64 = .ok (.aload_n 0, 1) := by decide +kernel
theorem kd_A_solve_65 : decode kc_A_solve 65 = .ok (.getfield 10, 3) := by decide +kernel
theorem kd_A_solve_68 : decode kc_A_solve 68 = .ok (.invokevirtual 109, 3) := by decide +kernel
theorem kd_A_solve_71 : decode kc_A_solve 71 = .ok (.aload_n 0, 1) := by decide +kernel
theorem kd_A_solve_72 : decode kc_A_solve 72 = .ok (.getfield 20, 3) := by decide +kernel
theorem kd_A_solve_75 : decode kc_A_solve 75 = .ok (.invokevirtual 112, 3) := by decide +kernel
theorem kd_A_solve_78 : decode kc_A_solve 78 = .ok (.ireturn, 1) := by decide +kernel
theorem kd_A_give_0 : decode kc_A_give 0 = .ok (.aload_n 0, 1) := by decide +kernel
theorem kd_A_give_1 : decode kc_A_give 1 = .ok (.iload_n 1, 1) := by decide +kernel
theorem kd_A_give_2 : decode kc_A_give 2 = .ok (.invokevirtual 66, 3) := by decide +kernel
theorem kd_A_give_5 : decode kc_A_give 5 = .ok (.aload_n 0, 1) := by decide +kernel
theorem kd_A_give_6 : decode kc_A_give 6 = .ok (.getfield 20, 3) := by decide +kernel
theorem kd_A_give_9 : decode kc_A_give 9 = .ok (.iload_n 1, 1) := by decide +kernel
theorem kd_A_give_10 : decode kc_A_give 10 = .ok (.iload_n 2, 1) := by decide +kernel
theorem kd_A_give_11 : decode kc_A_give 11 = .ok (.invokevirtual 119, 3) := by decide +kernel
theorem kd_A_give_14 : decode kc_A_give 14 = .ok (.istore 4, 2) := by decide +kernel
theorem kd_A_give_16 : decode kc_A_give 16 = .ok (.iload 4, 2) := by decide +kernel
theorem kd_A_give_18 : decode kc_A_give 18 = .ok (.ifCond .ge 13, 3) := by decide +kernel
theorem kd_A_give_21 : decode kc_A_give 21 = .ok (.new 122, 3) := by decide +kernel
theorem kd_A_give_24 : decode kc_A_give 24 = .ok (.dup, 1) := by decide +kernel
theorem kd_A_give_25 : decode kc_A_give 25 = .ok (.ldc 124, 2) := by decide +kernel
theorem kd_A_give_27 : decode kc_A_give 27 = .ok (.invokespecial 126, 3) := by decide +kernel
theorem kd_A_give_30 : decode kc_A_give 30 = .ok (.athrow, 1) := by decide +kernel
theorem kd_A_give_31 : decode kc_A_give 31 = .ok (.iload_n 3, 1) := by decide +kernel
theorem kd_A_give_32 : decode kc_A_give 32 = .ok (.iconst 0, 1) := by decide +kernel
theorem kd_A_give_33 : decode kc_A_give 33 = .ok (.iconst 2, 1) := by decide +kernel
theorem kd_A_give_34 : decode kc_A_give 34 = .ok (.invokestatic 37, 3) := by decide +kernel
theorem kd_A_give_37 : decode kc_A_give 37 = .ok (.iload_n 3, 1) := by decide +kernel
theorem kd_A_give_38 : decode kc_A_give 38 = .ok (.ifCond .ne 6, 3) := by decide +kernel
theorem kd_A_give_41 : decode kc_A_give 41 = .ok (.iload 4, 2) := by decide +kernel
theorem kd_A_give_43 : decode kc_A_give 43 = .ok (.ireturn, 1) := by decide +kernel
theorem kd_A_give_44 : decode kc_A_give 44 = .ok (.iload_n 3, 1) := by decide +kernel
theorem kd_A_give_45 : decode kc_A_give 45 = .ok (.iconst 1, 1) := by decide +kernel
theorem kd_A_give_46 : decode kc_A_give 46 = .ok (.if_icmp .ne 18, 3) := by decide +kernel
theorem kd_A_give_49 : decode kc_A_give 49 = .ok (.aload_n 0, 1) := by decide +kernel
theorem kd_A_give_50 : decode kc_A_give 50 = .ok (.getfield 32, 3) := by decide +kernel
theorem kd_A_give_53 : decode kc_A_give 53 = .ok (.getfield 127, 3) := by decide +kernel
theorem kd_A_give_56 : decode kc_A_give 56 = .ok (.iload_n 1, 1) := by decide +kernel
theorem kd_A_give_57 : decode kc_A_give 57 = .ok (.aaload, 1) := by decide +kernel
theorem kd_A_give_58 : decode kc_A_give 58 = .ok (.iload 4, 2) := by decide +kernel
theorem kd_A_give_60 : decode kc_A_give 60 = .ok (.iaload, 1) := by decide +kernel
theorem kd_A_give_61 : decode kc_A_give 61 = .ok (.goto 13, 3) := by decide +kernel
theorem kd_A_give_64 : decode kc_A_give 64 = .ok (.aload_n 0, 1) := by decide +kernel
theorem kd_A_give_65 : decode kc_A_give 65 = .ok (.getfield 20, 3) := by decide +kernel
theorem kd_A_give_68 : decode kc_A_give 68 = .ok (.iload_n 1, 1) := by decide +kernel
theorem kd_A_give_69 : decode kc_A_give 69 = .ok (.iload 4, 2) := by decide +kernel
theorem kd_A_give_71 : decode kc_A_give 71 = .ok (.invokevirtual 130, 3) := by decide +kernel
theorem kd_A_give_74 : decode kc_A_give 74 = .ok (.ireturn, 1) := by decide +kernel
theorem kd_A_held_0 : decode kc_A_held 0 = .ok (.aload_n 0, 1) := by decide +kernel
theorem kd_A_held_1 : decode kc_A_held 1 = .ok (.iload_n 1, 1) := by decide +kernel
theorem kd_A_held_2 : decode kc_A_held 2 = .ok (.invokevirtual 81, 3) := by decide +kernel
theorem kd_A_held_5 : decode kc_A_held 5 = .ok (.aload_n 0, 1) := by decide +kernel
theorem kd_A_held_6 : decode kc_A_held 6 = .ok (.getfield 27, 3) := by decide +kernel
theorem kd_A_held_9 : decode kc_A_held 9 = .ok (.getfield 133, 3) := by decide +kernel
theorem kd_A_held_12 : decode kc_A_held 12 = .ok (.iload_n 1, 1) := by decide +kernel
theorem kd_A_held_13 : decode kc_A_held 13 = .ok (.iaload, 1) := by decide +kernel
theorem kd_A_held_14 : decode kc_A_held 14 = .ok (.aload_n 0, 1) := by decide +kernel
theorem kd_A_held_15 : decode kc_A_held 15 = .ok (.getfield 27, 3) := by decide +kernel
theorem kd_A_held_18 : decode kc_A_held 18 = .ok (.getfield 136, 3) := by decide +kernel
theorem kd_A_held_21 : decode kc_A_held 21 = .ok (.iload_n 1, 1) := by decide +kernel
theorem kd_A_held_22 : decode kc_A_held 22 = .ok (.iaload, 1) := by decide +kernel
theorem kd_A_held_23 : decode kc_A_held 23 = .ok (.isub, 1) := by decide +kernel
theorem kd_A_held_24 : decode kc_A_held 24 = .ok (.ireturn, 1) := by decide +kernel
theorem kd_A_left_0 : decode kc_A_left 0 = .ok (.aload_n 0, 1) := by decide +kernel
theorem kd_A_left_1 : decode kc_A_left 1 = .ok (.iload_n 1, 1) := by decide +kernel
theorem kd_A_left_2 : decode kc_A_left 2 = .ok (.invokevirtual 81, 3) := by decide +kernel
theorem kd_A_left_5 : decode kc_A_left 5 = .ok (.aload_n 0, 1) := by decide +kernel
theorem kd_A_left_6 : decode kc_A_left 6 = .ok (.getfield 27, 3) := by decide +kernel
theorem kd_A_left_9 : decode kc_A_left 9 = .ok (.getfield 136, 3) := by decide +kernel
theorem kd_A_left_12 : decode kc_A_left 12 = .ok (.iload_n 1, 1) := by decide +kernel
theorem kd_A_left_13 : decode kc_A_left 13 = .ok (.iaload, 1) := by decide +kernel
theorem kd_A_left_14 : decode kc_A_left 14 = .ok (.ireturn, 1) := by decide +kernel
theorem kd_A_bar_0 : decode kc_A_bar 0 = .ok (.aload_n 0, 1) := by decide +kernel
theorem kd_A_bar_1 : decode kc_A_bar 1 = .ok (.iload_n 1, 1) := by decide +kernel
theorem kd_A_bar_2 : decode kc_A_bar 2 = .ok (.invokevirtual 66, 3) := by decide +kernel
theorem kd_A_bar_5 : decode kc_A_bar 5 = .ok (.aload_n 0, 1) := by decide +kernel
theorem kd_A_bar_6 : decode kc_A_bar 6 = .ok (.getfield 20, 3) := by decide +kernel
theorem kd_A_bar_9 : decode kc_A_bar 9 = .ok (.iload_n 1, 1) := by decide +kernel
theorem kd_A_bar_10 : decode kc_A_bar 10 = .ok (.invokevirtual 139, 3) := by decide +kernel
theorem kd_A_bar_13 : decode kc_A_bar 13 = .ok (.ireturn, 1) := by decide +kernel
theorem kd_A_change_0 : decode kc_A_change 0 = .ok (.aload_n 0, 1) := by decide +kernel
theorem kd_A_change_1 : decode kc_A_change 1 = .ok (.iload_n 1, 1) := by decide +kernel
theorem kd_A_change_2 : decode kc_A_change 2 = .ok (.invokevirtual 81, 3) := by decide +kernel
theorem kd_A_change_5 : decode kc_A_change 5 = .ok (.iload_n 2, 1) := by decide +kernel
theorem kd_A_change_6 : decode kc_A_change 6 = .ok (.iconst 0, 1) := by decide +kernel
theorem kd_A_change_7 : decode kc_A_change 7 = .ok (.sipush 500, 3) := by decide +kernel
theorem kd_A_change_10 : decode kc_A_change 10 = .ok (.invokestatic 37, 3) := by decide +kernel
theorem kd_A_change_13 : decode kc_A_change 13 = .ok (.aload_n 0, 1) := by decide +kernel
theorem kd_A_change_14 : decode kc_A_change 14 = .ok (.getfield 20, 3) := by decide +kernel
theorem kd_A_change_17 : decode kc_A_change 17 = .ok (.iload_n 1, 1) := by decide +kernel
theorem kd_A_change_18 : decode kc_A_change 18 = .ok (.iload_n 2, 1) := by decide +kernel
theorem kd_A_change_19 : decode kc_A_change 19 = .ok (.invokevirtual 142, 3) := by decide +kernel
theorem kd_A_change_22 : decode kc_A_change 22 = .ok (.ireturn, 1) := by decide +kernel
theorem kd_A_undo_0 : decode kc_A_undo 0 = .ok (.aload_n 0, 1) := by decide +kernel
theorem kd_A_undo_1 : decode kc_A_undo 1 = .ok (.iload_n 1, 1) := by decide +kernel
theorem kd_A_undo_2 : decode kc_A_undo 2 = .ok (.invokevirtual 66, 3) := by decide +kernel
theorem kd_A_undo_5 : decode kc_A_undo 5 = .ok (.aload_n 0, 1) := by decide +kernel
theorem kd_A_undo_6 : decode kc_A_undo 6 = .ok (.getfield 20, 3) := by decide +kernel
theorem kd_A_undo_9 : decode kc_A_undo 9 = .ok (.iload_n 1, 1) := by decide +kernel
theorem kd_A_undo_10 : decode kc_A_undo 10 = .ok (.invokevirtual 145, 3) := by decide +kernel
theorem kd_A_undo_13 : decode kc_A_undo 13 = .ok (.istore_n 2, 1) := by decide +kernel
theorem kd_A_undo_14 : decode kc_A_undo 14 = .ok (.iload_n 2, 1) := by decide +kernel
theorem kd_A_undo_15 : decode kc_A_undo 15 = .ok (.ifCond .ne 13, 3) := by decide +kernel
theorem kd_A_undo_18 : decode kc_A_undo 18 = .ok (.new 148, 3) := by decide +kernel
theorem kd_A_undo_21 : decode kc_A_undo 21 = .ok (.dup, 1) := by decide +kernel
theorem kd_A_undo_22 : decode kc_A_undo 22 = .ok (.ldc 150, 2) := by decide +kernel
theorem kd_A_undo_24 : decode kc_A_undo 24 = .ok (.invokespecial 152, 3) := by decide +kernel
theorem kd_A_undo_27 : decode kc_A_undo 27 = .ok (.athrow, 1) := by decide +kernel
theorem kd_A_undo_28 : decode kc_A_undo 28 = .ok (.aload_n 0, 1) := by decide +kernel
theorem kd_A_undo_29 : decode kc_A_undo 29 = .ok (.getfield 20, 3) := by decide +kernel
theorem kd_A_undo_32 : decode kc_A_undo 32 = .ok (.iload_n 1, 1) := by decide +kernel
theorem kd_A_undo_33 : decode kc_A_undo 33 = .ok (.invokevirtual 153, 3) := by decide +kernel
theorem kd_A_undo_36 : decode kc_A_undo 36 = .ok (.iload_n 2, 1) := by decide +kernel
theorem kd_A_undo_37 : decode kc_A_undo 37 = .ok (.ireturn, 1) := by decide +kernel
theorem kd_A_refused_0 : decode kc_A_refused 0 = .ok (.aload_n 0, 1) := by decide +kernel
theorem kd_A_refused_1 : decode kc_A_refused 1 = .ok (.iload_n 1, 1) := by decide +kernel
theorem kd_A_refused_2 : decode kc_A_refused 2 = .ok (.invokevirtual 66, 3) := by decide +kernel
theorem kd_A_refused_5 : decode kc_A_refused 5 = .ok (.aload_n 0, 1) := by decide +kernel
theorem kd_A_refused_6 : decode kc_A_refused 6 = .ok (.getfield 32, 3) := by decide +kernel
theorem kd_A_refused_9 : decode kc_A_refused 9 = .ok (.getfield 156, 3) := by decide +kernel
theorem kd_A_refused_12 : decode kc_A_refused 12 = .ok (.iload_n 1, 1) := by decide +kernel
theorem kd_A_refused_13 : decode kc_A_refused 13 = .ok (.iaload, 1) := by decide +kernel
theorem kd_A_refused_14 : decode kc_A_refused 14 = .ok (.aload_n 0, 1) := by decide +kernel
theorem kd_A_refused_15 : decode kc_A_refused 15 = .ok (.getfield 20, 3) := by decide +kernel
theorem kd_A_refused_18 : decode kc_A_refused 18 = .ok (.iload_n 1, 1) := by decide +kernel
theorem kd_A_refused_19 : decode kc_A_refused 19 = .ok (.invokevirtual 145, 3) := by decide +kernel
theorem kd_A_refused_22 : decode kc_A_refused 22 = .ok (.isub, 1) := by decide +kernel
theorem kd_A_refused_23 : decode kc_A_refused 23 = .ok (.ireturn, 1) := by decide +kernel
theorem kd_A_average_0 : decode kc_A_average 0 = .ok (.aload_n 0, 1) := by decide +kernel
theorem kd_A_average_1 : decode kc_A_average 1 = .ok (.iload_n 1, 1) := by decide +kernel
theorem kd_A_average_2 : decode kc_A_average 2 = .ok (.invokevirtual 66, 3) := by decide +kernel
theorem kd_A_average_5 : decode kc_A_average 5 = .ok (.aload_n 0, 1) := by decide +kernel
theorem kd_A_average_6 : decode kc_A_average 6 = .ok (.getfield 20, 3) := by decide +kernel
theorem kd_A_average_9 : decode kc_A_average 9 = .ok (.iload_n 1, 1) := by decide +kernel
theorem kd_A_average_10 : decode kc_A_average 10 = .ok (.invokevirtual 145, 3) := by decide +kernel
theorem kd_A_average_13 : decode kc_A_average 13 = .ok (.istore_n 2, 1) := by decide +kernel
theorem kd_A_average_14 : decode kc_A_average 14 = .ok (.iload_n 2, 1) := by decide +kernel
theorem kd_A_average_15 : decode kc_A_average 15 = .ok (.ifCond .ne 13, 3) := by decide +kernel
theorem kd_A_average_18 : decode kc_A_average 18 = .ok (.new 159, 3) := by decide +kernel
theorem kd_A_average_21 : decode kc_A_average 21 = .ok (.dup, 1) := by decide +kernel
theorem kd_A_average_22 : decode kc_A_average 22 = .ok (.ldc 161, 2) := by decide +kernel
theorem kd_A_average_24 : decode kc_A_average 24 = .ok (.invokespecial 163, 3) := by decide +kernel
theorem kd_A_average_27 : decode kc_A_average 27 = .ok (.athrow, 1) := by decide +kernel
theorem kd_A_average_28 : decode kc_A_average 28 = .ok (.aload_n 0, 1) := by decide +kernel
theorem kd_A_average_29 : decode kc_A_average 29 = .ok (.getfield 20, 3) := by decide +kernel
theorem kd_A_average_32 : decode kc_A_average 32 = .ok (.iload_n 1, 1) := by decide +kernel
theorem kd_A_average_33 : decode kc_A_average 33 = .ok (.invokevirtual 164, 3) := by decide +kernel
theorem kd_A_average_36 : decode kc_A_average 36 = .ok (.iload_n 2, 1) := by decide +kernel
theorem kd_A_average_37 : decode kc_A_average 37 = .ok (.idiv, 1) := by decide +kernel
theorem kd_A_average_38 : decode kc_A_average 38 = .ok (.ireturn, 1) := by decide +kernel
