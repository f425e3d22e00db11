/-! decode rows, by program -/
theorem kd_F_init_0 : decode kc_F_init 0 = .ok (.aload_n 0, 1) := by decide +kernel
theorem kd_F_init_1 : decode kc_F_init 1 = .ok (.invokespecial 3, 3) := by decide +kernel
theorem kd_F_init_4 : decode kc_F_init 4 = .ok (.aload_n 0, 1) := by decide +kernel
theorem kd_F_init_5 : decode kc_F_init 5 = .ok (.new 9, 3) := by decide +kernel
theorem kd_F_init_8 : decode kc_F_init 8 = .ok (.dup, 1) := by decide +kernel
theorem kd_F_init_9 : decode kc_F_init 9 = .ok (.invokespecial 11, 3) := by decide +kernel
theorem kd_F_init_12 : decode kc_F_init 12 = .ok (.putfield 12, 3) := by decide +kernel
theorem kd_F_init_15 : decode kc_F_init 15 = .ok (.aload_n 0, 1) := by decide +kernel
theorem kd_F_init_16 : decode kc_F_init 16 = .ok (.new 18, 3) := by decide +kernel
theorem kd_F_init_19 : decode kc_F_init 19 = .ok (.dup, 1) := by decide +kernel
theorem kd_F_init_20 : decode kc_F_init 20 = .ok (.invokespecial 20, 3) := by decide +kernel
theorem kd_F_init_23 : decode kc_F_init 23 = .ok (.putfield 21, 3) := by decide +kernel
theorem kd_F_init_26 : decode kc_F_init 26 = .ok (.return_, 1) := by decide +kernel
theorem kd_T_init_0 : decode kc_T_init 0 = .ok (.aload_n 0, 1) := by decide +kernel
theorem kd_T_init_1 : decode kc_T_init 1 = .ok (.invokespecial 3, 3) := by decide +kernel
theorem kd_T_init_4 : decode kc_T_init 4 = .ok (.aload_n 0, 1) := by decide +kernel
theorem kd_T_init_5 : decode kc_T_init 5 = .ok (.bipush 8, 2) := by decide +kernel
theorem kd_T_init_7 : decode kc_T_init 7 = .ok (.newarray .int, 2) := by decide +kernel
theorem kd_T_init_9 : decode kc_T_init 9 = .ok (.putfield 9, 3) := by decide +kernel
theorem kd_T_init_12 : decode kc_T_init 12 = .ok (.aload_n 0, 1) := by decide +kernel
theorem kd_T_init_13 : decode kc_T_init 13 = .ok (.bipush 8, 2) := by decide +kernel
theorem kd_T_init_15 : decode kc_T_init 15 = .ok (.newarray .int, 2) := by decide +kernel
theorem kd_T_init_17 : decode kc_T_init 17 = .ok (.putfield 15, 3) := by decide +kernel
theorem kd_T_init_20 : decode kc_T_init 20 = .ok (.aload_n 0, 1) := by decide +kernel
theorem kd_T_init_21 : decode kc_T_init 21 = .ok (.bipush 8, 2) := by decide +kernel
theorem kd_T_init_23 : decode kc_T_init 23 = .ok (.newarray .int, 2) := by decide +kernel
theorem kd_T_init_25 : decode kc_T_init 25 = .ok (.putfield 18, 3) := by decide +kernel
theorem kd_T_init_28 : decode kc_T_init 28 = .ok (.aload_n 0, 1) := by decide +kernel
theorem kd_T_init_29 : decode kc_T_init 29 = .ok (.bipush 8, 2) := by decide +kernel
theorem kd_T_init_31 : decode kc_T_init 31 = .ok (.newarray .int, 2) := by decide +kernel
theorem kd_T_init_33 : decode kc_T_init 33 = .ok (.putfield 21, 3) := by decide +kernel
theorem kd_T_init_36 : decode kc_T_init 36 = .ok (.aload_n 0, 1) := by decide +kernel
theorem kd_T_init_37 : decode kc_T_init 37 = .ok (.bipush 8, 2) := by decide +kernel
theorem kd_T_init_39 : decode kc_T_init 39 = .ok (.newarray .int, 2) := by decide +kernel
theorem kd_T_init_41 : decode kc_T_init 41 = .ok (.putfield 24, 3) := by decide +kernel
theorem kd_T_init_44 : decode kc_T_init 44 = .ok (.aload_n 0, 1) := by decide +kernel
theorem kd_T_init_45 : decode kc_T_init 45 = .ok (.bipush 8, 2) := by decide +kernel
theorem kd_T_init_47 : decode kc_T_init 47 = .ok (.newarray .int, 2) := by decide +kernel
theorem kd_T_init_49 : decode kc_T_init 49 = .ok (.putfield 27, 3) := by decide +kernel
theorem kd_T_init_52 : decode kc_T_init 52 = .ok (.return_, 1) := by decide +kernel
theorem kd_N_init_0 : decode kc_N_init 0 = .ok (.aload_n 0, 1) := by decide +kernel
theorem kd_N_init_1 : decode kc_N_init 1 = .ok (.invokespecial 3, 3) := by decide +kernel
theorem kd_N_init_4 : decode kc_N_init 4 = .ok (.aload_n 0, 1) := by decide +kernel
theorem kd_N_init_5 : decode kc_N_init 5 = .ok (.bipush 6, 2) := by decide +kernel
theorem kd_N_init_7 : decode kc_N_init 7 = .ok (.newarray .int, 2) := by decide +kernel
theorem kd_N_init_9 : decode kc_N_init 9 = .ok (.putfield 9, 3) := by decide +kernel
theorem kd_N_init_12 : decode kc_N_init 12 = .ok (.aload_n 0, 1) := by decide +kernel
theorem kd_N_init_13 : decode kc_N_init 13 = .ok (.bipush 6, 2) := by decide +kernel
theorem kd_N_init_15 : decode kc_N_init 15 = .ok (.newarray .int, 2) := by decide +kernel
theorem kd_N_init_17 : decode kc_N_init 17 = .ok (.putfield 15, 3) := by decide +kernel
theorem kd_N_init_20 : decode kc_N_init 20 = .ok (.aload_n 0, 1) := by decide +kernel
theorem kd_N_init_21 : decode kc_N_init 21 = .ok (.bipush 6, 2) := by decide +kernel
theorem kd_N_init_23 : decode kc_N_init 23 = .ok (.newarray .int, 2) := by decide +kernel
theorem kd_N_init_25 : decode kc_N_init 25 = .ok (.putfield 18, 3) := by decide +kernel
theorem kd_N_init_28 : decode kc_N_init 28 = .ok (.aload_n 0, 1) := by decide +kernel
theorem kd_N_init_29 : decode kc_N_init 29 = .ok (.bipush 6, 2) := by decide +kernel
theorem kd_N_init_31 : decode kc_N_init 31 = .ok (.iconst 4, 1) := by decide +kernel
theorem kd_N_init_32 : decode kc_N_init 32 = .ok (.multianewarray 21 2, 4) := by decide +kernel
theorem kd_N_init_36 : decode kc_N_init 36 = .ok (.putfield 23, 3) := by decide +kernel
theorem kd_N_init_39 : decode kc_N_init 39 = .ok (.aload_n 0, 1) := by decide +kernel
theorem kd_N_init_40 : decode kc_N_init 40 = .ok (.bipush 6, 2) := by decide +kernel
theorem kd_N_init_42 : decode kc_N_init 42 = .ok (.bipush 8, 2) := by decide +kernel
theorem kd_N_init_44 : decode kc_N_init 44 = .ok (.multianewarray 21 2, 4) := by decide +kernel
theorem kd_N_init_48 : decode kc_N_init 48 = .ok (.putfield 26, 3) := by decide +kernel
theorem kd_N_init_51 : decode kc_N_init 51 = .ok (.aload_n 0, 1) := by decide +kernel
theorem kd_N_init_52 : decode kc_N_init 52 = .ok (.bipush 6, 2) := by decide +kernel
theorem kd_N_init_54 : decode kc_N_init 54 = .ok (.bipush 8, 2) := by decide +kernel
theorem kd_N_init_56 : decode kc_N_init 56 = .ok (.multianewarray 21 2, 4) := by decide +kernel
theorem kd_N_init_60 : decode kc_N_init 60 = .ok (.putfield 29, 3) := by decide +kernel
theorem kd_N_init_63 : decode kc_N_init 63 = .ok (.return_, 1) := by decide +kernel
theorem kd_F_countChoices_0 : decode kc_F_countChoices 0 = .ok (.iconst 1, 1) := by decide +kernel
theorem kd_F_countChoices_1 : decode kc_F_countChoices 1 = .ok (.istore_n 1, 1) := by decide +kernel
theorem kd_F_countChoices_2 : decode kc_F_countChoices 2 = .ok (.iconst 0, 1) := by decide +kernel
theorem kd_F_countChoices_3 : decode kc_F_countChoices 3 = .ok (.istore_n 2, 1) := by decide +kernel
theorem kd_F_countChoices_4 : decode kc_F_countChoices 4 = .ok (.iload_n 2, 1) := by decide +kernel
theorem kd_F_countChoices_5 : decode kc_F_countChoices 5 = .ok (.aload_n 0, 1) := by decide +kernel
theorem kd_F_countChoices_6 : decode kc_F_countChoices 6 = .ok (.getfield 21, 3) := by decide +kernel
theorem kd_F_countChoices_9 : decode kc_F_countChoices 9 = .ok (.getfield 63, 3) := by decide +kernel
theorem kd_F_countChoices_12 : decode kc_F_countChoices 12 = .ok (.if_icmp .ge 49, 3) := by decide +kernel
theorem kd_F_countChoices_15 : decode kc_F_countChoices 15 = .ok (.iconst 0, 1) := by decide +kernel
theorem kd_F_countChoices_16 : decode kc_F_countChoices 16 = .ok (.istore_n 3, 1) := by decide +kernel
theorem kd_F_countChoices_17 : decode kc_F_countChoices 17 = .ok (.iload_n 3, 1) := by decide +kernel
theorem kd_F_countChoices_18 : decode kc_F_countChoices 18 = .ok (.aload_n 0, 1) := by decide +kernel
theorem kd_F_countChoices_19 : decode kc_F_countChoices 19 = .ok (.getfield 12, 3) := by decide +kernel
theorem kd_F_countChoices_22 : decode kc_F_countChoices 22 = .ok (.getfield 48, 3) := by decide +kernel
theorem kd_F_countChoices_25 : decode kc_F_countChoices 25 = .ok (.if_icmp .ge 30, 3) := by decide +kernel
theorem kd_F_countChoices_28 : decode kc_F_countChoices 28 = .ok (.aload_n 0, 1) := by decide +kernel
theorem kd_F_countChoices_29 : decode kc_F_countChoices 29 = .ok (.iload_n 2, 1) := by decide +kernel
theorem kd_F_countChoices_30 : decode kc_F_countChoices 30 = .ok (.iload_n 3, 1) := by decide +kernel
theorem kd_F_countChoices_31 : decode kc_F_countChoices 31 = .ok (.invokevirtual 64, 3) := by decide +kernel
theorem kd_F_countChoices_34 : decode kc_F_countChoices 34 = .ok (.ifCond .eq 7, 3) := by decide +kernel
theorem kd_F_countChoices_37 : decode kc_F_countChoices 37 = .ok (.iload_n 1, 1) := by decide +kernel
theorem kd_F_countChoices_38 : decode kc_F_countChoices 38 = .ok (.iconst 2, 1) := by decide +kernel
theorem kd_F_countChoices_39 : decode kc_F_countChoices 39 = .ok (.imul, 1) := by decide +kernel
theorem kd_F_countChoices_40 : decode kc_F_countChoices 40 = .ok (.istore_n 1, 1) := by decide +kernel
theorem kd_F_countChoices_41 : decode kc_F_countChoices 41 = .ok (.iload_n 1, 1) := by decide +kernel
theorem kd_F_countChoices_42 : decode kc_F_countChoices 42 = .ok (.ldc 67, 2) := by decide +kernel
theorem kd_F_countChoices_44 : decode kc_F_countChoices 44 = .ok (.if_icmp .le 5, 3) := by decide +kernel
theorem kd_F_countChoices_47 : decode kc_F_countChoices 47 = .ok (.iconst (-1), 1) := by decide +kernel
theorem kd_F_countChoices_48 : decode kc_F_countChoices 48 = .ok (.ireturn, 1) := by decide +kernel
theorem kd_F_countChoices_49 : decode kc_F_countChoices 49 = .ok (.iinc 3 1, 3) := by decide +kernel
theorem kd_F_countChoices_52 : decode kc_F_countChoices 52 = .ok (.goto (-35), 3) := by decide +kernel
theorem kd_F_countChoices_55 : decode kc_F_countChoices 55 = .ok (.iinc 2 1, 3) := by decide +kernel
theorem kd_F_countChoices_58 : decode kc_F_countChoices 58 = .ok (.goto (-54), 3) := by decide +kernel
theorem kd_F_countChoices_61 : decode kc_F_countChoices 61 = .ok (.iload_n 1, 1) := by decide +kernel
theorem kd_F_countChoices_62 : decode kc_F_countChoices 62 = .ok (.ireturn, 1) := by decide +kernel
theorem kd_F_allows_0 : decode kc_F_allows 0 = .ok (.aload_n 0, 1) := by decide +kernel
theorem kd_F_allows_1 : decode kc_F_allows 1 = .ok (.iload_n 1, 1) := by decide +kernel
theorem kd_F_allows_2 : decode kc_F_allows 2 = .ok (.iload_n 2, 1) := by decide +kernel
theorem kd_F_allows_3 : decode kc_F_allows 3 = .ok (.invokevirtual 44, 3) := by decide +kernel
theorem kd_F_allows_6 : decode kc_F_allows 6 = .ok (.iconst 3, 1) := by decide +kernel
theorem kd_F_allows_7 : decode kc_F_allows 7 = .ok (.if_icmp .lt 7, 3) := by decide +kernel
theorem kd_F_allows_10 : decode kc_F_allows 10 = .ok (.iconst 1, 1) := by decide +kernel
theorem kd_F_allows_11 : decode kc_F_allows 11 = .ok (.goto 4, 3) := by decide +kernel
theorem kd_F_allows_14 : decode kc_F_allows 14 = .ok (.iconst 0, 1) := by decide +kernel
theorem kd_F_allows_15 : decode kc_F_allows 15 = .ok (.ireturn, 1) := by decide +kernel
theorem kd_F_barsPassed_0 : decode kc_F_barsPassed 0 = .ok (.aload_n 0, 1) := by decide +kernel
theorem kd_F_barsPassed_1 : decode kc_F_barsPassed 1 = .ok (.getfield 12, 3) := by decide +kernel
theorem kd_F_barsPassed_4 : decode kc_F_barsPassed 4 = .ok (.getfield 25, 3) := by decide +kernel
theorem kd_F_barsPassed_7 : decode kc_F_barsPassed 7 = .ok (.iload_n 2, 1) := by decide +kernel
theorem kd_F_barsPassed_8 : decode kc_F_barsPassed 8 = .ok (.iaload, 1) := by decide +kernel
theorem kd_F_barsPassed_9 : decode kc_F_barsPassed 9 = .ok (.aload_n 0, 1) := by decide +kernel
theorem kd_F_barsPassed_10 : decode kc_F_barsPassed 10 = .ok (.getfield 21, 3) := by decide +kernel
theorem kd_F_barsPassed_13 : decode kc_F_barsPassed 13 = .ok (.getfield 29, 3) := by decide +kernel
theorem kd_F_barsPassed_16 : decode kc_F_barsPassed 16 = .ok (.iload_n 1, 1) := by decide +kernel
theorem kd_F_barsPassed_17 : decode kc_F_barsPassed 17 = .ok (.iaload, 1) := by decide +kernel
theorem kd_F_barsPassed_18 : decode kc_F_barsPassed 18 = .ok (.if_icmp .eq 5, 3) := by decide +kernel
theorem kd_F_barsPassed_21 : decode kc_F_barsPassed 21 = .ok (.iconst 0, 1) := by decide +kernel
theorem kd_F_barsPassed_22 : decode kc_F_barsPassed 22 = .ok (.ireturn, 1) := by decide +kernel
theorem kd_F_barsPassed_23 : decode kc_F_barsPassed 23 = .ok (.aload_n 0, 1) := by decide +kernel
theorem kd_F_barsPassed_24 : decode kc_F_barsPassed 24 = .ok (.getfield 12, 3) := by decide +kernel
theorem kd_F_barsPassed_27 : decode kc_F_barsPassed 27 = .ok (.getfield 30, 3) := by decide +kernel
theorem kd_F_barsPassed_30 : decode kc_F_barsPassed 30 = .ok (.iload_n 2, 1) := by decide +kernel
theorem kd_F_barsPassed_31 : decode kc_F_barsPassed 31 = .ok (.iaload, 1) := by decide +kernel
theorem kd_F_barsPassed_32 : decode kc_F_barsPassed 32 = .ok (.aload_n 0, 1) := by decide +kernel
theorem kd_F_barsPassed_33 : decode kc_F_barsPassed 33 = .ok (.getfield 21, 3) := by decide +kernel
theorem kd_F_barsPassed_36 : decode kc_F_barsPassed 36 = .ok (.getfield 33, 3) := by decide +kernel
theorem kd_F_barsPassed_39 : decode kc_F_barsPassed 39 = .ok (.iload_n 1, 1) := by decide +kernel
theorem kd_F_barsPassed_40 : decode kc_F_barsPassed 40 = .ok (.aaload, 1) := by decide +kernel
theorem kd_F_barsPassed_41 : decode kc_F_barsPassed 41 = .ok (.iconst 0, 1) := by decide +kernel
theorem kd_F_barsPassed_42 : decode kc_F_barsPassed 42 = .ok (.iaload, 1) := by decide +kernel
theorem kd_F_barsPassed_43 : decode kc_F_barsPassed 43 = .ok (.if_icmp .ge 5, 3) := by decide +kernel
theorem kd_F_barsPassed_46 : decode kc_F_barsPassed 46 = .ok (.iconst 1, 1) := by decide +kernel
theorem kd_F_barsPassed_47 : decode kc_F_barsPassed 47 = .ok (.ireturn, 1) := by decide +kernel
theorem kd_F_barsPassed_48 : decode kc_F_barsPassed 48 = .ok (.aload_n 0, 1) := by decide +kernel
theorem kd_F_barsPassed_49 : decode kc_F_barsPassed 49 = .ok (.getfield 21, 3) := by decide +kernel
theorem kd_F_barsPassed_52 : decode kc_F_barsPassed 52 = .ok (.iload_n 1, 1) := by decide +kernel
theorem kd_F_barsPassed_53 : decode kc_F_barsPassed 53 = .ok (.iload_n 2, 1) := by decide +kernel
theorem kd_F_barsPassed_54 : decode kc_F_barsPassed 54 = .ok (.invokevirtual 37, 3) := by decide +kernel
theorem kd_F_barsPassed_57 : decode kc_F_barsPassed 57 = .ok (.ifCond .eq 5, 3) := by decide +kernel
theorem kd_F_barsPassed_60 : decode kc_F_barsPassed 60 = .ok (.iconst 2, 1) := by decide +kernel
theorem kd_F_barsPassed_61 : decode kc_F_barsPassed 61 = .ok (.ireturn, 1) := by decide +kernel
theorem kd_F_barsPassed_62 : decode kc_F_barsPassed 62 = .ok (.aload_n 0, 1) := by decide +kernel
theorem kd_F_barsPassed_63 : decode kc_F_barsPassed 63 = .ok (.getfield 12, 3) := by decide +kernel
theorem kd_F_barsPassed_66 : decode kc_F_barsPassed 66 = .ok (.getfield 41, 3) := by decide +kernel
theorem kd_F_barsPassed_69 : decode kc_F_barsPassed 69 = .ok (.iload_n 2, 1) := by decide +kernel
theorem kd_F_barsPassed_70 : decode kc_F_barsPassed 70 = .ok (.iaload, 1) := by decide +kernel
theorem kd_F_barsPassed_71 : decode kc_F_barsPassed 71 = .ok (.aload_n 0, 1) := by decide +kernel
theorem kd_F_barsPassed_72 : decode kc_F_barsPassed 72 = .ok (.getfield 21, 3) := by decide +kernel
theorem kd_F_barsPassed_75 : decode kc_F_barsPassed 75 = .ok (.getfield 33, 3) := by decide +kernel
theorem kd_F_barsPassed_78 : decode kc_F_barsPassed 78 = .ok (.iload_n 1, 1) := by decide +kernel
theorem kd_F_barsPassed_79 : decode kc_F_barsPassed 79 = .ok (.aaload, 1) := by decide +kernel
theorem kd_F_barsPassed_80 : decode kc_F_barsPassed 80 = .ok (.iconst 1, 1) := by decide +kernel
theorem kd_F_barsPassed_81 : decode kc_F_barsPassed 81 = .ok (.iaload, 1) := by decide +kernel
theorem kd_F_barsPassed_82 : decode kc_F_barsPassed 82 = .ok (.if_icmp .ge 7, 3) := by decide +kernel
theorem kd_F_barsPassed_85 : decode kc_F_barsPassed 85 = .ok (.iconst 3, 1) := by decide +kernel
theorem kd_F_barsPassed_86 : decode kc_F_barsPassed 86 = .ok (.goto 4, 3) := by decide +kernel
theorem kd_F_barsPassed_89 : decode kc_F_barsPassed 89 = .ok (.iconst 4, 1) := by decide +kernel
theorem kd_F_barsPassed_90 : decode kc_F_barsPassed 90 = .ok (.ireturn, 1) := by decide +kernel
theorem kd_N_isBarred_0 : decode kc_N_isBarred 0 = .ok (.aload_n 0, 1) := by decide +kernel
theorem kd_N_isBarred_1 : decode kc_N_isBarred 1 = .ok (.getfield 18, 3) := by decide +kernel
theorem kd_N_isBarred_4 : decode kc_N_isBarred 4 = .ok (.iload_n 1, 1) := by decide +kernel
theorem kd_N_isBarred_5 : decode kc_N_isBarred 5 = .ok (.iaload, 1) := by decide +kernel
theorem kd_N_isBarred_6 : decode kc_N_isBarred 6 = .ok (.iload_n 2, 1) := by decide +kernel
theorem kd_N_isBarred_7 : decode kc_N_isBarred 7 = .ok (.ishr, 1) := by decide +kernel
theorem kd_N_isBarred_8 : decode kc_N_isBarred 8 = .ok (.iconst 1, 1) := by decide +kernel
theorem kd_N_isBarred_9 : decode kc_N_isBarred 9 = .ok (.iand, 1) := by decide +kernel
theorem kd_N_isBarred_10 : decode kc_N_isBarred 10 = .ok (.iconst 1, 1) := by decide +kernel
theorem kd_N_isBarred_11 : decode kc_N_isBarred 11 = .ok (.if_icmp .ne 7, 3) := by decide +kernel
theorem kd_N_isBarred_14 : decode kc_N_isBarred 14 = .ok (.iconst 1, 1) := by decide +kernel
theorem kd_N_isBarred_15 : decode kc_N_isBarred 15 = .ok (.goto 4, 3) := by decide +kernel
theorem kd_N_isBarred_18 : decode kc_N_isBarred 18 = .ok (.iconst 0, 1) := by decide +kernel
theorem kd_N_isBarred_19 : decode kc_N_isBarred 19 = .ok (.ireturn, 1) := by decide +kernel
theorem kd_F_lineBound_0 : decode kc_F_lineBound 0 = .ok (.aload_n 0, 1) := by decide +kernel
theorem kd_F_lineBound_1 : decode kc_F_lineBound 1 = .ok (.getfield 21, 3) := by decide +kernel
theorem kd_F_lineBound_4 : decode kc_F_lineBound 4 = .ok (.getfield 68, 3) := by decide +kernel
theorem kd_F_lineBound_7 : decode kc_F_lineBound 7 = .ok (.iload_n 1, 1) := by decide +kernel
theorem kd_F_lineBound_8 : decode kc_F_lineBound 8 = .ok (.iaload, 1) := by decide +kernel
theorem kd_F_lineBound_9 : decode kc_F_lineBound 9 = .ok (.istore_n 2, 1) := by decide +kernel
theorem kd_F_lineBound_10 : decode kc_F_lineBound 10 = .ok (.sipush 1000, 3) := by decide +kernel
theorem kd_F_lineBound_13 : decode kc_F_lineBound 13 = .ok (.iload_n 2, 1) := by decide +kernel
theorem kd_F_lineBound_14 : decode kc_F_lineBound 14 = .ok (.imul, 1) := by decide +kernel
theorem kd_F_lineBound_15 : decode kc_F_lineBound 15 = .ok (.istore_n 3, 1) := by decide +kernel
theorem kd_F_lineBound_16 : decode kc_F_lineBound 16 = .ok (.iconst 0, 1) := by decide +kernel
theorem kd_F_lineBound_17 : decode kc_F_lineBound 17 = .ok (.istore 4, 2) := by decide +kernel
theorem kd_F_lineBound_19 : decode kc_F_lineBound 19 = .ok (.iload 4, 2) := by decide +kernel
theorem kd_F_lineBound_21 : decode kc_F_lineBound 21 = .ok (.aload_n 0, 1) := by decide +kernel
theorem kd_F_lineBound_22 : decode kc_F_lineBound 22 = .ok (.getfield 12, 3) := by decide +kernel
theorem kd_F_lineBound_25 : decode kc_F_lineBound 25 = .ok (.getfield 48, 3) := by decide +kernel
theorem kd_F_lineBound_28 : decode kc_F_lineBound 28 = .ok (.if_icmp .ge 36, 3) := by decide +kernel
theorem kd_F_lineBound_31 : decode kc_F_lineBound 31 = .ok (.aload_n 0, 1) := by decide +kernel
theorem kd_F_lineBound_32 : decode kc_F_lineBound 32 = .ok (.iload_n 1, 1) := by decide +kernel
theorem kd_F_lineBound_33 : decode kc_F_lineBound 33 = .ok (.iload 4, 2) := by decide +kernel
theorem kd_F_lineBound_35 : decode kc_F_lineBound 35 = .ok (.invokevirtual 64, 3) := by decide +kernel
theorem kd_F_lineBound_38 : decode kc_F_lineBound 38 = .ok (.ifCond .eq 20, 3) := by decide +kernel
theorem kd_F_lineBound_41 : decode kc_F_lineBound 41 = .ok (.iload_n 3, 1) := by decide +kernel
theorem kd_F_lineBound_42 : decode kc_F_lineBound 42 = .ok (.aload_n 0, 1) := by decide +kernel
theorem kd_F_lineBound_43 : decode kc_F_lineBound 43 = .ok (.iload_n 1, 1) := by decide +kernel
theorem kd_F_lineBound_44 : decode kc_F_lineBound 44 = .ok (.iload 4, 2) := by decide +kernel
theorem kd_F_lineBound_46 : decode kc_F_lineBound 46 = .ok (.invokevirtual 71, 3) := by decide +kernel
theorem kd_F_lineBound_49 : decode kc_F_lineBound 49 = .ok (.iload_n 2, 1) := by decide +kernel
theorem kd_F_lineBound_50 : decode kc_F_lineBound 50 = .ok (.imul, 1) := by decide +kernel
theorem kd_F_lineBound_51 : decode kc_F_lineBound 51 = .ok (.bipush 20, 2) := by decide +kernel
theorem kd_F_lineBound_53 : decode kc_F_lineBound 53 = .ok (.iadd, 1) := by decide +kernel
theorem kd_F_lineBound_54 : decode kc_F_lineBound 54 = .ok (.invokestatic 74, 3) := by decide +kernel
theorem kd_F_lineBound_57 : decode kc_F_lineBound 57 = .ok (.istore_n 3, 1) := by decide +kernel
theorem kd_F_lineBound_58 : decode kc_F_lineBound 58 = .ok (.iinc 4 1, 3) := by decide +kernel
theorem kd_F_lineBound_61 : decode kc_F_lineBound 61 = .ok (.goto (-42), 3) := by decide +kernel
theorem kd_F_lineBound_64 : decode kc_F_lineBound 64 = .ok (.iload_n 3, 1) := by decide +kernel
theorem kd_F_lineBound_65 : decode kc_F_lineBound 65 = .ok (.ireturn, 1) := by decide +kernel
theorem kd_F_pieceCost_0 : decode kc_F_pieceCost 0 = .ok (.aload_n 0, 1) := by decide +kernel
theorem kd_F_pieceCost_1 : decode kc_F_pieceCost 1 = .ok (.getfield 21, 3) := by decide +kernel
theorem kd_F_pieceCost_4 : decode kc_F_pieceCost 4 = .ok (.getfield 57, 3) := by decide +kernel
theorem kd_F_pieceCost_7 : decode kc_F_pieceCost 7 = .ok (.iload_n 1, 1) := by decide +kernel
theorem kd_F_pieceCost_8 : decode kc_F_pieceCost 8 = .ok (.aaload, 1) := by decide +kernel
theorem kd_F_pieceCost_9 : decode kc_F_pieceCost 9 = .ok (.iload_n 2, 1) := by decide +kernel
theorem kd_F_pieceCost_10 : decode kc_F_pieceCost 10 = .ok (.iaload, 1) := by decide +kernel
theorem kd_F_pieceCost_11 : decode kc_F_pieceCost 11 = .ok (.istore_n 3, 1) := by decide +kernel
theorem kd_F_pieceCost_12 : decode kc_F_pieceCost 12 = .ok (.iload_n 3, 1) := by decide +kernel
theorem kd_F_pieceCost_13 : decode kc_F_pieceCost 13 = .ok (.iconst (-1), 1) := by decide +kernel
theorem kd_F_pieceCost_14 : decode kc_F_pieceCost 14 = .ok (.if_icmp .ne 15, 3) := by decide +kernel
theorem kd_F_pieceCost_17 : decode kc_F_pieceCost 17 = .ok (.aload_n 0, 1) := by decide +kernel
theorem kd_F_pieceCost_18 : decode kc_F_pieceCost 18 = .ok (.getfield 12, 3) := by decide +kernel
theorem kd_F_pieceCost_21 : decode kc_F_pieceCost 21 = .ok (.getfield 60, 3) := by decide +kernel
theorem kd_F_pieceCost_24 : decode kc_F_pieceCost 24 = .ok (.iload_n 2, 1) := by decide +kernel
theorem kd_F_pieceCost_25 : decode kc_F_pieceCost 25 = .ok (.iaload, 1) := by decide +kernel
theorem kd_F_pieceCost_26 : decode kc_F_pieceCost 26 = .ok (.goto 4, 3) := by decide +kernel
theorem kd_F_pieceCost_29 : decode kc_F_pieceCost 29 = .ok (.iload_n 3, 1) := by decide +kernel
theorem kd_F_pieceCost_30 : decode kc_F_pieceCost 30 = .ok (.ireturn, 1) := by decide +kernel
theorem kd_F_totalPieces_0 : decode kc_F_totalPieces 0 = .ok (.iconst 0, 1) := by decide +kernel
theorem kd_F_totalPieces_1 : decode kc_F_totalPieces 1 = .ok (.istore_n 1, 1) := by decide +kernel
theorem kd_F_totalPieces_2 : decode kc_F_totalPieces 2 = .ok (.iconst 0, 1) := by decide +kernel
theorem kd_F_totalPieces_3 : decode kc_F_totalPieces 3 = .ok (.istore_n 2, 1) := by decide +kernel
theorem kd_F_totalPieces_4 : decode kc_F_totalPieces 4 = .ok (.iload_n 2, 1) := by decide +kernel
theorem kd_F_totalPieces_5 : decode kc_F_totalPieces 5 = .ok (.aload_n 0, 1) := by decide +kernel
theorem kd_F_totalPieces_6 : decode kc_F_totalPieces 6 = .ok (.getfield 21, 3) := by decide +kernel
theorem kd_F_totalPieces_9 : decode kc_F_totalPieces 9 = .ok (.getfield 63, 3) := by decide +kernel
theorem kd_F_totalPieces_12 : decode kc_F_totalPieces 12 = .ok (.if_icmp .ge 17, 3) := by decide +kernel
theorem kd_F_totalPieces_15 : decode kc_F_totalPieces 15 = .ok (.iload_n 1, 1) := by decide +kernel
theorem kd_F_totalPieces_16 : decode kc_F_totalPieces 16 = .ok (.aload_n 0, 1) := by decide +kernel
theorem kd_F_totalPieces_17 : decode kc_F_totalPieces 17 = .ok (.iload_n 2, 1) := by decide +kernel
theorem kd_F_totalPieces_18 : decode kc_F_totalPieces 18 = .ok (.invokevirtual 83, 3) := by decide +kernel
theorem kd_F_totalPieces_21 : decode kc_F_totalPieces 21 = .ok (.iadd, 1) := by decide +kernel
theorem kd_F_totalPieces_22 : decode kc_F_totalPieces 22 = .ok (.istore_n 1, 1) := by decide +kernel
theorem kd_F_totalPieces_23 : decode kc_F_totalPieces 23 = .ok (.iinc 2 1, 3) := by decide +kernel
theorem kd_F_totalPieces_26 : decode kc_F_totalPieces 26 = .ok (.goto (-22), 3) := by decide +kernel
theorem kd_F_totalPieces_29 : decode kc_F_totalPieces 29 = .ok (.iload_n 1, 1) := by decide +kernel
theorem kd_F_totalPieces_30 : decode kc_F_totalPieces 30 = .ok (.ireturn, 1) := by decide +kernel
theorem kd_F_piecesOf_0 : decode kc_F_piecesOf 0 = .ok (.iconst 0, 1) := by decide +kernel
theorem kd_F_piecesOf_1 : decode kc_F_piecesOf 1 = .ok (.istore_n 2, 1) := by decide +kernel
theorem kd_F_piecesOf_2 : decode kc_F_piecesOf 2 = .ok (.iconst 0, 1) := by decide +kernel
theorem kd_F_piecesOf_3 : decode kc_F_piecesOf 3 = .ok (.istore_n 3, 1) := by decide +kernel
theorem kd_F_piecesOf_4 : decode kc_F_piecesOf 4 = .ok (.iload_n 3, 1) := by decide +kernel
theorem kd_F_piecesOf_5 : decode kc_F_piecesOf 5 = .ok (.aload_n 0, 1) := by decide +kernel
theorem kd_F_piecesOf_6 : decode kc_F_piecesOf 6 = .ok (.getfield 12, 3) := by decide +kernel
theorem kd_F_piecesOf_9 : decode kc_F_piecesOf 9 = .ok (.getfield 48, 3) := by decide +kernel
theorem kd_F_piecesOf_12 : decode kc_F_piecesOf 12 = .ok (.if_icmp .ge 23, 3) := by decide +kernel
theorem kd_F_piecesOf_15 : decode kc_F_piecesOf 15 = .ok (.iload_n 2, 1) := by decide +kernel
theorem kd_F_piecesOf_16 : decode kc_F_piecesOf 16 = .ok (.aload_n 0, 1) := by decide +kernel
theorem kd_F_piecesOf_17 : decode kc_F_piecesOf 17 = .ok (.getfield 21, 3) := by decide +kernel
theorem kd_F_piecesOf_20 : decode kc_F_piecesOf 20 = .ok (.getfield 80, 3) := by decide +kernel
theorem kd_F_piecesOf_23 : decode kc_F_piecesOf 23 = .ok (.iload_n 1, 1) := by decide +kernel
theorem kd_F_piecesOf_24 : decode kc_F_piecesOf 24 = .ok (.aaload, 1) := by decide +kernel
theorem kd_F_piecesOf_25 : decode kc_F_piecesOf 25 = .ok (.iload_n 3, 1) := by decide +kernel
theorem kd_F_piecesOf_26 : decode kc_F_piecesOf 26 = .ok (.iaload, 1) := by decide +kernel
theorem kd_F_piecesOf_27 : decode kc_F_piecesOf 27 = .ok (.iadd, 1) := by decide +kernel
theorem kd_F_piecesOf_28 : decode kc_F_piecesOf 28 = .ok (.istore_n 2, 1) := by decide +kernel
theorem kd_F_piecesOf_29 : decode kc_F_piecesOf 29 = .ok (.iinc 3 1, 3) := by decide +kernel
theorem kd_F_piecesOf_32 : decode kc_F_piecesOf 32 = .ok (.goto (-28), 3) := by decide +kernel
theorem kd_F_piecesOf_35 : decode kc_F_piecesOf 35 = .ok (.iload_n 2, 1) := by decide +kernel
theorem kd_F_piecesOf_36 : decode kc_F_piecesOf 36 = .ok (.ireturn, 1) := by decide +kernel
theorem kd_F_totalGifts_0 : decode kc_F_totalGifts 0 = .ok (.iconst 0, 1) := by decide +kernel
theorem kd_F_totalGifts_1 : decode kc_F_totalGifts 1 = .ok (.istore_n 1, 1) := by decide +kernel
theorem kd_F_totalGifts_2 : decode kc_F_totalGifts 2 = .ok (.iconst 0, 1) := by decide +kernel
theorem kd_F_totalGifts_3 : decode kc_F_totalGifts 3 = .ok (.istore_n 2, 1) := by decide +kernel
theorem kd_F_totalGifts_4 : decode kc_F_totalGifts 4 = .ok (.iload_n 2, 1) := by decide +kernel
theorem kd_F_totalGifts_5 : decode kc_F_totalGifts 5 = .ok (.aload_n 0, 1) := by decide +kernel
theorem kd_F_totalGifts_6 : decode kc_F_totalGifts 6 = .ok (.getfield 21, 3) := by decide +kernel
theorem kd_F_totalGifts_9 : decode kc_F_totalGifts 9 = .ok (.getfield 63, 3) := by decide +kernel
theorem kd_F_totalGifts_12 : decode kc_F_totalGifts 12 = .ok (.if_icmp .ge 17, 3) := by decide +kernel
theorem kd_F_totalGifts_15 : decode kc_F_totalGifts 15 = .ok (.iload_n 1, 1) := by decide +kernel
theorem kd_F_totalGifts_16 : decode kc_F_totalGifts 16 = .ok (.aload_n 0, 1) := by decide +kernel
theorem kd_F_totalGifts_17 : decode kc_F_totalGifts 17 = .ok (.iload_n 2, 1) := by decide +kernel
theorem kd_F_totalGifts_18 : decode kc_F_totalGifts 18 = .ok (.invokevirtual 87, 3) := by decide +kernel
theorem kd_F_totalGifts_21 : decode kc_F_totalGifts 21 = .ok (.iadd, 1) := by decide +kernel
theorem kd_F_totalGifts_22 : decode kc_F_totalGifts 22 = .ok (.istore_n 1, 1) := by decide +kernel
theorem kd_F_totalGifts_23 : decode kc_F_totalGifts 23 = .ok (.iinc 2 1, 3) := by decide +kernel
theorem kd_F_totalGifts_26 : decode kc_F_totalGifts 26 = .ok (.goto (-22), 3) := by decide +kernel
theorem kd_F_totalGifts_29 : decode kc_F_totalGifts 29 = .ok (.iload_n 1, 1) := by decide +kernel
theorem kd_F_totalGifts_30 : decode kc_F_totalGifts 30 = .ok (.ireturn, 1) := by decide +kernel
theorem kd_F_giftsOf_0 : decode kc_F_giftsOf 0 = .ok (.iconst 0, 1) := by decide +kernel
theorem kd_F_giftsOf_1 : decode kc_F_giftsOf 1 = .ok (.istore_n 2, 1) := by decide +kernel
theorem kd_F_giftsOf_2 : decode kc_F_giftsOf 2 = .ok (.iconst 0, 1) := by decide +kernel
theorem kd_F_giftsOf_3 : decode kc_F_giftsOf 3 = .ok (.istore_n 3, 1) := by decide +kernel
theorem kd_F_giftsOf_4 : decode kc_F_giftsOf 4 = .ok (.iload_n 3, 1) := by decide +kernel
theorem kd_F_giftsOf_5 : decode kc_F_giftsOf 5 = .ok (.aload_n 0, 1) := by decide +kernel
theorem kd_F_giftsOf_6 : decode kc_F_giftsOf 6 = .ok (.getfield 12, 3) := by decide +kernel
theorem kd_F_giftsOf_9 : decode kc_F_giftsOf 9 = .ok (.getfield 48, 3) := by decide +kernel
theorem kd_F_giftsOf_12 : decode kc_F_giftsOf 12 = .ok (.if_icmp .ge 26, 3) := by decide +kernel
theorem kd_F_giftsOf_15 : decode kc_F_giftsOf 15 = .ok (.aload_n 0, 1) := by decide +kernel
theorem kd_F_giftsOf_16 : decode kc_F_giftsOf 16 = .ok (.getfield 21, 3) := by decide +kernel
theorem kd_F_giftsOf_19 : decode kc_F_giftsOf 19 = .ok (.getfield 80, 3) := by decide +kernel
theorem kd_F_giftsOf_22 : decode kc_F_giftsOf 22 = .ok (.iload_n 1, 1) := by decide +kernel
theorem kd_F_giftsOf_23 : decode kc_F_giftsOf 23 = .ok (.aaload, 1) := by decide +kernel
theorem kd_F_giftsOf_24 : decode kc_F_giftsOf 24 = .ok (.iload_n 3, 1) := by decide +kernel
theorem kd_F_giftsOf_25 : decode kc_F_giftsOf 25 = .ok (.iaload, 1) := by decide +kernel
theorem kd_F_giftsOf_26 : decode kc_F_giftsOf 26 = .ok (.ifCond .le 6, 3) := by decide +kernel
theorem kd_F_giftsOf_29 : decode kc_F_giftsOf 29 = .ok (.iinc 2 1, 3) := by decide +kernel
theorem kd_F_giftsOf_32 : decode kc_F_giftsOf 32 = .ok (.iinc 3 1, 3) := by decide +kernel
theorem kd_F_giftsOf_35 : decode kc_F_giftsOf 35 = .ok (.goto (-31), 3) := by decide +kernel
theorem kd_F_giftsOf_38 : decode kc_F_giftsOf 38 = .ok (.iload_n 2, 1) := by decide +kernel
theorem kd_F_giftsOf_39 : decode kc_F_giftsOf 39 = .ok (.ireturn, 1) := by decide +kernel
theorem kd_F_totalCost_0 : decode kc_F_totalCost 0 = .ok (.iconst 0, 1) := by decide +kernel
theorem kd_F_totalCost_1 : decode kc_F_totalCost 1 = .ok (.istore_n 1, 1) := by decide +kernel
theorem kd_F_totalCost_2 : decode kc_F_totalCost 2 = .ok (.iconst 0, 1) := by decide +kernel
theorem kd_F_totalCost_3 : decode kc_F_totalCost 3 = .ok (.istore_n 2, 1) := by decide +kernel
theorem kd_F_totalCost_4 : decode kc_F_totalCost 4 = .ok (.iload_n 2, 1) := by decide +kernel
theorem kd_F_totalCost_5 : decode kc_F_totalCost 5 = .ok (.aload_n 0, 1) := by decide +kernel
theorem kd_F_totalCost_6 : decode kc_F_totalCost 6 = .ok (.getfield 21, 3) := by decide +kernel
theorem kd_F_totalCost_9 : decode kc_F_totalCost 9 = .ok (.getfield 63, 3) := by decide +kernel
theorem kd_F_totalCost_12 : decode kc_F_totalCost 12 = .ok (.if_icmp .ge 17, 3) := by decide +kernel
theorem kd_F_totalCost_15 : decode kc_F_totalCost 15 = .ok (.iload_n 1, 1) := by decide +kernel
theorem kd_F_totalCost_16 : decode kc_F_totalCost 16 = .ok (.aload_n 0, 1) := by decide +kernel
theorem kd_F_totalCost_17 : decode kc_F_totalCost 17 = .ok (.iload_n 2, 1) := by decide +kernel
theorem kd_F_totalCost_18 : decode kc_F_totalCost 18 = .ok (.invokevirtual 90, 3) := by decide +kernel
theorem kd_F_totalCost_21 : decode kc_F_totalCost 21 = .ok (.iadd, 1) := by decide +kernel
theorem kd_F_totalCost_22 : decode kc_F_totalCost 22 = .ok (.istore_n 1, 1) := by decide +kernel
theorem kd_F_totalCost_23 : decode kc_F_totalCost 23 = .ok (.iinc 2 1, 3) := by decide +kernel
theorem kd_F_totalCost_26 : decode kc_F_totalCost 26 = .ok (.goto (-22), 3) := by decide +kernel
theorem kd_F_totalCost_29 : decode kc_F_totalCost 29 = .ok (.iload_n 1, 1) := by decide +kernel
theorem kd_F_totalCost_30 : decode kc_F_totalCost 30 = .ok (.ireturn, 1) := by decide +kernel
theorem kd_F_lineCost_0 : decode kc_F_lineCost 0 = .ok (.sipush 1000, 3) := by decide +kernel
theorem kd_F_lineCost_3 : decode kc_F_lineCost 3 = .ok (.aload_n 0, 1) := by decide +kernel
theorem kd_F_lineCost_4 : decode kc_F_lineCost 4 = .ok (.getfield 21, 3) := by decide +kernel
theorem kd_F_lineCost_7 : decode kc_F_lineCost 7 = .ok (.getfield 68, 3) := by decide +kernel
theorem kd_F_lineCost_10 : decode kc_F_lineCost 10 = .ok (.iload_n 1, 1) := by decide +kernel
theorem kd_F_lineCost_11 : decode kc_F_lineCost 11 = .ok (.iaload, 1) := by decide +kernel
theorem kd_F_lineCost_12 : decode kc_F_lineCost 12 = .ok (.imul, 1) := by decide +kernel
theorem kd_F_lineCost_13 : decode kc_F_lineCost 13 = .ok (.istore_n 2, 1) := by decide +kernel
theorem kd_F_lineCost_14 : decode kc_F_lineCost 14 = .ok (.iconst 0, 1) := by decide +kernel
theorem kd_F_lineCost_15 : decode kc_F_lineCost 15 = .ok (.istore_n 3, 1) := by decide +kernel
theorem kd_F_lineCost_16 : decode kc_F_lineCost 16 = .ok (.iload_n 3, 1) := by decide +kernel
theorem kd_F_lineCost_17 : decode kc_F_lineCost 17 = .ok (.aload_n 0, 1) := by decide +kernel
theorem kd_F_lineCost_18 : decode kc_F_lineCost 18 = .ok (.getfield 12, 3) := by decide +kernel
theorem kd_F_lineCost_21 : decode kc_F_lineCost 21 = .ok (.getfield 48, 3) := by decide +kernel
theorem kd_F_lineCost_24 : decode kc_F_lineCost 24 = .ok (.if_icmp .ge 46, 3) := by decide +kernel
theorem kd_F_lineCost_27 : decode kc_F_lineCost 27 = .ok (.aload_n 0, 1) := by decide +kernel
theorem kd_F_lineCost_28 : decode kc_F_lineCost 28 = .ok (.getfield 21, 3) := by decide +kernel
theorem kd_F_lineCost_31 : decode kc_F_lineCost 31 = .ok (.getfield 80, 3) := by decide +kernel
theorem kd_F_lineCost_34 : decode kc_F_lineCost 34 = .ok (.iload_n 1, 1) := by decide +kernel
theorem kd_F_lineCost_35 : decode kc_F_lineCost 35 = .ok (.aaload, 1) := by decide +kernel
theorem kd_F_lineCost_36 : decode kc_F_lineCost 36 = .ok (.iload_n 3, 1) := by decide +kernel
theorem kd_F_lineCost_37 : decode kc_F_lineCost 37 = .ok (.iaload, 1) := by decide +kernel
theorem kd_F_lineCost_38 : decode kc_F_lineCost 38 = .ok (.istore 4, 2) := by decide +kernel
theorem kd_F_lineCost_40 : decode kc_F_lineCost 40 = .ok (.iload 4, 2) := by decide +kernel
theorem kd_F_lineCost_42 : decode kc_F_lineCost 42 = .ok (.ifCond .le 22, 3) := by decide +kernel
theorem kd_F_lineCost_45 : decode kc_F_lineCost 45 = .ok (.iload_n 2, 1) := by decide +kernel
theorem kd_F_lineCost_46 : decode kc_F_lineCost 46 = .ok (.bipush 20, 2) := by decide +kernel
theorem kd_F_lineCost_48 : decode kc_F_lineCost 48 = .ok (.iload 4, 2) := by decide +kernel
theorem kd_F_lineCost_50 : decode kc_F_lineCost 50 = .ok (.aload_n 0, 1) := by decide +kernel
theorem kd_F_lineCost_51 : decode kc_F_lineCost 51 = .ok (.iload_n 1, 1) := by decide +kernel
theorem kd_F_lineCost_52 : decode kc_F_lineCost 52 = .ok (.iload_n 3, 1) := by decide +kernel
theorem kd_F_lineCost_53 : decode kc_F_lineCost 53 = .ok (.invokevirtual 71, 3) := by decide +kernel
theorem kd_F_lineCost_56 : decode kc_F_lineCost 56 = .ok (.sipush 1000, 3) := by decide +kernel
theorem kd_F_lineCost_59 : decode kc_F_lineCost 59 = .ok (.isub, 1) := by decide +kernel
theorem kd_F_lineCost_60 : decode kc_F_lineCost 60 = .ok (.imul, 1) := by decide +kernel
theorem kd_F_lineCost_61 : decode kc_F_lineCost 61 = .ok (.iadd, 1) := by decide +kernel
theorem kd_F_lineCost_62 : decode kc_F_lineCost 62 = .ok (.iadd, 1) := by decide +kernel
theorem kd_F_lineCost_63 : decode kc_F_lineCost 63 = .ok (.istore_n 2, 1) := by decide +kernel
theorem kd_F_lineCost_64 : decode kc_F_lineCost 64 = .ok (.iinc 3 1, 3) := by decide +kernel
theorem kd_F_lineCost_67 : decode kc_F_lineCost 67 = .ok (.goto (-51), 3) := by decide +kernel
theorem kd_F_lineCost_70 : decode kc_F_lineCost 70 = .ok (.iload_n 2, 1) := by decide +kernel
theorem kd_F_lineCost_71 : decode kc_F_lineCost 71 = .ok (.ireturn, 1) := by decide +kernel
theorem kd_T_add_0 : decode kc_T_add 0 = .ok (.aload_n 0, 1) := by decide +kernel
theorem kd_T_add_1 : decode kc_T_add 1 = .ok (.getfield 30, 3) := by decide +kernel
theorem kd_T_add_4 : decode kc_T_add 4 = .ok (.istore 5, 2) := by decide +kernel
theorem kd_T_add_6 : decode kc_T_add 6 = .ok (.aload_n 0, 1) := by decide +kernel
theorem kd_T_add_7 : decode kc_T_add 7 = .ok (.getfield 9, 3) := by decide +kernel
theorem kd_T_add_10 : decode kc_T_add 10 = .ok (.iload 5, 2) := by decide +kernel
theorem kd_T_add_12 : decode kc_T_add 12 = .ok (.iload_n 1, 1) := by decide +kernel
theorem kd_T_add_13 : decode kc_T_add 13 = .ok (.iastore, 1) := by decide +kernel
theorem kd_T_add_14 : decode kc_T_add 14 = .ok (.aload_n 0, 1) := by decide +kernel
theorem kd_T_add_15 : decode kc_T_add 15 = .ok (.getfield 15, 3) := by decide +kernel
theorem kd_T_add_18 : decode kc_T_add 18 = .ok (.iload 5, 2) := by decide +kernel
theorem kd_T_add_20 : decode kc_T_add 20 = .ok (.iload_n 2, 1) := by decide +kernel
theorem kd_T_add_21 : decode kc_T_add 21 = .ok (.iastore, 1) := by decide +kernel
theorem kd_T_add_22 : decode kc_T_add 22 = .ok (.aload_n 0, 1) := by decide +kernel
theorem kd_T_add_23 : decode kc_T_add 23 = .ok (.getfield 18, 3) := by decide +kernel
theorem kd_T_add_26 : decode kc_T_add 26 = .ok (.iload 5, 2) := by decide +kernel
theorem kd_T_add_28 : decode kc_T_add 28 = .ok (.iload 4, 2) := by decide +kernel
theorem kd_T_add_30 : decode kc_T_add 30 = .ok (.iastore, 1) := by decide +kernel
theorem kd_T_add_31 : decode kc_T_add 31 = .ok (.aload_n 0, 1) := by decide +kernel
theorem kd_T_add_32 : decode kc_T_add 32 = .ok (.getfield 21, 3) := by decide +kernel
theorem kd_T_add_35 : decode kc_T_add 35 = .ok (.iload 5, 2) := by decide +kernel
theorem kd_T_add_37 : decode kc_T_add 37 = .ok (.iload_n 3, 1) := by decide +kernel
theorem kd_T_add_38 : decode kc_T_add 38 = .ok (.iastore, 1) := by decide +kernel
theorem kd_T_add_39 : decode kc_T_add 39 = .ok (.aload_n 0, 1) := by decide +kernel
theorem kd_T_add_40 : decode kc_T_add 40 = .ok (.getfield 24, 3) := by decide +kernel
theorem kd_T_add_43 : decode kc_T_add 43 = .ok (.iload 5, 2) := by decide +kernel
theorem kd_T_add_45 : decode kc_T_add 45 = .ok (.iload_n 3, 1) := by decide +kernel
theorem kd_T_add_46 : decode kc_T_add 46 = .ok (.iastore, 1) := by decide +kernel
theorem kd_T_add_47 : decode kc_T_add 47 = .ok (.aload_n 0, 1) := by decide +kernel
theorem kd_T_add_48 : decode kc_T_add 48 = .ok (.iload 5, 2) := by decide +kernel
theorem kd_T_add_50 : decode kc_T_add 50 = .ok (.invokevirtual 34, 3) := by decide +kernel
theorem kd_T_add_53 : decode kc_T_add 53 = .ok (.aload_n 0, 1) := by decide +kernel
theorem kd_T_add_54 : decode kc_T_add 54 = .ok (.dup, 1) := by decide +kernel
theorem kd_T_add_55 : decode kc_T_add 55 = .ok (.getfield 30, 3) := by decide +kernel
theorem kd_T_add_58 : decode kc_T_add 58 = .ok (.iconst 1, 1) := by decide +kernel
theorem kd_T_add_59 : decode kc_T_add 59 = .ok (.iadd, 1) := by decide +kernel
theorem kd_T_add_60 : decode kc_T_add 60 = .ok (.putfield 30, 3) := by decide +kernel
theorem kd_T_add_63 : decode kc_T_add 63 = .ok (.iload 5, 2) := by decide +kernel
theorem kd_T_add_65 : decode kc_T_add 65 = .ok (.ireturn, 1) := by decide +kernel
theorem kd_T_putInOrder_0 : decode kc_T_putInOrder 0 = .ok (.iload_n 1, 1) := by decide +kernel
theorem kd_T_putInOrder_1 : decode kc_T_putInOrder 1 = .ok (.istore_n 2, 1) := by decide +kernel
theorem kd_T_putInOrder_2 : decode kc_T_putInOrder 2 = .ok (.iload_n 2, 1) := by decide +kernel
theorem kd_T_putInOrder_3 : decode kc_T_putInOrder 3 = .ok (.ifCond .le 39, 3) := by decide +kernel
theorem kd_T_putInOrder_6 : decode kc_T_putInOrder 6 = .ok (.aload_n 0, 1) := by decide +kernel
theorem kd_T_putInOrder_7 : decode kc_T_putInOrder 7 = .ok (.iload_n 1, 1) := by decide +kernel
theorem kd_T_putInOrder_8 : decode kc_T_putInOrder 8 = .ok (.aload_n 0, 1) := by decide +kernel
theorem kd_T_putInOrder_9 : decode kc_T_putInOrder 9 = .ok (.getfield 27, 3) := by decide +kernel
theorem kd_T_putInOrder_12 : decode kc_T_putInOrder 12 = .ok (.iload_n 2, 1) := by decide +kernel
theorem kd_T_putInOrder_13 : decode kc_T_putInOrder 13 = .ok (.iconst 1, 1) := by decide +kernel
theorem kd_T_putInOrder_14 : decode kc_T_putInOrder 14 = .ok (.isub, 1) := by decide +kernel
theorem kd_T_putInOrder_15 : decode kc_T_putInOrder 15 = .ok (.iaload, 1) := by decide +kernel
theorem kd_T_putInOrder_16 : decode kc_T_putInOrder 16 = .ok (.invokevirtual 38, 3) := by decide +kernel
theorem kd_T_putInOrder_19 : decode kc_T_putInOrder 19 = .ok (.ifCond .eq 23, 3) := by decide +kernel
theorem kd_T_putInOrder_22 : decode kc_T_putInOrder 22 = .ok (.aload_n 0, 1) := by decide +kernel
theorem kd_T_putInOrder_23 : decode kc_T_putInOrder 23 = .ok (.getfield 27, 3) := by decide +kernel
theorem kd_T_putInOrder_26 : decode kc_T_putInOrder 26 = .ok (.iload_n 2, 1) := by decide +kernel
theorem kd_T_putInOrder_27 : decode kc_T_putInOrder 27 = .ok (.aload_n 0, 1) := by decide +kernel
theorem kd_T_putInOrder_28 : decode kc_T_putInOrder 28 = .ok (.getfield 27, 3) := by decide +kernel
theorem kd_T_putInOrder_31 : decode kc_T_putInOrder 31 = .ok (.iload_n 2, 1) := by decide +kernel
theorem kd_T_putInOrder_32 : decode kc_T_putInOrder 32 = .ok (.iconst 1, 1) := by decide +kernel
theorem kd_T_putInOrder_33 : decode kc_T_putInOrder 33 = .ok (.isub, 1) := by decide +kernel
theorem kd_T_putInOrder_34 : decode kc_T_putInOrder 34 = .ok (.iaload, 1) := by decide +kernel
theorem kd_T_putInOrder_35 : decode kc_T_putInOrder 35 = .ok (.iastore, 1) := by decide +kernel
theorem kd_T_putInOrder_36 : decode kc_T_putInOrder 36 = .ok (.iinc 2 (-1), 3) := by decide +kernel
theorem kd_T_putInOrder_39 : decode kc_T_putInOrder 39 = .ok (.goto (-37), 3) := by decide +kernel
theorem kd_T_putInOrder_42 : decode kc_T_putInOrder 42 = .ok (.aload_n 0, 1) := by decide +kernel
theorem kd_T_putInOrder_43 : decode kc_T_putInOrder 43 = .ok (.getfield 27, 3) := by decide +kernel
theorem kd_T_putInOrder_46 : decode kc_T_putInOrder 46 = .ok (.iload_n 2, 1) := by decide +kernel
theorem kd_T_putInOrder_47 : decode kc_T_putInOrder 47 = .ok (.iload_n 1, 1) := by decide +kernel
theorem kd_T_putInOrder_48 : decode kc_T_putInOrder 48 = .ok (.iastore, 1) := by decide +kernel
theorem kd_T_putInOrder_49 : decode kc_T_putInOrder 49 = .ok (.return_, 1) := by decide +kernel
theorem kd_T_comesBefore_0 : decode kc_T_comesBefore 0 = .ok (.aload_n 0, 1) := by decide +kernel
theorem kd_T_comesBefore_1 : decode kc_T_comesBefore 1 = .ok (.getfield 18, 3) := by decide +kernel
theorem kd_T_comesBefore_4 : decode kc_T_comesBefore 4 = .ok (.iload_n 1, 1) := by decide +kernel
theorem kd_T_comesBefore_5 : decode kc_T_comesBefore 5 = .ok (.iaload, 1) := by decide +kernel
theorem kd_T_comesBefore_6 : decode kc_T_comesBefore 6 = .ok (.aload_n 0, 1) := by decide +kernel
theorem kd_T_comesBefore_7 : decode kc_T_comesBefore 7 = .ok (.getfield 18, 3) := by decide +kernel
theorem kd_T_comesBefore_10 : decode kc_T_comesBefore 10 = .ok (.iload_n 2, 1) := by decide +kernel
theorem kd_T_comesBefore_11 : decode kc_T_comesBefore 11 = .ok (.iaload, 1) := by decide +kernel
theorem kd_T_comesBefore_12 : decode kc_T_comesBefore 12 = .ok (.if_icmp .eq 24, 3) := by decide +kernel
theorem kd_T_comesBefore_15 : decode kc_T_comesBefore 15 = .ok (.aload_n 0, 1) := by decide +kernel
theorem kd_T_comesBefore_16 : decode kc_T_comesBefore 16 = .ok (.getfield 18, 3) := by decide +kernel
theorem kd_T_comesBefore_19 : decode kc_T_comesBefore 19 = .ok (.iload_n 1, 1) := by decide +kernel
theorem kd_T_comesBefore_20 : decode kc_T_comesBefore 20 = .ok (.iaload, 1) := by decide +kernel
theorem kd_T_comesBefore_21 : decode kc_T_comesBefore 21 = .ok (.aload_n 0, 1) := by decide +kernel
theorem kd_T_comesBefore_22 : decode kc_T_comesBefore 22 = .ok (.getfield 18, 3) := by decide +kernel
theorem kd_T_comesBefore_25 : decode kc_T_comesBefore 25 = .ok (.iload_n 2, 1) := by decide +kernel
theorem kd_T_comesBefore_26 : decode kc_T_comesBefore 26 = .ok (.iaload, 1) := by decide +kernel
theorem kd_T_comesBefore_27 : decode kc_T_comesBefore 27 = .ok (.if_icmp .ge 7, 3) := by decide +kernel
theorem kd_T_comesBefore_30 : decode kc_T_comesBefore 30 = .ok (.iconst 1, 1) := by decide +kernel
theorem kd_T_comesBefore_31 : decode kc_T_comesBefore 31 = .ok (.goto 4, 3) := by decide +kernel
theorem kd_T_comesBefore_34 : decode kc_T_comesBefore 34 = .ok (.iconst 0, 1) := by decide +kernel
theorem kd_T_comesBefore_35 : decode kc_T_comesBefore 35 = .ok (.ireturn, 1) := by decide +kernel
theorem kd_T_comesBefore_36 : decode kc_T_comesBefore 36 = .ok (.aload_n 0, 1) := by decide +kernel
theorem kd_T_comesBefore_37 : decode kc_T_comesBefore 37 = .ok (.getfield 9, 3) := by decide +kernel
theorem kd_T_comesBefore_40 : decode kc_T_comesBefore 40 = .ok (.iload_n 1, 1) := by decide +kernel
theorem kd_T_comesBefore_41 : decode kc_T_comesBefore 41 = .ok (.iaload, 1) := by decide +kernel
theorem kd_T_comesBefore_42 : decode kc_T_comesBefore 42 = .ok (.aload_n 0, 1) := by decide +kernel
theorem kd_T_comesBefore_43 : decode kc_T_comesBefore 43 = .ok (.getfield 9, 3) := by decide +kernel
theorem kd_T_comesBefore_46 : decode kc_T_comesBefore 46 = .ok (.iload_n 2, 1) := by decide +kernel
theorem kd_T_comesBefore_47 : decode kc_T_comesBefore 47 = .ok (.iaload, 1) := by decide +kernel
theorem kd_T_comesBefore_48 : decode kc_T_comesBefore 48 = .ok (.if_icmp .ge 7, 3) := by decide +kernel
theorem kd_T_comesBefore_51 : decode kc_T_comesBefore 51 = .ok (.iconst 1, 1) := by decide +kernel
theorem kd_T_comesBefore_52 : decode kc_T_comesBefore 52 = .ok (.goto 4, 3) := by decide +kernel
theorem kd_T_comesBefore_55 : decode kc_T_comesBefore 55 = .ok (.iconst 0, 1) := by decide +kernel
theorem kd_T_comesBefore_56 : decode kc_T_comesBefore 56 = .ok (.ireturn, 1) := by decide +kernel
theorem kd_N_add_0 : decode kc_N_add 0 = .ok (.aload_n 0, 1) := by decide +kernel
theorem kd_N_add_1 : decode kc_N_add 1 = .ok (.getfield 32, 3) := by decide +kernel
theorem kd_N_add_4 : decode kc_N_add 4 = .ok (.istore_n 3, 1) := by decide +kernel
theorem kd_N_add_5 : decode kc_N_add 5 = .ok (.aload_n 0, 1) := by decide +kernel
theorem kd_N_add_6 : decode kc_N_add 6 = .ok (.getfield 9, 3) := by decide +kernel
theorem kd_N_add_9 : decode kc_N_add 9 = .ok (.iload_n 3, 1) := by decide +kernel
theorem kd_N_add_10 : decode kc_N_add 10 = .ok (.iload_n 1, 1) := by decide +kernel
theorem kd_N_add_11 : decode kc_N_add 11 = .ok (.iastore, 1) := by decide +kernel
theorem kd_N_add_12 : decode kc_N_add 12 = .ok (.aload_n 0, 1) := by decide +kernel
theorem kd_N_add_13 : decode kc_N_add 13 = .ok (.getfield 15, 3) := by decide +kernel
theorem kd_N_add_16 : decode kc_N_add 16 = .ok (.iload_n 3, 1) := by decide +kernel
theorem kd_N_add_17 : decode kc_N_add 17 = .ok (.iload_n 2, 1) := by decide +kernel
theorem kd_N_add_18 : decode kc_N_add 18 = .ok (.iastore, 1) := by decide +kernel
theorem kd_N_add_19 : decode kc_N_add 19 = .ok (.iconst 0, 1) := by decide +kernel
theorem kd_N_add_20 : decode kc_N_add 20 = .ok (.istore 4, 2) := by decide +kernel
theorem kd_N_add_22 : decode kc_N_add 22 = .ok (.iload 4, 2) := by decide +kernel
theorem kd_N_add_24 : decode kc_N_add 24 = .ok (.iconst 4, 1) := by decide +kernel
theorem kd_N_add_25 : decode kc_N_add 25 = .ok (.if_icmp .ge 24, 3) := by decide +kernel
theorem kd_N_add_28 : decode kc_N_add 28 = .ok (.aload_n 0, 1) := by decide +kernel
theorem kd_N_add_29 : decode kc_N_add 29 = .ok (.getfield 23, 3) := by decide +kernel
theorem kd_N_add_32 : decode kc_N_add 32 = .ok (.iload_n 3, 1) := by decide +kernel
theorem kd_N_add_33 : decode kc_N_add 33 = .ok (.aaload, 1) := by decide +kernel
theorem kd_N_add_34 : decode kc_N_add 34 = .ok (.iload 4, 2) := by decide +kernel
theorem kd_N_add_36 : decode kc_N_add 36 = .ok (.getstatic 36, 3) := by decide +kernel
theorem kd_N_add_39 : decode kc_N_add 39 = .ok (.iload 4, 2) := by decide +kernel
theorem kd_N_add_41 : decode kc_N_add 41 = .ok (.iaload, 1) := by decide +kernel
theorem kd_N_add_42 : decode kc_N_add 42 = .ok (.iastore, 1) := by decide +kernel
theorem kd_N_add_43 : decode kc_N_add 43 = .ok (.iinc 4 1, 3) := by decide +kernel
theorem kd_N_add_46 : decode kc_N_add 46 = .ok (.goto (-24), 3) := by decide +kernel
theorem kd_N_add_49 : decode kc_N_add 49 = .ok (.iconst 0, 1) := by decide +kernel
theorem kd_N_add_50 : decode kc_N_add 50 = .ok (.istore 4, 2) := by decide +kernel
theorem kd_N_add_52 : decode kc_N_add 52 = .ok (.iload 4, 2) := by decide +kernel
theorem kd_N_add_54 : decode kc_N_add 54 = .ok (.bipush 8, 2) := by decide +kernel
theorem kd_N_add_56 : decode kc_N_add 56 = .ok (.if_icmp .ge 19, 3) := by decide +kernel
theorem kd_N_add_59 : decode kc_N_add 59 = .ok (.aload_n 0, 1) := by decide +kernel
theorem kd_N_add_60 : decode kc_N_add 60 = .ok (.getfield 26, 3) := by decide +kernel
theorem kd_N_add_63 : decode kc_N_add 63 = .ok (.iload_n 3, 1) := by decide +kernel
theorem kd_N_add_64 : decode kc_N_add 64 = .ok (.aaload, 1) := by decide +kernel
theorem kd_N_add_65 : decode kc_N_add 65 = .ok (.iload 4, 2) := by decide +kernel
theorem kd_N_add_67 : decode kc_N_add 67 = .ok (.iconst (-1), 1) := by decide +kernel
theorem kd_N_add_68 : decode kc_N_add 68 = .ok (.iastore, 1) := by decide +kernel
theorem kd_N_add_69 : decode kc_N_add 69 = .ok (.iinc 4 1, 3) := by decide +kernel
theorem kd_N_add_72 : decode kc_N_add 72 = .ok (.goto (-20), 3) := by decide +kernel
theorem kd_N_add_75 : decode kc_N_add 75 = .ok (.aload_n 0, 1) := by decide +kernel
theorem kd_N_add_76 : decode kc_N_add 76 = .ok (.dup, 1) := by decide +kernel
theorem kd_N_add_77 : decode kc_N_add 77 = .ok (.getfield 32, 3) := by decide +kernel
theorem kd_N_add_80 : decode kc_N_add 80 = .ok (.iconst 1, 1) := by decide +kernel
theorem kd_N_add_81 : decode kc_N_add 81 = .ok (.iadd, 1) := by decide +kernel
theorem kd_N_add_82 : decode kc_N_add 82 = .ok (.putfield 32, 3) := by decide +kernel
theorem kd_N_add_85 : decode kc_N_add 85 = .ok (.iload_n 3, 1) := by decide +kernel
theorem kd_N_add_86 : decode kc_N_add 86 = .ok (.ireturn, 1) := by decide +kernel
theorem kd_N_setBarred_0 : decode kc_N_setBarred 0 = .ok (.iconst 1, 1) := by decide +kernel
theorem kd_N_setBarred_1 : decode kc_N_setBarred 1 = .ok (.iload_n 2, 1) := by decide +kernel
theorem kd_N_setBarred_2 : decode kc_N_setBarred 2 = .ok (.ishl, 1) := by decide +kernel
theorem kd_N_setBarred_3 : decode kc_N_setBarred 3 = .ok (.istore 4, 2) := by decide +kernel
theorem kd_N_setBarred_5 : decode kc_N_setBarred 5 = .ok (.aload_n 0, 1) := by decide +kernel
theorem kd_N_setBarred_6 : decode kc_N_setBarred 6 = .ok (.getfield 18, 3) := by decide +kernel
theorem kd_N_setBarred_9 : decode kc_N_setBarred 9 = .ok (.iload_n 1, 1) := by decide +kernel
theorem kd_N_setBarred_10 : decode kc_N_setBarred 10 = .ok (.iload_n 3, 1) := by decide +kernel
theorem kd_N_setBarred_11 : decode kc_N_setBarred 11 = .ok (.ifCond .eq 15, 3) := by decide +kernel
theorem kd_N_setBarred_14 : decode kc_N_setBarred 14 = .ok (.aload_n 0, 1) := by decide +kernel
theorem kd_N_setBarred_15 : decode kc_N_setBarred 15 = .ok (.getfield 18, 3) := by decide +kernel
theorem kd_N_setBarred_18 : decode kc_N_setBarred 18 = .ok (.iload_n 1, 1) := by decide +kernel
theorem kd_N_setBarred_19 : decode kc_N_setBarred 19 = .ok (.iaload, 1) := by decide +kernel
theorem kd_N_setBarred_20 : decode kc_N_setBarred 20 = .ok (.iload 4, 2) := by decide +kernel
theorem kd_N_setBarred_22 : decode kc_N_setBarred 22 = .ok (.ior, 1) := by decide +kernel
theorem kd_N_setBarred_23 : decode kc_N_setBarred 23 = .ok (.goto 14, 3) := by decide +kernel
theorem kd_N_setBarred_26 : decode kc_N_setBarred 26 = .ok (.aload_n 0, 1) := by decide +kernel
theorem kd_N_setBarred_27 : decode kc_N_setBarred 27 = .ok (.getfield 18, 3) := by decide +kernel
theorem kd_N_setBarred_30 : decode kc_N_setBarred 30 = .ok (.iload_n 1, 1) := by decide +kernel
theorem kd_N_setBarred_31 : decode kc_N_setBarred 31 = .ok (.iaload, 1) := by decide +kernel
theorem kd_N_setBarred_32 : decode kc_N_setBarred 32 = .ok (.iload 4, 2) := by decide +kernel
theorem kd_N_setBarred_34 : decode kc_N_setBarred 34 = .ok (.iconst (-1), 1) := by decide +kernel
theorem kd_N_setBarred_35 : decode kc_N_setBarred 35 = .ok (.ixor, 1) := by decide +kernel
theorem kd_N_setBarred_36 : decode kc_N_setBarred 36 = .ok (.iand, 1) := by decide +kernel
theorem kd_N_setBarred_37 : decode kc_N_setBarred 37 = .ok (.iastore, 1) := by decide +kernel
theorem kd_N_setBarred_38 : decode kc_N_setBarred 38 = .ok (.return_, 1) := by decide +kernel
theorem kd_F_clear_0 : decode kc_F_clear 0 = .ok (.iconst 0, 1) := by decide +kernel
theorem kd_F_clear_1 : decode kc_F_clear 1 = .ok (.istore_n 1, 1) := by decide +kernel
theorem kd_F_clear_2 : decode kc_F_clear 2 = .ok (.iload_n 1, 1) := by decide +kernel
theorem kd_F_clear_3 : decode kc_F_clear 3 = .ok (.aload_n 0, 1) := by decide +kernel
theorem kd_F_clear_4 : decode kc_F_clear 4 = .ok (.getfield 21, 3) := by decide +kernel
theorem kd_F_clear_7 : decode kc_F_clear 7 = .ok (.getfield 63, 3) := by decide +kernel
theorem kd_F_clear_10 : decode kc_F_clear 10 = .ok (.if_icmp .ge 14, 3) := by decide +kernel
theorem kd_F_clear_13 : decode kc_F_clear 13 = .ok (.aload_n 0, 1) := by decide +kernel
theorem kd_F_clear_14 : decode kc_F_clear 14 = .ok (.iload_n 1, 1) := by decide +kernel
theorem kd_F_clear_15 : decode kc_F_clear 15 = .ok (.invokevirtual 97, 3) := by decide +kernel
theorem kd_F_clear_18 : decode kc_F_clear 18 = .ok (.iinc 1 1, 3) := by decide +kernel
theorem kd_F_clear_21 : decode kc_F_clear 21 = .ok (.goto (-19), 3) := by decide +kernel
theorem kd_F_clear_24 : decode kc_F_clear 24 = .ok (.return_, 1) := by decide +kernel
theorem kd_F_letGo_0 : decode kc_F_letGo 0 = .ok (.iconst 0, 1) := by decide +kernel
theorem kd_F_letGo_1 : decode kc_F_letGo 1 = .ok (.istore_n 2, 1) := by decide +kernel
theorem kd_F_letGo_2 : decode kc_F_letGo 2 = .ok (.iload_n 2, 1) := by decide +kernel
theorem kd_F_letGo_3 : decode kc_F_letGo 3 = .ok (.aload_n 0, 1) := by decide +kernel
theorem kd_F_letGo_4 : decode kc_F_letGo 4 = .ok (.getfield 12, 3) := by decide +kernel
theorem kd_F_letGo_7 : decode kc_F_letGo 7 = .ok (.getfield 48, 3) := by decide +kernel
theorem kd_F_letGo_10 : decode kc_F_letGo 10 = .ok (.if_icmp .ge 27, 3) := by decide +kernel
theorem kd_F_letGo_13 : decode kc_F_letGo 13 = .ok (.aload_n 0, 1) := by decide +kernel
theorem kd_F_letGo_14 : decode kc_F_letGo 14 = .ok (.iload_n 1, 1) := by decide +kernel
theorem kd_F_letGo_15 : decode kc_F_letGo 15 = .ok (.iload_n 2, 1) := by decide +kernel
theorem kd_F_letGo_16 : decode kc_F_letGo 16 = .ok (.aload_n 0, 1) := by decide +kernel
theorem kd_F_letGo_17 : decode kc_F_letGo 17 = .ok (.getfield 21, 3) := by decide +kernel
theorem kd_F_letGo_20 : decode kc_F_letGo 20 = .ok (.getfield 80, 3) := by decide +kernel
theorem kd_F_letGo_23 : decode kc_F_letGo 23 = .ok (.iload_n 1, 1) := by decide +kernel
theorem kd_F_letGo_24 : decode kc_F_letGo 24 = .ok (.aaload, 1) := by decide +kernel
theorem kd_F_letGo_25 : decode kc_F_letGo 25 = .ok (.iload_n 2, 1) := by decide +kernel
theorem kd_F_letGo_26 : decode kc_F_letGo 26 = .ok (.iaload, 1) := by decide +kernel
theorem kd_F_letGo_27 : decode kc_F_letGo 27 = .ok (.ineg, 1) := by decide +kernel
theorem kd_F_letGo_28 : decode kc_F_letGo 28 = .ok (.invokevirtual 93, 3) := by decide +kernel
theorem kd_F_letGo_31 : decode kc_F_letGo 31 = .ok (.iinc 2 1, 3) := by decide +kernel
theorem kd_F_letGo_34 : decode kc_F_letGo 34 = .ok (.goto (-32), 3) := by decide +kernel
theorem kd_F_letGo_37 : decode kc_F_letGo 37 = .ok (.return_, 1) := by decide +kernel
theorem kd_F_move_0 : decode kc_F_move 0 = .ok (.aload_n 0, 1) := by decide +kernel
theorem kd_F_move_1 : decode kc_F_move 1 = .ok (.getfield 21, 3) := by decide +kernel
theorem kd_F_move_4 : decode kc_F_move 4 = .ok (.getfield 80, 3) := by decide +kernel
theorem kd_F_move_7 : decode kc_F_move 7 = .ok (.iload_n 1, 1) := by decide +kernel
theorem kd_F_move_8 : decode kc_F_move 8 = .ok (.aaload, 1) := by decide +kernel
theorem kd_F_move_9 : decode kc_F_move 9 = .ok (.iload_n 2, 1) := by decide +kernel
theorem kd_F_move_10 : decode kc_F_move 10 = .ok (.dup2, 1) := by decide +kernel
theorem kd_F_move_11 : decode kc_F_move 11 = .ok (.iaload, 1) := by decide +kernel
theorem kd_F_move_12 : decode kc_F_move 12 = .ok (.iload_n 3, 1) := by decide +kernel
theorem kd_F_move_13 : decode kc_F_move 13 = .ok (.iadd, 1) := by decide +kernel
theorem kd_F_move_14 : decode kc_F_move 14 = .ok (.iastore, 1) := by decide +kernel
theorem kd_F_move_15 : decode kc_F_move 15 = .ok (.aload_n 0, 1) := by decide +kernel
theorem kd_F_move_16 : decode kc_F_move 16 = .ok (.getfield 12, 3) := by decide +kernel
theorem kd_F_move_19 : decode kc_F_move 19 = .ok (.getfield 41, 3) := by decide +kernel
theorem kd_F_move_22 : decode kc_F_move 22 = .ok (.iload_n 2, 1) := by decide +kernel
theorem kd_F_move_23 : decode kc_F_move 23 = .ok (.dup2, 1) := by decide +kernel
theorem kd_F_move_24 : decode kc_F_move 24 = .ok (.iaload, 1) := by decide +kernel
theorem kd_F_move_25 : decode kc_F_move 25 = .ok (.iload_n 3, 1) := by decide +kernel
theorem kd_F_move_26 : decode kc_F_move 26 = .ok (.isub, 1) := by decide +kernel
theorem kd_F_move_27 : decode kc_F_move 27 = .ok (.iastore, 1) := by decide +kernel
theorem kd_F_move_28 : decode kc_F_move 28 = .ok (.return_, 1) := by decide +kernel
theorem kd_I_bitCount_0 : decode kc_I_bitCount 0 = .ok (.iload_n 0, 1) := by decide +kernel
theorem kd_I_bitCount_1 : decode kc_I_bitCount 1 = .ok (.iload_n 0, 1) := by decide +kernel
theorem kd_I_bitCount_2 : decode kc_I_bitCount 2 = .ok (.iconst 1, 1) := by decide +kernel
theorem kd_I_bitCount_3 : decode kc_I_bitCount 3 = .ok (.iushr, 1) := by decide +kernel
theorem kd_I_bitCount_4 : decode kc_I_bitCount 4 = .ok (.ldc_w 265, 3) := by decide +kernel
theorem kd_I_bitCount_7 : decode kc_I_bitCount 7 = .ok (.iand, 1) := by decide +kernel
theorem kd_I_bitCount_8 : decode kc_I_bitCount 8 = .ok (.isub, 1) := by decide +kernel
theorem kd_I_bitCount_9 : decode kc_I_bitCount 9 = .ok (.istore_n 0, 1) := by decide +kernel
theorem kd_I_bitCount_10 : decode kc_I_bitCount 10 = .ok (.iload_n 0, 1) := by decide +kernel
theorem kd_I_bitCount_11 : decode kc_I_bitCount 11 = .ok (.ldc_w 266, 3) := by decide +kernel
theorem kd_I_bitCount_14 : decode kc_I_bitCount 14 = .ok (.iand, 1) := by decide +kernel
theorem kd_I_bitCount_15 : decode kc_I_bitCount 15 = .ok (.iload_n 0, 1) := by decide +kernel
theorem kd_I_bitCount_16 : decode kc_I_bitCount 16 = .ok (.iconst 2, 1) := by decide +kernel
theorem kd_I_bitCount_17 : decode kc_I_bitCount 17 = .ok (.iushr, 1) := by decide +kernel
theorem kd_I_bitCount_18 : decode kc_I_bitCount 18 = .ok (.ldc_w 266, 3) := by decide +kernel
theorem kd_I_bitCount_21 : decode kc_I_bitCount 21 = .ok (.iand, 1) := by decide +kernel
theorem kd_I_bitCount_22 : decode kc_I_bitCount 22 = .ok (.iadd, 1) := by decide +kernel
theorem kd_I_bitCount_23 : decode kc_I_bitCount 23 = .ok (.istore_n 0, 1) := by decide +kernel
theorem kd_I_bitCount_24 : decode kc_I_bitCount 24 = .ok (.iload_n 0, 1) := by decide +kernel
theorem kd_I_bitCount_25 : decode kc_I_bitCount 25 = .ok (.iload_n 0, 1) := by decide +kernel
theorem kd_I_bitCount_26 : decode kc_I_bitCount 26 = .ok (.iconst 4, 1) := by decide +kernel
theorem kd_I_bitCount_27 : decode kc_I_bitCount 27 = .ok (.iushr, 1) := by decide +kernel
theorem kd_I_bitCount_28 : decode kc_I_bitCount 28 = .ok (.iadd, 1) := by decide +kernel
theorem kd_I_bitCount_29 : decode kc_I_bitCount 29 = .ok (.ldc_w 267, 3) := by decide +kernel
theorem kd_I_bitCount_32 : decode kc_I_bitCount 32 = .ok (.iand, 1) := by decide +kernel
theorem kd_I_bitCount_33 : decode kc_I_bitCount 33 = .ok (.istore_n 0, 1) := by decide +kernel
theorem kd_I_bitCount_34 : decode kc_I_bitCount 34 = .ok (.iload_n 0, 1) := by decide +kernel
theorem kd_I_bitCount_35 : decode kc_I_bitCount 35 = .ok (.iload_n 0, 1) := by decide +kernel
theorem kd_I_bitCount_36 : decode kc_I_bitCount 36 = .ok (.bipush 8, 2) := by decide +kernel
theorem kd_I_bitCount_38 : decode kc_I_bitCount 38 = .ok (.iushr, 1) := by decide +kernel
theorem kd_I_bitCount_39 : decode kc_I_bitCount 39 = .ok (.iadd, 1) := by decide +kernel
theorem kd_I_bitCount_40 : decode kc_I_bitCount 40 = .ok (.istore_n 0, 1) := by decide +kernel
theorem kd_I_bitCount_41 : decode kc_I_bitCount 41 = .ok (.iload_n 0, 1) := by decide +kernel
theorem kd_I_bitCount_42 : decode kc_I_bitCount 42 = .ok (.iload_n 0, 1) := by decide +kernel
theorem kd_I_bitCount_43 : decode kc_I_bitCount 43 = .ok (.bipush 16, 2) := by decide +kernel
theorem kd_I_bitCount_45 : decode kc_I_bitCount 45 = .ok (.iushr, 1) := by decide +kernel
theorem kd_I_bitCount_46 : decode kc_I_bitCount 46 = .ok (.iadd, 1) := by decide +kernel
theorem kd_I_bitCount_47 : decode kc_I_bitCount 47 = .ok (.istore_n 0, 1) := by decide +kernel
theorem kd_I_bitCount_48 : decode kc_I_bitCount 48 = .ok (.iload_n 0, 1) := by decide +kernel
theorem kd_I_bitCount_49 : decode kc_I_bitCount 49 = .ok (.bipush 63, 2) := by decide +kernel
theorem kd_I_bitCount_51 : decode kc_I_bitCount 51 = .ok (.iand, 1) := by decide +kernel
theorem kd_I_bitCount_52 : decode kc_I_bitCount 52 = .ok (.ireturn, 1) := by decide +kernel
theorem kd_F_lotOfGift_0 : decode kc_F_lotOfGift 0 = .ok (.iconst 0, 1) := by decide +kernel
theorem kd_F_lotOfGift_1 : decode kc_F_lotOfGift 1 = .ok (.istore_n 3, 1) := by decide +kernel
theorem kd_F_lotOfGift_2 : decode kc_F_lotOfGift 2 = .ok (.iconst 0, 1) := by decide +kernel
theorem kd_F_lotOfGift_3 : decode kc_F_lotOfGift 3 = .ok (.istore 4, 2) := by decide +kernel
theorem kd_F_lotOfGift_5 : decode kc_F_lotOfGift 5 = .ok (.iload 4, 2) := by decide +kernel
theorem kd_F_lotOfGift_7 : decode kc_F_lotOfGift 7 = .ok (.aload_n 0, 1) := by decide +kernel
theorem kd_F_lotOfGift_8 : decode kc_F_lotOfGift 8 = .ok (.getfield 12, 3) := by decide +kernel
theorem kd_F_lotOfGift_11 : decode kc_F_lotOfGift 11 = .ok (.getfield 48, 3) := by decide +kernel
theorem kd_F_lotOfGift_14 : decode kc_F_lotOfGift 14 = .ok (.if_icmp .ge 47, 3) := by decide +kernel
theorem kd_F_lotOfGift_17 : decode kc_F_lotOfGift 17 = .ok (.aload_n 0, 1) := by decide +kernel
theorem kd_F_lotOfGift_18 : decode kc_F_lotOfGift 18 = .ok (.getfield 12, 3) := by decide +kernel
theorem kd_F_lotOfGift_21 : decode kc_F_lotOfGift 21 = .ok (.getfield 77, 3) := by decide +kernel
theorem kd_F_lotOfGift_24 : decode kc_F_lotOfGift 24 = .ok (.iload 4, 2) := by decide +kernel
theorem kd_F_lotOfGift_26 : decode kc_F_lotOfGift 26 = .ok (.iaload, 1) := by decide +kernel
theorem kd_F_lotOfGift_27 : decode kc_F_lotOfGift 27 = .ok (.istore 5, 2) := by decide +kernel
theorem kd_F_lotOfGift_29 : decode kc_F_lotOfGift 29 = .ok (.aload_n 0, 1) := by decide +kernel
theorem kd_F_lotOfGift_30 : decode kc_F_lotOfGift 30 = .ok (.getfield 21, 3) := by decide +kernel
theorem kd_F_lotOfGift_33 : decode kc_F_lotOfGift 33 = .ok (.getfield 80, 3) := by decide +kernel
theorem kd_F_lotOfGift_36 : decode kc_F_lotOfGift 36 = .ok (.iload_n 1, 1) := by decide +kernel
theorem kd_F_lotOfGift_37 : decode kc_F_lotOfGift 37 = .ok (.aaload, 1) := by decide +kernel
theorem kd_F_lotOfGift_38 : decode kc_F_lotOfGift 38 = .ok (.iload 5, 2) := by decide +kernel
theorem kd_F_lotOfGift_40 : decode kc_F_lotOfGift 40 = .ok (.iaload, 1) := by decide +kernel
theorem kd_F_lotOfGift_41 : decode kc_F_lotOfGift 41 = .ok (.ifCond .le 14, 3) := by decide +kernel
theorem kd_F_lotOfGift_44 : decode kc_F_lotOfGift 44 = .ok (.iload_n 3, 1) := by decide +kernel
theorem kd_F_lotOfGift_45 : decode kc_F_lotOfGift 45 = .ok (.iload_n 2, 1) := by decide +kernel
theorem kd_F_lotOfGift_46 : decode kc_F_lotOfGift 46 = .ok (.if_icmp .ne 6, 3) := by decide +kernel
theorem kd_F_lotOfGift_49 : decode kc_F_lotOfGift 49 = .ok (.iload 5, 2) := by decide +kernel
theorem kd_F_lotOfGift_51 : decode kc_F_lotOfGift 51 = .ok (.ireturn, 1) := by decide +kernel
theorem kd_F_lotOfGift_52 : decode kc_F_lotOfGift 52 = .ok (.iinc 3 1, 3) := by decide +kernel
theorem kd_F_lotOfGift_55 : decode kc_F_lotOfGift 55 = .ok (.iinc 4 1, 3) := by decide +kernel
theorem kd_F_lotOfGift_58 : decode kc_F_lotOfGift 58 = .ok (.goto (-53), 3) := by decide +kernel
theorem kd_F_lotOfGift_61 : decode kc_F_lotOfGift 61 = .ok (.iconst (-1), 1) := by decide +kernel
theorem kd_F_lotOfGift_62 : decode kc_F_lotOfGift 62 = .ok (.ireturn, 1) := by decide +kernel
theorem kd_F_firstBar_0 : decode kc_F_firstBar 0 = .ok (.iconst 0, 1) := by decide +kernel
theorem kd_F_firstBar_1 : decode kc_F_firstBar 1 = .ok (.istore_n 2, 1) := by decide +kernel
theorem kd_F_firstBar_2 : decode kc_F_firstBar 2 = .ok (.iconst 0, 1) := by decide +kernel
theorem kd_F_firstBar_3 : decode kc_F_firstBar 3 = .ok (.istore_n 3, 1) := by decide +kernel
theorem kd_F_firstBar_4 : decode kc_F_firstBar 4 = .ok (.iload_n 3, 1) := by decide +kernel
theorem kd_F_firstBar_5 : decode kc_F_firstBar 5 = .ok (.aload_n 0, 1) := by decide +kernel
theorem kd_F_firstBar_6 : decode kc_F_firstBar 6 = .ok (.getfield 12, 3) := by decide +kernel
theorem kd_F_firstBar_9 : decode kc_F_firstBar 9 = .ok (.getfield 48, 3) := by decide +kernel
theorem kd_F_firstBar_12 : decode kc_F_firstBar 12 = .ok (.if_icmp .ge 20, 3) := by decide +kernel
theorem kd_F_firstBar_15 : decode kc_F_firstBar 15 = .ok (.iload_n 2, 1) := by decide +kernel
theorem kd_F_firstBar_16 : decode kc_F_firstBar 16 = .ok (.aload_n 0, 1) := by decide +kernel
theorem kd_F_firstBar_17 : decode kc_F_firstBar 17 = .ok (.iload_n 1, 1) := by decide +kernel
theorem kd_F_firstBar_18 : decode kc_F_firstBar 18 = .ok (.iload_n 3, 1) := by decide +kernel
theorem kd_F_firstBar_19 : decode kc_F_firstBar 19 = .ok (.invokevirtual 44, 3) := by decide +kernel
theorem kd_F_firstBar_22 : decode kc_F_firstBar 22 = .ok (.invokestatic 52, 3) := by decide +kernel
theorem kd_F_firstBar_25 : decode kc_F_firstBar 25 = .ok (.istore_n 2, 1) := by decide +kernel
theorem kd_F_firstBar_26 : decode kc_F_firstBar 26 = .ok (.iinc 3 1, 3) := by decide +kernel
theorem kd_F_firstBar_29 : decode kc_F_firstBar 29 = .ok (.goto (-25), 3) := by decide +kernel
theorem kd_F_firstBar_32 : decode kc_F_firstBar 32 = .ok (.iload_n 2, 1) := by decide +kernel
theorem kd_F_firstBar_33 : decode kc_F_firstBar 33 = .ok (.iconst 4, 1) := by decide +kernel
theorem kd_F_firstBar_34 : decode kc_F_firstBar 34 = .ok (.if_icmp .ne 7, 3) := by decide +kernel
theorem kd_F_firstBar_37 : decode kc_F_firstBar 37 = .ok (.iconst 0, 1) := by decide +kernel
theorem kd_F_firstBar_38 : decode kc_F_firstBar 38 = .ok (.goto 6, 3) := by decide +kernel
theorem kd_F_firstBar_41 : decode kc_F_firstBar 41 = .ok (.iload_n 2, 1) := by decide +kernel
theorem kd_F_firstBar_42 : decode kc_F_firstBar 42 = .ok (.iconst 1, 1) := by decide +kernel
theorem kd_F_firstBar_43 : decode kc_F_firstBar 43 = .ok (.iadd, 1) := by decide +kernel
theorem kd_F_firstBar_44 : decode kc_F_firstBar 44 = .ok (.ireturn, 1) := by decide +kernel
theorem kd_F_setPieces_0 : decode kc_F_setPieces 0 = .ok (.aload_n 0, 1) := by decide +kernel
theorem kd_F_setPieces_1 : decode kc_F_setPieces 1 = .ok (.getfield 12, 3) := by decide +kernel
theorem kd_F_setPieces_4 : decode kc_F_setPieces 4 = .ok (.getfield 41, 3) := by decide +kernel
theorem kd_F_setPieces_7 : decode kc_F_setPieces 7 = .ok (.iload_n 1, 1) := by decide +kernel
theorem kd_F_setPieces_8 : decode kc_F_setPieces 8 = .ok (.dup2, 1) := by decide +kernel
theorem kd_F_setPieces_9 : decode kc_F_setPieces 9 = .ok (.iaload, 1) := by decide +kernel
theorem kd_F_setPieces_10 : decode kc_F_setPieces 10 = .ok (.iload_n 2, 1) := by decide +kernel
theorem kd_F_setPieces_11 : decode kc_F_setPieces 11 = .ok (.aload_n 0, 1) := by decide +kernel
theorem kd_F_setPieces_12 : decode kc_F_setPieces 12 = .ok (.getfield 12, 3) := by decide +kernel
theorem kd_F_setPieces_15 : decode kc_F_setPieces 15 = .ok (.getfield 101, 3) := by decide +kernel
theorem kd_F_setPieces_18 : decode kc_F_setPieces 18 = .ok (.iload_n 1, 1) := by decide +kernel
theorem kd_F_setPieces_19 : decode kc_F_setPieces 19 = .ok (.iaload, 1) := by decide +kernel
theorem kd_F_setPieces_20 : decode kc_F_setPieces 20 = .ok (.isub, 1) := by decide +kernel
theorem kd_F_setPieces_21 : decode kc_F_setPieces 21 = .ok (.iadd, 1) := by decide +kernel
theorem kd_F_setPieces_22 : decode kc_F_setPieces 22 = .ok (.iastore, 1) := by decide +kernel
theorem kd_F_setPieces_23 : decode kc_F_setPieces 23 = .ok (.aload_n 0, 1) := by decide +kernel
theorem kd_F_setPieces_24 : decode kc_F_setPieces 24 = .ok (.getfield 12, 3) := by decide +kernel
theorem kd_F_setPieces_27 : decode kc_F_setPieces 27 = .ok (.getfield 101, 3) := by decide +kernel
theorem kd_F_setPieces_30 : decode kc_F_setPieces 30 = .ok (.iload_n 1, 1) := by decide +kernel
theorem kd_F_setPieces_31 : decode kc_F_setPieces 31 = .ok (.iload_n 2, 1) := by decide +kernel
theorem kd_F_setPieces_32 : decode kc_F_setPieces 32 = .ok (.iastore, 1) := by decide +kernel
theorem kd_F_setPieces_33 : decode kc_F_setPieces 33 = .ok (.iconst 0, 1) := by decide +kernel
theorem kd_F_setPieces_34 : decode kc_F_setPieces 34 = .ok (.istore_n 3, 1) := by decide +kernel
theorem kd_F_setPieces_35 : decode kc_F_setPieces 35 = .ok (.aload_n 0, 1) := by decide +kernel
theorem kd_F_setPieces_36 : decode kc_F_setPieces 36 = .ok (.getfield 21, 3) := by decide +kernel
theorem kd_F_setPieces_39 : decode kc_F_setPieces 39 = .ok (.getfield 63, 3) := by decide +kernel
theorem kd_F_setPieces_42 : decode kc_F_setPieces 42 = .ok (.iconst 1, 1) := by decide +kernel
theorem kd_F_setPieces_43 : decode kc_F_setPieces 43 = .ok (.isub, 1) := by decide +kernel
theorem kd_F_setPieces_44 : decode kc_F_setPieces 44 = .ok (.istore 4, 2) := by decide +kernel
theorem kd_F_setPieces_46 : decode kc_F_setPieces 46 = .ok (.iload 4, 2) := by decide +kernel
theorem kd_F_setPieces_48 : decode kc_F_setPieces 48 = .ok (.ifCond .lt 46, 3) := by decide +kernel
theorem kd_F_setPieces_51 : decode kc_F_setPieces 51 = .ok (.aload_n 0, 1) := by decide +kernel
theorem kd_F_setPieces_52 : decode kc_F_setPieces 52 = .ok (.getfield 12, 3) := by decide +kernel
theorem kd_F_setPieces_55 : decode kc_F_setPieces 55 = .ok (.getfield 41, 3) := by decide +kernel
theorem kd_F_setPieces_58 : decode kc_F_setPieces 58 = .ok (.iload_n 1, 1) := by decide +kernel
theorem kd_F_setPieces_59 : decode kc_F_setPieces 59 = .ok (.iaload, 1) := by decide +kernel
theorem kd_F_setPieces_60 : decode kc_F_setPieces 60 = .ok (.ifCond .ge 34, 3) := by decide +kernel
theorem kd_F_setPieces_63 : decode kc_F_setPieces 63 = .ok (.aload_n 0, 1) := by decide +kernel
theorem kd_F_setPieces_64 : decode kc_F_setPieces 64 = .ok (.getfield 21, 3) := by decide +kernel
theorem kd_F_setPieces_67 : decode kc_F_setPieces 67 = .ok (.getfield 80, 3) := by decide +kernel
theorem kd_F_setPieces_70 : decode kc_F_setPieces 70 = .ok (.iload 4, 2) := by decide +kernel
theorem kd_F_setPieces_72 : decode kc_F_setPieces 72 = .ok (.aaload, 1) := by decide +kernel
theorem kd_F_setPieces_73 : decode kc_F_setPieces 73 = .ok (.iload_n 1, 1) := by decide +kernel
theorem kd_F_setPieces_74 : decode kc_F_setPieces 74 = .ok (.iaload, 1) := by decide +kernel
theorem kd_F_setPieces_75 : decode kc_F_setPieces 75 = .ok (.ifCond .le 13, 3) := by decide +kernel
theorem kd_F_setPieces_78 : decode kc_F_setPieces 78 = .ok (.aload_n 0, 1) := by decide +kernel
theorem kd_F_setPieces_79 : decode kc_F_setPieces 79 = .ok (.iload 4, 2) := by decide +kernel
theorem kd_F_setPieces_81 : decode kc_F_setPieces 81 = .ok (.iload_n 1, 1) := by decide +kernel
theorem kd_F_setPieces_82 : decode kc_F_setPieces 82 = .ok (.invokevirtual 104, 3) := by decide +kernel
theorem kd_F_setPieces_85 : decode kc_F_setPieces 85 = .ok (.iinc 3 1, 3) := by decide +kernel
theorem kd_F_setPieces_88 : decode kc_F_setPieces 88 = .ok (.iinc 4 (-1), 3) := by decide +kernel
theorem kd_F_setPieces_91 : decode kc_F_setPieces 91 = .ok (.goto (-45), 3) := by decide +kernel
theorem kd_F_setPieces_94 : decode kc_F_setPieces 94 = .ok (.iload_n 3, 1) := by decide +kernel
theorem kd_F_setPieces_95 : decode kc_F_setPieces 95 = .ok (.ireturn, 1) := by decide +kernel
theorem kd_F_giveUp_0 : decode kc_F_giveUp 0 = .ok (.aload_n 0, 1) := by decide +kernel
theorem kd_F_giveUp_1 : decode kc_F_giveUp 1 = .ok (.getfield 21, 3) := by decide +kernel
theorem kd_F_giveUp_4 : decode kc_F_giveUp 4 = .ok (.getfield 33, 3) := by decide +kernel
theorem kd_F_giveUp_7 : decode kc_F_giveUp 7 = .ok (.iload_n 1, 1) := by decide +kernel
theorem kd_F_giveUp_8 : decode kc_F_giveUp 8 = .ok (.aaload, 1) := by decide +kernel
theorem kd_F_giveUp_9 : decode kc_F_giveUp 9 = .ok (.iconst 3, 1) := by decide +kernel
theorem kd_F_giveUp_10 : decode kc_F_giveUp 10 = .ok (.iaload, 1) := by decide +kernel
theorem kd_F_giveUp_11 : decode kc_F_giveUp 11 = .ok (.iconst 1, 1) := by decide +kernel
theorem kd_F_giveUp_12 : decode kc_F_giveUp 12 = .ok (.if_icmp .ne 11, 3) := by decide +kernel
theorem kd_F_giveUp_15 : decode kc_F_giveUp 15 = .ok (.aload_n 0, 1) := by decide +kernel
theorem kd_F_giveUp_16 : decode kc_F_giveUp 16 = .ok (.iload_n 1, 1) := by decide +kernel
theorem kd_F_giveUp_17 : decode kc_F_giveUp 17 = .ok (.invokevirtual 97, 3) := by decide +kernel
theorem kd_F_giveUp_20 : decode kc_F_giveUp 20 = .ok (.goto 34, 3) := by decide +kernel
theorem kd_F_giveUp_23 : decode kc_F_giveUp 23 = .ok (.aload_n 0, 1) := by decide +kernel
theorem kd_F_giveUp_24 : decode kc_F_giveUp 24 = .ok (.iload_n 1, 1) := by decide +kernel
theorem kd_F_giveUp_25 : decode kc_F_giveUp 25 = .ok (.iload_n 2, 1) := by decide +kernel
theorem kd_F_giveUp_26 : decode kc_F_giveUp 26 = .ok (.aload_n 0, 1) := by decide +kernel
theorem kd_F_giveUp_27 : decode kc_F_giveUp 27 = .ok (.getfield 21, 3) := by decide +kernel
theorem kd_F_giveUp_30 : decode kc_F_giveUp 30 = .ok (.getfield 80, 3) := by decide +kernel
theorem kd_F_giveUp_33 : decode kc_F_giveUp 33 = .ok (.iload_n 1, 1) := by decide +kernel
theorem kd_F_giveUp_34 : decode kc_F_giveUp 34 = .ok (.aaload, 1) := by decide +kernel
theorem kd_F_giveUp_35 : decode kc_F_giveUp 35 = .ok (.iload_n 2, 1) := by decide +kernel
theorem kd_F_giveUp_36 : decode kc_F_giveUp 36 = .ok (.iaload, 1) := by decide +kernel
theorem kd_F_giveUp_37 : decode kc_F_giveUp 37 = .ok (.aload_n 0, 1) := by decide +kernel
theorem kd_F_giveUp_38 : decode kc_F_giveUp 38 = .ok (.getfield 12, 3) := by decide +kernel
theorem kd_F_giveUp_41 : decode kc_F_giveUp 41 = .ok (.getfield 41, 3) := by decide +kernel
theorem kd_F_giveUp_44 : decode kc_F_giveUp 44 = .ok (.iload_n 2, 1) := by decide +kernel
theorem kd_F_giveUp_45 : decode kc_F_giveUp 45 = .ok (.iaload, 1) := by decide +kernel
theorem kd_F_giveUp_46 : decode kc_F_giveUp 46 = .ok (.ineg, 1) := by decide +kernel
theorem kd_F_giveUp_47 : decode kc_F_giveUp 47 = .ok (.invokestatic 74, 3) := by decide +kernel
theorem kd_F_giveUp_50 : decode kc_F_giveUp 50 = .ok (.ineg, 1) := by decide +kernel
theorem kd_F_giveUp_51 : decode kc_F_giveUp 51 = .ok (.invokevirtual 93, 3) := by decide +kernel
theorem kd_F_giveUp_54 : decode kc_F_giveUp 54 = .ok (.return_, 1) := by decide +kernel
theorem kd_F_costOfPieces_0 : decode kc_F_costOfPieces 0 = .ok (.iconst 0, 1) := by decide +kernel
theorem kd_F_costOfPieces_1 : decode kc_F_costOfPieces 1 = .ok (.istore_n 2, 1) := by decide +kernel
theorem kd_F_costOfPieces_2 : decode kc_F_costOfPieces 2 = .ok (.iconst 0, 1) := by decide +kernel
theorem kd_F_costOfPieces_3 : decode kc_F_costOfPieces 3 = .ok (.istore_n 3, 1) := by decide +kernel
theorem kd_F_costOfPieces_4 : decode kc_F_costOfPieces 4 = .ok (.iload_n 3, 1) := by decide +kernel
theorem kd_F_costOfPieces_5 : decode kc_F_costOfPieces 5 = .ok (.aload_n 0, 1) := by decide +kernel
theorem kd_F_costOfPieces_6 : decode kc_F_costOfPieces 6 = .ok (.getfield 12, 3) := by decide +kernel
theorem kd_F_costOfPieces_9 : decode kc_F_costOfPieces 9 = .ok (.getfield 48, 3) := by decide +kernel
theorem kd_F_costOfPieces_12 : decode kc_F_costOfPieces 12 = .ok (.if_icmp .ge 30, 3) := by decide +kernel
theorem kd_F_costOfPieces_15 : decode kc_F_costOfPieces 15 = .ok (.iload_n 2, 1) := by decide +kernel
theorem kd_F_costOfPieces_16 : decode kc_F_costOfPieces 16 = .ok (.aload_n 0, 1) := by decide +kernel
theorem kd_F_costOfPieces_17 : decode kc_F_costOfPieces 17 = .ok (.getfield 21, 3) := by decide +kernel
theorem kd_F_costOfPieces_20 : decode kc_F_costOfPieces 20 = .ok (.getfield 80, 3) := by decide +kernel
theorem kd_F_costOfPieces_23 : decode kc_F_costOfPieces 23 = .ok (.iload_n 1, 1) := by decide +kernel
theorem kd_F_costOfPieces_24 : decode kc_F_costOfPieces 24 = .ok (.aaload, 1) := by decide +kernel
theorem kd_F_costOfPieces_25 : decode kc_F_costOfPieces 25 = .ok (.iload_n 3, 1) := by decide +kernel
theorem kd_F_costOfPieces_26 : decode kc_F_costOfPieces 26 = .ok (.iaload, 1) := by decide +kernel
theorem kd_F_costOfPieces_27 : decode kc_F_costOfPieces 27 = .ok (.aload_n 0, 1) := by decide +kernel
theorem kd_F_costOfPieces_28 : decode kc_F_costOfPieces 28 = .ok (.iload_n 1, 1) := by decide +kernel
theorem kd_F_costOfPieces_29 : decode kc_F_costOfPieces 29 = .ok (.iload_n 3, 1) := by decide +kernel
theorem kd_F_costOfPieces_30 : decode kc_F_costOfPieces 30 = .ok (.invokevirtual 71, 3) := by decide +kernel
theorem kd_F_costOfPieces_33 : decode kc_F_costOfPieces 33 = .ok (.imul, 1) := by decide +kernel
theorem kd_F_costOfPieces_34 : decode kc_F_costOfPieces 34 = .ok (.iadd, 1) := by decide +kernel
theorem kd_F_costOfPieces_35 : decode kc_F_costOfPieces 35 = .ok (.istore_n 2, 1) := by decide +kernel
theorem kd_F_costOfPieces_36 : decode kc_F_costOfPieces 36 = .ok (.iinc 3 1, 3) := by decide +kernel
theorem kd_F_costOfPieces_39 : decode kc_F_costOfPieces 39 = .ok (.goto (-35), 3) := by decide +kernel
theorem kd_F_costOfPieces_42 : decode kc_F_costOfPieces 42 = .ok (.iload_n 2, 1) := by decide +kernel
theorem kd_F_costOfPieces_43 : decode kc_F_costOfPieces 43 = .ok (.ireturn, 1) := by decide +kernel
