/-! decode rows, by program -/
theorem kd_S_init_0 : decode kc_S_init 0 = .ok (.aload_n 0, 1) := by decide +kernel
theorem kd_S_init_1 : decode kc_S_init 1 = .ok (.invokespecial 3, 3) := by decide +kernel
theorem kd_S_init_4 : decode kc_S_init 4 = .ok (.aload_n 0, 1) := by decide +kernel
theorem kd_S_init_5 : decode kc_S_init 5 = .ok (.new 9, 3) := by decide +kernel
theorem kd_S_init_8 : decode kc_S_init 8 = .ok (.dup, 1) := by decide +kernel
theorem kd_S_init_9 : decode kc_S_init 9 = .ok (.invokespecial 11, 3) := by decide +kernel
theorem kd_S_init_12 : decode kc_S_init 12 = .ok (.putfield 12, 3) := by decide +kernel
theorem kd_S_init_15 : decode kc_S_init 15 = .ok (.aload_n 0, 1) := by decide +kernel
theorem kd_S_init_16 : decode kc_S_init 16 = .ok (.aload_n 0, 1) := by decide +kernel
theorem kd_S_init_17 : decode kc_S_init 17 = .ok (.getfield 12, 3) := by decide +kernel
theorem kd_S_init_20 : decode kc_S_init 20 = .ok (.getfield 18, 3) := by decide +kernel
theorem kd_S_init_23 : decode kc_S_init 23 = .ok (.putfield 22, 3) := by decide +kernel
theorem kd_S_init_26 : decode kc_S_init 26 = .ok (.aload_n 0, 1) := by decide +kernel
theorem kd_S_init_27 : decode kc_S_init 27 = .ok (.aload_n 0, 1) := by decide +kernel
theorem kd_S_init_28 : decode kc_S_init 28 = .ok (.getfield 12, 3) := by decide +kernel
theorem kd_S_init_31 : decode kc_S_init 31 = .ok (.getfield 23, 3) := by decide +kernel
theorem kd_S_init_34 : decode kc_S_init 34 = .ok (.putfield 27, 3) := by decide +kernel
theorem kd_S_init_37 : decode kc_S_init 37 = .ok (.aload_n 0, 1) := by decide +kernel
theorem kd_S_init_38 : decode kc_S_init 38 = .ok (.bipush 6, 2) := by decide +kernel
theorem kd_S_init_40 : decode kc_S_init 40 = .ok (.bipush 8, 2) := by decide +kernel
theorem kd_S_init_42 : decode kc_S_init 42 = .ok (.multianewarray 28 2, 4) := by decide +kernel
theorem kd_S_init_46 : decode kc_S_init 46 = .ok (.putfield 30, 3) := by decide +kernel
theorem kd_S_init_49 : decode kc_S_init 49 = .ok (.aload_n 0, 1) := by decide +kernel
theorem kd_S_init_50 : decode kc_S_init 50 = .ok (.bipush 6, 2) := by decide +kernel
theorem kd_S_init_52 : decode kc_S_init 52 = .ok (.newarray .int, 2) := by decide +kernel
theorem kd_S_init_54 : decode kc_S_init 54 = .ok (.putfield 33, 3) := by decide +kernel
theorem kd_S_init_57 : decode kc_S_init 57 = .ok (.aload_n 0, 1) := by decide +kernel
theorem kd_S_init_58 : decode kc_S_init 58 = .ok (.bipush 6, 2) := by decide +kernel
theorem kd_S_init_60 : decode kc_S_init 60 = .ok (.newarray .int, 2) := by decide +kernel
theorem kd_S_init_62 : decode kc_S_init 62 = .ok (.putfield 37, 3) := by decide +kernel
theorem kd_S_init_65 : decode kc_S_init 65 = .ok (.aload_n 0, 1) := by decide +kernel
theorem kd_S_init_66 : decode kc_S_init 66 = .ok (.bipush 6, 2) := by decide +kernel
theorem kd_S_init_68 : decode kc_S_init 68 = .ok (.newarray .int, 2) := by decide +kernel
theorem kd_S_init_70 : decode kc_S_init 70 = .ok (.putfield 40, 3) := by decide +kernel
theorem kd_S_init_73 : decode kc_S_init 73 = .ok (.aload_n 0, 1) := by decide +kernel
theorem kd_S_init_74 : decode kc_S_init 74 = .ok (.bipush 7, 2) := by decide +kernel
theorem kd_S_init_76 : decode kc_S_init 76 = .ok (.newarray .int, 2) := by decide +kernel
theorem kd_S_init_78 : decode kc_S_init 78 = .ok (.putfield 43, 3) := by decide +kernel
theorem kd_S_init_81 : decode kc_S_init 81 = .ok (.return_, 1) := by decide +kernel
theorem kd_S_readAllowed_0 : decode kc_S_readAllowed 0 = .ok (.iconst 0, 1) := by decide +kernel
theorem kd_S_readAllowed_1 : decode kc_S_readAllowed 1 = .ok (.istore_n 1, 1) := by decide +kernel
theorem kd_S_readAllowed_2 : decode kc_S_readAllowed 2 = .ok (.iload_n 1, 1) := by decide +kernel
theorem kd_S_readAllowed_3 : decode kc_S_readAllowed 3 = .ok (.aload_n 0, 1) := by decide +kernel
theorem kd_S_readAllowed_4 : decode kc_S_readAllowed 4 = .ok (.getfield 27, 3) := by decide +kernel
theorem kd_S_readAllowed_7 : decode kc_S_readAllowed 7 = .ok (.getfield 46, 3) := by decide +kernel
theorem kd_S_readAllowed_10 : decode kc_S_readAllowed 10 = .ok (.if_icmp .ge 74, 3) := by decide +kernel
theorem kd_S_readAllowed_13 : decode kc_S_readAllowed 13 = .ok (.iconst 0, 1) := by decide +kernel
theorem kd_S_readAllowed_14 : decode kc_S_readAllowed 14 = .ok (.istore_n 2, 1) := by decide +kernel
theorem kd_S_readAllowed_15 : decode kc_S_readAllowed 15 = .ok (.iconst 0, 1) := by decide +kernel
theorem kd_S_readAllowed_16 : decode kc_S_readAllowed 16 = .ok (.istore_n 3, 1) := by decide +kernel
theorem kd_S_readAllowed_17 : decode kc_S_readAllowed 17 = .ok (.iload_n 3, 1) := by decide +kernel
theorem kd_S_readAllowed_18 : decode kc_S_readAllowed 18 = .ok (.aload_n 0, 1) := by decide +kernel
theorem kd_S_readAllowed_19 : decode kc_S_readAllowed 19 = .ok (.getfield 22, 3) := by decide +kernel
theorem kd_S_readAllowed_22 : decode kc_S_readAllowed 22 = .ok (.getfield 52, 3) := by decide +kernel
theorem kd_S_readAllowed_25 : decode kc_S_readAllowed 25 = .ok (.if_icmp .ge 46, 3) := by decide +kernel
theorem kd_S_readAllowed_28 : decode kc_S_readAllowed 28 = .ok (.aload_n 0, 1) := by decide +kernel
theorem kd_S_readAllowed_29 : decode kc_S_readAllowed 29 = .ok (.getfield 22, 3) := by decide +kernel
theorem kd_S_readAllowed_32 : decode kc_S_readAllowed 32 = .ok (.getfield 55, 3) := by decide +kernel
theorem kd_S_readAllowed_35 : decode kc_S_readAllowed 35 = .ok (.iload_n 3, 1) := by decide +kernel
theorem kd_S_readAllowed_36 : decode kc_S_readAllowed 36 = .ok (.iaload, 1) := by decide +kernel
theorem kd_S_readAllowed_37 : decode kc_S_readAllowed 37 = .ok (.istore 4, 2) := by decide +kernel
theorem kd_S_readAllowed_39 : decode kc_S_readAllowed 39 = .ok (.aload_n 0, 1) := by decide +kernel
theorem kd_S_readAllowed_40 : decode kc_S_readAllowed 40 = .ok (.getfield 12, 3) := by decide +kernel
theorem kd_S_readAllowed_43 : decode kc_S_readAllowed 43 = .ok (.iload_n 1, 1) := by decide +kernel
theorem kd_S_readAllowed_44 : decode kc_S_readAllowed 44 = .ok (.iload 4, 2) := by decide +kernel
theorem kd_S_readAllowed_46 : decode kc_S_readAllowed 46 = .ok (.invokevirtual 58, 3) := by decide +kernel
theorem kd_S_readAllowed_49 : decode kc_S_readAllowed 49 = .ok (.ifCond .eq 16, 3) := by decide +kernel
theorem kd_S_readAllowed_52 : decode kc_S_readAllowed 52 = .ok (.aload_n 0, 1) := by decide +kernel
theorem kd_S_readAllowed_53 : decode kc_S_readAllowed 53 = .ok (.getfield 30, 3) := by decide +kernel
theorem kd_S_readAllowed_56 : decode kc_S_readAllowed 56 = .ok (.iload_n 1, 1) := by decide +kernel
theorem kd_S_readAllowed_57 : decode kc_S_readAllowed 57 = .ok (.aaload, 1) := by decide +kernel
theorem kd_S_readAllowed_58 : decode kc_S_readAllowed 58 = .ok (.iload_n 2, 1) := by decide +kernel
theorem kd_S_readAllowed_59 : decode kc_S_readAllowed 59 = .ok (.iload 4, 2) := by decide +kernel
theorem kd_S_readAllowed_61 : decode kc_S_readAllowed 61 = .ok (.iastore, 1) := by decide +kernel
theorem kd_S_readAllowed_62 : decode kc_S_readAllowed 62 = .ok (.iinc 2 1, 3) := by decide +kernel
theorem kd_S_readAllowed_65 : decode kc_S_readAllowed 65 = .ok (.iinc 3 1, 3) := by decide +kernel
theorem kd_S_readAllowed_68 : decode kc_S_readAllowed 68 = .ok (.goto (-51), 3) := by decide +kernel
theorem kd_S_readAllowed_71 : decode kc_S_readAllowed 71 = .ok (.aload_n 0, 1) := by decide +kernel
theorem kd_S_readAllowed_72 : decode kc_S_readAllowed 72 = .ok (.getfield 33, 3) := by decide +kernel
theorem kd_S_readAllowed_75 : decode kc_S_readAllowed 75 = .ok (.iload_n 1, 1) := by decide +kernel
theorem kd_S_readAllowed_76 : decode kc_S_readAllowed 76 = .ok (.iload_n 2, 1) := by decide +kernel
theorem kd_S_readAllowed_77 : decode kc_S_readAllowed 77 = .ok (.iastore, 1) := by decide +kernel
theorem kd_S_readAllowed_78 : decode kc_S_readAllowed 78 = .ok (.iinc 1 1, 3) := by decide +kernel
theorem kd_S_readAllowed_81 : decode kc_S_readAllowed 81 = .ok (.goto (-79), 3) := by decide +kernel
theorem kd_S_readAllowed_84 : decode kc_S_readAllowed 84 = .ok (.return_, 1) := by decide +kernel
theorem kd_S_allocateAtLeastCost_0 : decode kc_S_allocateAtLeastCost 0 = .ok (.aload_n 0, 1) := by decide +kernel
theorem kd_S_allocateAtLeastCost_1 : decode kc_S_allocateAtLeastCost 1 = .ok (.invokevirtual 74, 3) := by decide +kernel
theorem kd_S_allocateAtLeastCost_4 : decode kc_S_allocateAtLeastCost 4 = .ok (.aload_n 0, 1) := by decide +kernel
theorem kd_S_allocateAtLeastCost_5 : decode kc_S_allocateAtLeastCost 5 = .ok (.invokevirtual 77, 3) := by decide +kernel
theorem kd_S_allocateAtLeastCost_8 : decode kc_S_allocateAtLeastCost 8 = .ok (.aload_n 0, 1) := by decide +kernel
theorem kd_S_allocateAtLeastCost_9 : decode kc_S_allocateAtLeastCost 9 = .ok (.aload_n 0, 1) := by decide +kernel
theorem kd_S_allocateAtLeastCost_10 : decode kc_S_allocateAtLeastCost 10 = .ok (.getfield 12, 3) := by decide +kernel
theorem kd_S_allocateAtLeastCost_13 : decode kc_S_allocateAtLeastCost 13 = .ok (.invokevirtual 80, 3) := by decide +kernel
theorem kd_S_allocateAtLeastCost_16 : decode kc_S_allocateAtLeastCost 16 = .ok (.iconst 1, 1) := by decide +kernel
theorem kd_S_allocateAtLeastCost_17 : decode kc_S_allocateAtLeastCost 17 = .ok (.iadd, 1) := by decide +kernel
theorem kd_S_allocateAtLeastCost_18 : decode kc_S_allocateAtLeastCost 18 = .ok (.putfield 84, 3) := by decide +kernel
theorem kd_S_allocateAtLeastCost_21 : decode kc_S_allocateAtLeastCost 21 = .ok (.aload_n 0, 1) := by decide +kernel
theorem kd_S_allocateAtLeastCost_22 : decode kc_S_allocateAtLeastCost 22 = .ok (.getfield 12, 3) := by decide +kernel
theorem kd_S_allocateAtLeastCost_25 : decode kc_S_allocateAtLeastCost 25 = .ok (.invokevirtual 87, 3) := by decide +kernel
theorem kd_S_allocateAtLeastCost_28 : decode kc_S_allocateAtLeastCost 28 = .ok (.aload_n 0, 1) := by decide +kernel
theorem kd_S_allocateAtLeastCost_29 : decode kc_S_allocateAtLeastCost 29 = .ok (.iconst 0, 1) := by decide +kernel
theorem kd_S_allocateAtLeastCost_30 : decode kc_S_allocateAtLeastCost 30 = .ok (.iconst 0, 1) := by decide +kernel
theorem kd_S_allocateAtLeastCost_31 : decode kc_S_allocateAtLeastCost 31 = .ok (.invokestatic 90, 3) := by decide +kernel
theorem kd_S_allocateAtLeastCost_34 : decode kc_S_allocateAtLeastCost 34 = .ok (.iconst 0, 1) := by decide +kernel
theorem kd_S_allocateAtLeastCost_35 : decode kc_S_allocateAtLeastCost 35 = .ok (.istore_n 1, 1) := by decide +kernel
theorem kd_S_allocateAtLeastCost_36 : decode kc_S_allocateAtLeastCost 36 = .ok (.iload_n 1, 1) := by decide +kernel
theorem kd_S_allocateAtLeastCost_37 : decode kc_S_allocateAtLeastCost 37 = .ok (.aload_n 0, 1) := by decide +kernel
theorem kd_S_allocateAtLeastCost_38 : decode kc_S_allocateAtLeastCost 38 = .ok (.getfield 27, 3) := by decide +kernel
theorem kd_S_allocateAtLeastCost_41 : decode kc_S_allocateAtLeastCost 41 = .ok (.getfield 46, 3) := by decide +kernel
theorem kd_S_allocateAtLeastCost_44 : decode kc_S_allocateAtLeastCost 44 = .ok (.if_icmp .ge 21, 3) := by decide +kernel
theorem kd_S_allocateAtLeastCost_47 : decode kc_S_allocateAtLeastCost 47 = .ok (.aload_n 0, 1) := by decide +kernel
theorem kd_S_allocateAtLeastCost_48 : decode kc_S_allocateAtLeastCost 48 = .ok (.iload_n 1, 1) := by decide +kernel
theorem kd_S_allocateAtLeastCost_49 : decode kc_S_allocateAtLeastCost 49 = .ok (.aload_n 0, 1) := by decide +kernel
theorem kd_S_allocateAtLeastCost_50 : decode kc_S_allocateAtLeastCost 50 = .ok (.getfield 40, 3) := by decide +kernel
theorem kd_S_allocateAtLeastCost_53 : decode kc_S_allocateAtLeastCost 53 = .ok (.iload_n 1, 1) := by decide +kernel
theorem kd_S_allocateAtLeastCost_54 : decode kc_S_allocateAtLeastCost 54 = .ok (.iaload, 1) := by decide +kernel
theorem kd_S_allocateAtLeastCost_55 : decode kc_S_allocateAtLeastCost 55 = .ok (.invokevirtual 71, 3) := by decide +kernel
theorem kd_S_allocateAtLeastCost_58 : decode kc_S_allocateAtLeastCost 58 = .ok (.pop, 1) := by decide +kernel
theorem kd_S_allocateAtLeastCost_59 : decode kc_S_allocateAtLeastCost 59 = .ok (.iinc 1 1, 3) := by decide +kernel
theorem kd_S_allocateAtLeastCost_62 : decode kc_S_allocateAtLeastCost 62 = .ok (.goto (-26), 3) := by decide +kernel
theorem kd_S_allocateAtLeastCost_65 : decode kc_S_allocateAtLeastCost 65 = .ok (.return_, 1) := by decide +kernel
theorem kd_S_readBounds_0 : decode kc_S_readBounds 0 = .ok (.aload_n 0, 1) := by decide +kernel
theorem kd_S_readBounds_1 : decode kc_S_readBounds 1 = .ok (.getfield 43, 3) := by decide +kernel
theorem kd_S_readBounds_4 : decode kc_S_readBounds 4 = .ok (.aload_n 0, 1) := by decide +kernel
theorem kd_S_readBounds_5 : decode kc_S_readBounds 5 = .ok (.getfield 27, 3) := by decide +kernel
theorem kd_S_readBounds_8 : decode kc_S_readBounds 8 = .ok (.getfield 46, 3) := by decide +kernel
theorem kd_S_readBounds_11 : decode kc_S_readBounds 11 = .ok (.iconst 0, 1) := by decide +kernel
theorem kd_S_readBounds_12 : decode kc_S_readBounds 12 = .ok (.iastore, 1) := by decide +kernel
theorem kd_S_readBounds_13 : decode kc_S_readBounds 13 = .ok (.aload_n 0, 1) := by decide +kernel
theorem kd_S_readBounds_14 : decode kc_S_readBounds 14 = .ok (.getfield 27, 3) := by decide +kernel
theorem kd_S_readBounds_17 : decode kc_S_readBounds 17 = .ok (.getfield 46, 3) := by decide +kernel
theorem kd_S_readBounds_20 : decode kc_S_readBounds 20 = .ok (.iconst 1, 1) := by decide +kernel
theorem kd_S_readBounds_21 : decode kc_S_readBounds 21 = .ok (.isub, 1) := by decide +kernel
theorem kd_S_readBounds_22 : decode kc_S_readBounds 22 = .ok (.istore_n 1, 1) := by decide +kernel
theorem kd_S_readBounds_23 : decode kc_S_readBounds 23 = .ok (.iload_n 1, 1) := by decide +kernel
theorem kd_S_readBounds_24 : decode kc_S_readBounds 24 = .ok (.ifCond .lt 32, 3) := by decide +kernel
theorem kd_S_readBounds_27 : decode kc_S_readBounds 27 = .ok (.aload_n 0, 1) := by decide +kernel
theorem kd_S_readBounds_28 : decode kc_S_readBounds 28 = .ok (.getfield 43, 3) := by decide +kernel
theorem kd_S_readBounds_31 : decode kc_S_readBounds 31 = .ok (.iload_n 1, 1) := by decide +kernel
theorem kd_S_readBounds_32 : decode kc_S_readBounds 32 = .ok (.aload_n 0, 1) := by decide +kernel
theorem kd_S_readBounds_33 : decode kc_S_readBounds 33 = .ok (.getfield 43, 3) := by decide +kernel
theorem kd_S_readBounds_36 : decode kc_S_readBounds 36 = .ok (.iload_n 1, 1) := by decide +kernel
theorem kd_S_readBounds_37 : decode kc_S_readBounds 37 = .ok (.iconst 1, 1) := by decide +kernel
theorem kd_S_readBounds_38 : decode kc_S_readBounds 38 = .ok (.iadd, 1) := by decide +kernel
theorem kd_S_readBounds_39 : decode kc_S_readBounds 39 = .ok (.iaload, 1) := by decide +kernel
theorem kd_S_readBounds_40 : decode kc_S_readBounds 40 = .ok (.aload_n 0, 1) := by decide +kernel
theorem kd_S_readBounds_41 : decode kc_S_readBounds 41 = .ok (.getfield 12, 3) := by decide +kernel
theorem kd_S_readBounds_44 : decode kc_S_readBounds 44 = .ok (.iload_n 1, 1) := by decide +kernel
theorem kd_S_readBounds_45 : decode kc_S_readBounds 45 = .ok (.invokevirtual 94, 3) := by decide +kernel
theorem kd_S_readBounds_48 : decode kc_S_readBounds 48 = .ok (.iadd, 1) := by decide +kernel
theorem kd_S_readBounds_49 : decode kc_S_readBounds 49 = .ok (.iastore, 1) := by decide +kernel
theorem kd_S_readBounds_50 : decode kc_S_readBounds 50 = .ok (.iinc 1 (-1), 3) := by decide +kernel
theorem kd_S_readBounds_53 : decode kc_S_readBounds 53 = .ok (.goto (-30), 3) := by decide +kernel
theorem kd_S_readBounds_56 : decode kc_S_readBounds 56 = .ok (.return_, 1) := by decide +kernel
theorem kd_S_allocateByRule_0 : decode kc_S_allocateByRule 0 = .ok (.iconst 0, 1) := by decide +kernel
theorem kd_S_allocateByRule_1 : decode kc_S_allocateByRule 1 = .ok (.istore_n 1, 1) := by decide +kernel
theorem kd_S_allocateByRule_2 : decode kc_S_allocateByRule 2 = .ok (.iload_n 1, 1) := by decide +kernel
theorem kd_S_allocateByRule_3 : decode kc_S_allocateByRule 3 = .ok (.aload_n 0, 1) := by decide +kernel
theorem kd_S_allocateByRule_4 : decode kc_S_allocateByRule 4 = .ok (.getfield 27, 3) := by decide +kernel
theorem kd_S_allocateByRule_7 : decode kc_S_allocateByRule 7 = .ok (.getfield 46, 3) := by decide +kernel
theorem kd_S_allocateByRule_10 : decode kc_S_allocateByRule 10 = .ok (.if_icmp .ge 41, 3) := by decide +kernel
theorem kd_S_allocateByRule_13 : decode kc_S_allocateByRule 13 = .ok (.aload_n 0, 1) := by decide +kernel
theorem kd_S_allocateByRule_14 : decode kc_S_allocateByRule 14 = .ok (.getfield 27, 3) := by decide +kernel
theorem kd_S_allocateByRule_17 : decode kc_S_allocateByRule 17 = .ok (.getfield 62, 3) := by decide +kernel
theorem kd_S_allocateByRule_20 : decode kc_S_allocateByRule 20 = .ok (.iload_n 1, 1) := by decide +kernel
theorem kd_S_allocateByRule_21 : decode kc_S_allocateByRule 21 = .ok (.aaload, 1) := by decide +kernel
theorem kd_S_allocateByRule_22 : decode kc_S_allocateByRule 22 = .ok (.iconst 2, 1) := by decide +kernel
theorem kd_S_allocateByRule_23 : decode kc_S_allocateByRule 23 = .ok (.iaload, 1) := by decide +kernel
theorem kd_S_allocateByRule_24 : decode kc_S_allocateByRule 24 = .ok (.aload_n 0, 1) := by decide +kernel
theorem kd_S_allocateByRule_25 : decode kc_S_allocateByRule 25 = .ok (.getfield 33, 3) := by decide +kernel
theorem kd_S_allocateByRule_28 : decode kc_S_allocateByRule 28 = .ok (.iload_n 1, 1) := by decide +kernel
theorem kd_S_allocateByRule_29 : decode kc_S_allocateByRule 29 = .ok (.iaload, 1) := by decide +kernel
theorem kd_S_allocateByRule_30 : decode kc_S_allocateByRule 30 = .ok (.invokestatic 65, 3) := by decide +kernel
theorem kd_S_allocateByRule_33 : decode kc_S_allocateByRule 33 = .ok (.istore_n 2, 1) := by decide +kernel
theorem kd_S_allocateByRule_34 : decode kc_S_allocateByRule 34 = .ok (.aload_n 0, 1) := by decide +kernel
theorem kd_S_allocateByRule_35 : decode kc_S_allocateByRule 35 = .ok (.iload_n 1, 1) := by decide +kernel
theorem kd_S_allocateByRule_36 : decode kc_S_allocateByRule 36 = .ok (.iconst 1, 1) := by decide +kernel
theorem kd_S_allocateByRule_37 : decode kc_S_allocateByRule 37 = .ok (.iload_n 2, 1) := by decide +kernel
theorem kd_S_allocateByRule_38 : decode kc_S_allocateByRule 38 = .ok (.ishl, 1) := by decide +kernel
theorem kd_S_allocateByRule_39 : decode kc_S_allocateByRule 39 = .ok (.iconst 1, 1) := by decide +kernel
theorem kd_S_allocateByRule_40 : decode kc_S_allocateByRule 40 = .ok (.isub, 1) := by decide +kernel
theorem kd_S_allocateByRule_41 : decode kc_S_allocateByRule 41 = .ok (.invokevirtual 71, 3) := by decide +kernel
theorem kd_S_allocateByRule_44 : decode kc_S_allocateByRule 44 = .ok (.pop, 1) := by decide +kernel
theorem kd_S_allocateByRule_45 : decode kc_S_allocateByRule 45 = .ok (.iinc 1 1, 3) := by decide +kernel
theorem kd_S_allocateByRule_48 : decode kc_S_allocateByRule 48 = .ok (.goto (-46), 3) := by decide +kernel
theorem kd_S_allocateByRule_51 : decode kc_S_allocateByRule 51 = .ok (.return_, 1) := by decide +kernel
theorem kd_S_take_0 : decode kc_S_take 0 = .ok (.aload_n 0, 1) := by decide +kernel
theorem kd_S_take_1 : decode kc_S_take 1 = .ok (.getfield 27, 3) := by decide +kernel
theorem kd_S_take_4 : decode kc_S_take 4 = .ok (.getfield 116, 3) := by decide +kernel
theorem kd_S_take_7 : decode kc_S_take 7 = .ok (.iload_n 1, 1) := by decide +kernel
theorem kd_S_take_8 : decode kc_S_take 8 = .ok (.iaload, 1) := by decide +kernel
theorem kd_S_take_9 : decode kc_S_take 9 = .ok (.istore_n 3, 1) := by decide +kernel
theorem kd_S_take_10 : decode kc_S_take 10 = .ok (.iconst 0, 1) := by decide +kernel
theorem kd_S_take_11 : decode kc_S_take 11 = .ok (.istore 4, 2) := by decide +kernel
theorem kd_S_take_13 : decode kc_S_take 13 = .ok (.iconst 0, 1) := by decide +kernel
theorem kd_S_take_14 : decode kc_S_take 14 = .ok (.istore 5, 2) := by decide +kernel
theorem kd_S_take_16 : decode kc_S_take 16 = .ok (.iload 5, 2) := by decide +kernel
theorem kd_S_take_18 : decode kc_S_take 18 = .ok (.aload_n 0, 1) := by decide +kernel
theorem kd_S_take_19 : decode kc_S_take 19 = .ok (.getfield 33, 3) := by decide +kernel
theorem kd_S_take_22 : decode kc_S_take 22 = .ok (.iload_n 1, 1) := by decide +kernel
theorem kd_S_take_23 : decode kc_S_take 23 = .ok (.iaload, 1) := by decide +kernel
theorem kd_S_take_24 : decode kc_S_take 24 = .ok (.if_icmp .ge 92, 3) := by decide +kernel
theorem kd_S_take_27 : decode kc_S_take 27 = .ok (.iload_n 2, 1) := by decide +kernel
theorem kd_S_take_28 : decode kc_S_take 28 = .ok (.iload 5, 2) := by decide +kernel
theorem kd_S_take_30 : decode kc_S_take 30 = .ok (.ishr, 1) := by decide +kernel
theorem kd_S_take_31 : decode kc_S_take 31 = .ok (.iconst 1, 1) := by decide +kernel
theorem kd_S_take_32 : decode kc_S_take 32 = .ok (.iand, 1) := by decide +kernel
theorem kd_S_take_33 : decode kc_S_take 33 = .ok (.iconst 1, 1) := by decide +kernel
theorem kd_S_take_34 : decode kc_S_take 34 = .ok (.if_icmp .ne 76, 3) := by decide +kernel
theorem kd_S_take_37 : decode kc_S_take 37 = .ok (.aload_n 0, 1) := by decide +kernel
theorem kd_S_take_38 : decode kc_S_take 38 = .ok (.getfield 30, 3) := by decide +kernel
theorem kd_S_take_41 : decode kc_S_take 41 = .ok (.iload_n 1, 1) := by decide +kernel
theorem kd_S_take_42 : decode kc_S_take 42 = .ok (.aaload, 1) := by decide +kernel
theorem kd_S_take_43 : decode kc_S_take 43 = .ok (.iload 5, 2) := by decide +kernel
theorem kd_S_take_45 : decode kc_S_take 45 = .ok (.iaload, 1) := by decide +kernel
theorem kd_S_take_46 : decode kc_S_take 46 = .ok (.istore 6, 2) := by decide +kernel
theorem kd_S_take_48 : decode kc_S_take 48 = .ok (.iload_n 3, 1) := by decide +kernel
theorem kd_S_take_49 : decode kc_S_take 49 = .ok (.aload_n 0, 1) := by decide +kernel
theorem kd_S_take_50 : decode kc_S_take 50 = .ok (.getfield 22, 3) := by decide +kernel
theorem kd_S_take_53 : decode kc_S_take 53 = .ok (.getfield 119, 3) := by decide +kernel
theorem kd_S_take_56 : decode kc_S_take 56 = .ok (.iload 6, 2) := by decide +kernel
theorem kd_S_take_58 : decode kc_S_take 58 = .ok (.iaload, 1) := by decide +kernel
theorem kd_S_take_59 : decode kc_S_take 59 = .ok (.invokestatic 65, 3) := by decide +kernel
theorem kd_S_take_62 : decode kc_S_take 62 = .ok (.aload_n 0, 1) := by decide +kernel
theorem kd_S_take_63 : decode kc_S_take 63 = .ok (.getfield 27, 3) := by decide +kernel
theorem kd_S_take_66 : decode kc_S_take 66 = .ok (.getfield 62, 3) := by decide +kernel
theorem kd_S_take_69 : decode kc_S_take 69 = .ok (.iload_n 1, 1) := by decide +kernel
theorem kd_S_take_70 : decode kc_S_take 70 = .ok (.aaload, 1) := by decide +kernel
theorem kd_S_take_71 : decode kc_S_take 71 = .ok (.iconst 1, 1) := by decide +kernel
theorem kd_S_take_72 : decode kc_S_take 72 = .ok (.iaload, 1) := by decide +kernel
theorem kd_S_take_73 : decode kc_S_take 73 = .ok (.invokestatic 122, 3) := by decide +kernel
theorem kd_S_take_76 : decode kc_S_take 76 = .ok (.istore 7, 2) := by decide +kernel
theorem kd_S_take_78 : decode kc_S_take 78 = .ok (.aload_n 0, 1) := by decide +kernel
theorem kd_S_take_79 : decode kc_S_take 79 = .ok (.getfield 12, 3) := by decide +kernel
theorem kd_S_take_82 : decode kc_S_take 82 = .ok (.iload_n 1, 1) := by decide +kernel
theorem kd_S_take_83 : decode kc_S_take 83 = .ok (.iload 6, 2) := by decide +kernel
theorem kd_S_take_85 : decode kc_S_take 85 = .ok (.iload 7, 2) := by decide +kernel
theorem kd_S_take_87 : decode kc_S_take 87 = .ok (.invokevirtual 125, 3) := by decide +kernel
theorem kd_S_take_90 : decode kc_S_take 90 = .ok (.iload_n 3, 1) := by decide +kernel
theorem kd_S_take_91 : decode kc_S_take 91 = .ok (.iload 7, 2) := by decide +kernel
theorem kd_S_take_93 : decode kc_S_take 93 = .ok (.isub, 1) := by decide +kernel
theorem kd_S_take_94 : decode kc_S_take 94 = .ok (.istore_n 3, 1) := by decide +kernel
theorem kd_S_take_95 : decode kc_S_take 95 = .ok (.iload 4, 2) := by decide +kernel
theorem kd_S_take_97 : decode kc_S_take 97 = .ok (.iload 7, 2) := by decide +kernel
theorem kd_S_take_99 : decode kc_S_take 99 = .ok (.ifCond .le 7, 3) := by decide +kernel
theorem kd_S_take_102 : decode kc_S_take 102 = .ok (.iconst 1, 1) := by decide +kernel
theorem kd_S_take_103 : decode kc_S_take 103 = .ok (.goto 4, 3) := by decide +kernel
theorem kd_S_take_106 : decode kc_S_take 106 = .ok (.iconst 0, 1) := by decide +kernel
theorem kd_S_take_107 : decode kc_S_take 107 = .ok (.iadd, 1) := by decide +kernel
theorem kd_S_take_108 : decode kc_S_take 108 = .ok (.istore 4, 2) := by decide +kernel
theorem kd_S_take_110 : decode kc_S_take 110 = .ok (.iinc 5 1, 3) := by decide +kernel
theorem kd_S_take_113 : decode kc_S_take 113 = .ok (.goto (-97), 3) := by decide +kernel
theorem kd_S_take_116 : decode kc_S_take 116 = .ok (.iload_n 3, 1) := by decide +kernel
theorem kd_S_take_117 : decode kc_S_take 117 = .ok (.ifCond .le 28, 3) := by decide +kernel
theorem kd_S_take_120 : decode kc_S_take 120 = .ok (.aload_n 0, 1) := by decide +kernel
theorem kd_S_take_121 : decode kc_S_take 121 = .ok (.getfield 27, 3) := by decide +kernel
theorem kd_S_take_124 : decode kc_S_take 124 = .ok (.getfield 62, 3) := by decide +kernel
theorem kd_S_take_127 : decode kc_S_take 127 = .ok (.iload_n 1, 1) := by decide +kernel
theorem kd_S_take_128 : decode kc_S_take 128 = .ok (.aaload, 1) := by decide +kernel
theorem kd_S_take_129 : decode kc_S_take 129 = .ok (.iconst 3, 1) := by decide +kernel
theorem kd_S_take_130 : decode kc_S_take 130 = .ok (.iaload, 1) := by decide +kernel
theorem kd_S_take_131 : decode kc_S_take 131 = .ok (.iconst 1, 1) := by decide +kernel
theorem kd_S_take_132 : decode kc_S_take 132 = .ok (.if_icmp .ne 13, 3) := by decide +kernel
theorem kd_S_take_135 : decode kc_S_take 135 = .ok (.aload_n 0, 1) := by decide +kernel
theorem kd_S_take_136 : decode kc_S_take 136 = .ok (.getfield 12, 3) := by decide +kernel
theorem kd_S_take_139 : decode kc_S_take 139 = .ok (.iload_n 1, 1) := by decide +kernel
theorem kd_S_take_140 : decode kc_S_take 140 = .ok (.invokevirtual 113, 3) := by decide +kernel
theorem kd_S_take_143 : decode kc_S_take 143 = .ok (.iconst 0, 1) := by decide +kernel
theorem kd_S_take_144 : decode kc_S_take 144 = .ok (.ireturn, 1) := by decide +kernel
theorem kd_S_take_145 : decode kc_S_take 145 = .ok (.iload 4, 2) := by decide +kernel
theorem kd_S_take_147 : decode kc_S_take 147 = .ok (.ireturn, 1) := by decide +kernel
theorem kd_S_roundDown_0 : decode kc_S_roundDown 0 = .ok (.iload_n 1, 1) := by decide +kernel
theorem kd_S_roundDown_1 : decode kc_S_roundDown 1 = .ok (.iconst 1, 1) := by decide +kernel
theorem kd_S_roundDown_2 : decode kc_S_roundDown 2 = .ok (.if_icmp .le 11, 3) := by decide +kernel
theorem kd_S_roundDown_5 : decode kc_S_roundDown 5 = .ok (.iload_n 0, 1) := by decide +kernel
theorem kd_S_roundDown_6 : decode kc_S_roundDown 6 = .ok (.iload_n 0, 1) := by decide +kernel
theorem kd_S_roundDown_7 : decode kc_S_roundDown 7 = .ok (.iload_n 1, 1) := by decide +kernel
theorem kd_S_roundDown_8 : decode kc_S_roundDown 8 = .ok (.irem, 1) := by decide +kernel
theorem kd_S_roundDown_9 : decode kc_S_roundDown 9 = .ok (.isub, 1) := by decide +kernel
theorem kd_S_roundDown_10 : decode kc_S_roundDown 10 = .ok (.goto 4, 3) := by decide +kernel
theorem kd_S_roundDown_13 : decode kc_S_roundDown 13 = .ok (.iload_n 0, 1) := by decide +kernel
theorem kd_S_roundDown_14 : decode kc_S_roundDown 14 = .ok (.ireturn, 1) := by decide +kernel
theorem kd_S_explore_0 : decode kc_S_explore 0 = .ok (.iload_n 1, 1) := by decide +kernel
theorem kd_S_explore_1 : decode kc_S_explore 1 = .ok (.aload_n 0, 1) := by decide +kernel
theorem kd_S_explore_2 : decode kc_S_explore 2 = .ok (.getfield 27, 3) := by decide +kernel
theorem kd_S_explore_5 : decode kc_S_explore 5 = .ok (.getfield 46, 3) := by decide +kernel
theorem kd_S_explore_8 : decode kc_S_explore 8 = .ok (.if_icmp .lt 9, 3) := by decide +kernel
theorem kd_S_explore_11 : decode kc_S_explore 11 = .ok (.aload_n 0, 1) := by decide +kernel
theorem kd_S_explore_12 : decode kc_S_explore 12 = .ok (.iload_n 2, 1) := by decide +kernel
theorem kd_S_explore_13 : decode kc_S_explore 13 = .ok (.invokevirtual 98, 3) := by decide +kernel
theorem kd_S_explore_16 : decode kc_S_explore 16 = .ok (.return_, 1) := by decide +kernel
theorem kd_S_explore_17 : decode kc_S_explore 17 = .ok (.iconst 1, 1) := by decide +kernel
theorem kd_S_explore_18 : decode kc_S_explore 18 = .ok (.aload_n 0, 1) := by decide +kernel
theorem kd_S_explore_19 : decode kc_S_explore 19 = .ok (.getfield 33, 3) := by decide +kernel
theorem kd_S_explore_22 : decode kc_S_explore 22 = .ok (.iload_n 1, 1) := by decide +kernel
theorem kd_S_explore_23 : decode kc_S_explore 23 = .ok (.iaload, 1) := by decide +kernel
theorem kd_S_explore_24 : decode kc_S_explore 24 = .ok (.ishl, 1) := by decide +kernel
theorem kd_S_explore_25 : decode kc_S_explore 25 = .ok (.istore_n 3, 1) := by decide +kernel
theorem kd_S_explore_26 : decode kc_S_explore 26 = .ok (.iconst 0, 1) := by decide +kernel
theorem kd_S_explore_27 : decode kc_S_explore 27 = .ok (.istore 4, 2) := by decide +kernel
theorem kd_S_explore_29 : decode kc_S_explore 29 = .ok (.iload 4, 2) := by decide +kernel
theorem kd_S_explore_31 : decode kc_S_explore 31 = .ok (.iload_n 3, 1) := by decide +kernel
theorem kd_S_explore_32 : decode kc_S_explore 32 = .ok (.if_icmp .ge 75, 3) := by decide +kernel
theorem kd_S_explore_35 : decode kc_S_explore 35 = .ok (.iload 4, 2) := by decide +kernel
theorem kd_S_explore_37 : decode kc_S_explore 37 = .ok (.invokestatic 102, 3) := by decide +kernel
theorem kd_S_explore_40 : decode kc_S_explore 40 = .ok (.istore 5, 2) := by decide +kernel
theorem kd_S_explore_42 : decode kc_S_explore 42 = .ok (.iload 5, 2) := by decide +kernel
theorem kd_S_explore_44 : decode kc_S_explore 44 = .ok (.aload_n 0, 1) := by decide +kernel
theorem kd_S_explore_45 : decode kc_S_explore 45 = .ok (.getfield 27, 3) := by decide +kernel
theorem kd_S_explore_48 : decode kc_S_explore 48 = .ok (.getfield 62, 3) := by decide +kernel
theorem kd_S_explore_51 : decode kc_S_explore 51 = .ok (.iload_n 1, 1) := by decide +kernel
theorem kd_S_explore_52 : decode kc_S_explore 52 = .ok (.aaload, 1) := by decide +kernel
theorem kd_S_explore_53 : decode kc_S_explore 53 = .ok (.iconst 2, 1) := by decide +kernel
theorem kd_S_explore_54 : decode kc_S_explore 54 = .ok (.iaload, 1) := by decide +kernel
theorem kd_S_explore_55 : decode kc_S_explore 55 = .ok (.if_icmp .gt 46, 3) := by decide +kernel
theorem kd_S_explore_58 : decode kc_S_explore 58 = .ok (.aload_n 0, 1) := by decide +kernel
theorem kd_S_explore_59 : decode kc_S_explore 59 = .ok (.getfield 37, 3) := by decide +kernel
theorem kd_S_explore_62 : decode kc_S_explore 62 = .ok (.iload_n 1, 1) := by decide +kernel
theorem kd_S_explore_63 : decode kc_S_explore 63 = .ok (.iload 4, 2) := by decide +kernel
theorem kd_S_explore_65 : decode kc_S_explore 65 = .ok (.iastore, 1) := by decide +kernel
theorem kd_S_explore_66 : decode kc_S_explore 66 = .ok (.aload_n 0, 1) := by decide +kernel
theorem kd_S_explore_67 : decode kc_S_explore 67 = .ok (.iload_n 1, 1) := by decide +kernel
theorem kd_S_explore_68 : decode kc_S_explore 68 = .ok (.iload 4, 2) := by decide +kernel
theorem kd_S_explore_70 : decode kc_S_explore 70 = .ok (.invokevirtual 71, 3) := by decide +kernel
theorem kd_S_explore_73 : decode kc_S_explore 73 = .ok (.iload 5, 2) := by decide +kernel
theorem kd_S_explore_75 : decode kc_S_explore 75 = .ok (.if_icmp .ne 18, 3) := by decide +kernel
theorem kd_S_explore_78 : decode kc_S_explore 78 = .ok (.aload_n 0, 1) := by decide +kernel
theorem kd_S_explore_79 : decode kc_S_explore 79 = .ok (.iload_n 1, 1) := by decide +kernel
theorem kd_S_explore_80 : decode kc_S_explore 80 = .ok (.iload_n 2, 1) := by decide +kernel
theorem kd_S_explore_81 : decode kc_S_explore 81 = .ok (.aload_n 0, 1) := by decide +kernel
theorem kd_S_explore_82 : decode kc_S_explore 82 = .ok (.getfield 12, 3) := by decide +kernel
theorem kd_S_explore_85 : decode kc_S_explore 85 = .ok (.iload_n 1, 1) := by decide +kernel
theorem kd_S_explore_86 : decode kc_S_explore 86 = .ok (.invokevirtual 107, 3) := by decide +kernel
theorem kd_S_explore_89 : decode kc_S_explore 89 = .ok (.iadd, 1) := by decide +kernel
theorem kd_S_explore_90 : decode kc_S_explore 90 = .ok (.invokestatic 110, 3) := by decide +kernel
theorem kd_S_explore_93 : decode kc_S_explore 93 = .ok (.aload_n 0, 1) := by decide +kernel
theorem kd_S_explore_94 : decode kc_S_explore 94 = .ok (.getfield 12, 3) := by decide +kernel
theorem kd_S_explore_97 : decode kc_S_explore 97 = .ok (.iload_n 1, 1) := by decide +kernel
theorem kd_S_explore_98 : decode kc_S_explore 98 = .ok (.invokevirtual 113, 3) := by decide +kernel
theorem kd_S_explore_101 : decode kc_S_explore 101 = .ok (.iinc 4 1, 3) := by decide +kernel
theorem kd_S_explore_104 : decode kc_S_explore 104 = .ok (.goto (-75), 3) := by decide +kernel
theorem kd_S_explore_107 : decode kc_S_explore 107 = .ok (.return_, 1) := by decide +kernel
theorem kd_S_keep_0 : decode kc_S_keep 0 = .ok (.aload_n 0, 1) := by decide +kernel
theorem kd_S_keep_1 : decode kc_S_keep 1 = .ok (.iload_n 1, 1) := by decide +kernel
theorem kd_S_keep_2 : decode kc_S_keep 2 = .ok (.putfield 84, 3) := by decide +kernel
theorem kd_S_keep_5 : decode kc_S_keep 5 = .ok (.iconst 0, 1) := by decide +kernel
theorem kd_S_keep_6 : decode kc_S_keep 6 = .ok (.istore_n 2, 1) := by decide +kernel
theorem kd_S_keep_7 : decode kc_S_keep 7 = .ok (.iload_n 2, 1) := by decide +kernel
theorem kd_S_keep_8 : decode kc_S_keep 8 = .ok (.aload_n 0, 1) := by decide +kernel
theorem kd_S_keep_9 : decode kc_S_keep 9 = .ok (.getfield 27, 3) := by decide +kernel
theorem kd_S_keep_12 : decode kc_S_keep 12 = .ok (.getfield 46, 3) := by decide +kernel
theorem kd_S_keep_15 : decode kc_S_keep 15 = .ok (.if_icmp .ge 21, 3) := by decide +kernel
theorem kd_S_keep_18 : decode kc_S_keep 18 = .ok (.aload_n 0, 1) := by decide +kernel
theorem kd_S_keep_19 : decode kc_S_keep 19 = .ok (.getfield 40, 3) := by decide +kernel
theorem kd_S_keep_22 : decode kc_S_keep 22 = .ok (.iload_n 2, 1) := by decide +kernel
theorem kd_S_keep_23 : decode kc_S_keep 23 = .ok (.aload_n 0, 1) := by decide +kernel
theorem kd_S_keep_24 : decode kc_S_keep 24 = .ok (.getfield 37, 3) := by decide +kernel
theorem kd_S_keep_27 : decode kc_S_keep 27 = .ok (.iload_n 2, 1) := by decide +kernel
theorem kd_S_keep_28 : decode kc_S_keep 28 = .ok (.iaload, 1) := by decide +kernel
theorem kd_S_keep_29 : decode kc_S_keep 29 = .ok (.iastore, 1) := by decide +kernel
theorem kd_S_keep_30 : decode kc_S_keep 30 = .ok (.iinc 2 1, 3) := by decide +kernel
theorem kd_S_keep_33 : decode kc_S_keep 33 = .ok (.goto (-26), 3) := by decide +kernel
theorem kd_S_keep_36 : decode kc_S_keep 36 = .ok (.return_, 1) := by decide +kernel
theorem kd_S_exploreBehind_0 : decode kc_S_exploreBehind 0 = .ok (.iload_n 2, 1) := by decide +kernel
theorem kd_S_exploreBehind_1 : decode kc_S_exploreBehind 1 = .ok (.aload_n 0, 1) := by decide +kernel
theorem kd_S_exploreBehind_2 : decode kc_S_exploreBehind 2 = .ok (.getfield 43, 3) := by decide +kernel
theorem kd_S_exploreBehind_5 : decode kc_S_exploreBehind 5 = .ok (.iload_n 1, 1) := by decide +kernel
theorem kd_S_exploreBehind_6 : decode kc_S_exploreBehind 6 = .ok (.iconst 1, 1) := by decide +kernel
theorem kd_S_exploreBehind_7 : decode kc_S_exploreBehind 7 = .ok (.iadd, 1) := by decide +kernel
theorem kd_S_exploreBehind_8 : decode kc_S_exploreBehind 8 = .ok (.iaload, 1) := by decide +kernel
theorem kd_S_exploreBehind_9 : decode kc_S_exploreBehind 9 = .ok (.iadd, 1) := by decide +kernel
theorem kd_S_exploreBehind_10 : decode kc_S_exploreBehind 10 = .ok (.aload_n 0, 1) := by decide +kernel
theorem kd_S_exploreBehind_11 : decode kc_S_exploreBehind 11 = .ok (.getfield 84, 3) := by decide +kernel
theorem kd_S_exploreBehind_14 : decode kc_S_exploreBehind 14 = .ok (.if_icmp .ge 11, 3) := by decide +kernel
theorem kd_S_exploreBehind_17 : decode kc_S_exploreBehind 17 = .ok (.aload_n 0, 1) := by decide +kernel
theorem kd_S_exploreBehind_18 : decode kc_S_exploreBehind 18 = .ok (.iload_n 1, 1) := by decide +kernel
theorem kd_S_exploreBehind_19 : decode kc_S_exploreBehind 19 = .ok (.iconst 1, 1) := by decide +kernel
theorem kd_S_exploreBehind_20 : decode kc_S_exploreBehind 20 = .ok (.iadd, 1) := by decide +kernel
theorem kd_S_exploreBehind_21 : decode kc_S_exploreBehind 21 = .ok (.iload_n 2, 1) := by decide +kernel
theorem kd_S_exploreBehind_22 : decode kc_S_exploreBehind 22 = .ok (.invokestatic 90, 3) := by decide +kernel
theorem kd_S_exploreBehind_25 : decode kc_S_exploreBehind 25 = .ok (.return_, 1) := by decide +kernel
