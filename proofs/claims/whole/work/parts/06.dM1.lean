/-! decode rows, by program -/
theorem kd_M_init_0 : decode kc_M_init 0 = .ok (.aload_n 0, 1) := by decide +kernel
theorem kd_M_init_1 : decode kc_M_init 1 = .ok (.invokespecial 1, 3) := by decide +kernel
theorem kd_M_init_4 : decode kc_M_init 4 = .ok (.aload_n 0, 1) := by decide +kernel
theorem kd_M_init_5 : decode kc_M_init 5 = .ok (.bipush 8, 2) := by decide +kernel
theorem kd_M_init_7 : decode kc_M_init 7 = .ok (.newarray .int, 2) := by decide +kernel
theorem kd_M_init_9 : decode kc_M_init 9 = .ok (.putfield 7, 3) := by decide +kernel
theorem kd_M_init_12 : decode kc_M_init 12 = .ok (.aload_n 0, 1) := by decide +kernel
theorem kd_M_init_13 : decode kc_M_init 13 = .ok (.bipush 8, 2) := by decide +kernel
theorem kd_M_init_15 : decode kc_M_init 15 = .ok (.newarray .int, 2) := by decide +kernel
theorem kd_M_init_17 : decode kc_M_init 17 = .ok (.putfield 13, 3) := by decide +kernel
theorem kd_M_init_20 : decode kc_M_init 20 = .ok (.aload_n 0, 1) := by decide +kernel
theorem kd_M_init_21 : decode kc_M_init 21 = .ok (.bipush 8, 2) := by decide +kernel
theorem kd_M_init_23 : decode kc_M_init 23 = .ok (.newarray .int, 2) := by decide +kernel
theorem kd_M_init_25 : decode kc_M_init 25 = .ok (.putfield 16, 3) := by decide +kernel
theorem kd_M_init_28 : decode kc_M_init 28 = .ok (.aload_n 0, 1) := by decide +kernel
theorem kd_M_init_29 : decode kc_M_init 29 = .ok (.bipush 8, 2) := by decide +kernel
theorem kd_M_init_31 : decode kc_M_init 31 = .ok (.newarray .int, 2) := by decide +kernel
theorem kd_M_init_33 : decode kc_M_init 33 = .ok (.putfield 19, 3) := by decide +kernel
theorem kd_M_init_36 : decode kc_M_init 36 = .ok (.aload_n 0, 1) := by decide +kernel
theorem kd_M_init_37 : decode kc_M_init 37 = .ok (.bipush 6, 2) := by decide +kernel
theorem kd_M_init_39 : decode kc_M_init 39 = .ok (.newarray .int, 2) := by decide +kernel
theorem kd_M_init_41 : decode kc_M_init 41 = .ok (.putfield 22, 3) := by decide +kernel
theorem kd_M_init_44 : decode kc_M_init 44 = .ok (.aload_n 0, 1) := by decide +kernel
theorem kd_M_init_45 : decode kc_M_init 45 = .ok (.bipush 6, 2) := by decide +kernel
theorem kd_M_init_47 : decode kc_M_init 47 = .ok (.newarray .int, 2) := by decide +kernel
theorem kd_M_init_49 : decode kc_M_init 49 = .ok (.putfield 25, 3) := by decide +kernel
theorem kd_M_init_52 : decode kc_M_init 52 = .ok (.aload_n 0, 1) := by decide +kernel
theorem kd_M_init_53 : decode kc_M_init 53 = .ok (.bipush 24, 2) := by decide +kernel
theorem kd_M_init_55 : decode kc_M_init 55 = .ok (.newarray .int, 2) := by decide +kernel
theorem kd_M_init_57 : decode kc_M_init 57 = .ok (.putfield 28, 3) := by decide +kernel
theorem kd_M_init_60 : decode kc_M_init 60 = .ok (.aload_n 0, 1) := by decide +kernel
theorem kd_M_init_61 : decode kc_M_init 61 = .ok (.bipush 48, 2) := by decide +kernel
theorem kd_M_init_63 : decode kc_M_init 63 = .ok (.newarray .int, 2) := by decide +kernel
theorem kd_M_init_65 : decode kc_M_init 65 = .ok (.putfield 31, 3) := by decide +kernel
theorem kd_M_init_68 : decode kc_M_init 68 = .ok (.aload_n 0, 1) := by decide +kernel
theorem kd_M_init_69 : decode kc_M_init 69 = .ok (.bipush 48, 2) := by decide +kernel
theorem kd_M_init_71 : decode kc_M_init 71 = .ok (.newarray .boolean, 2) := by decide +kernel
theorem kd_M_init_73 : decode kc_M_init 73 = .ok (.putfield 34, 3) := by decide +kernel
theorem kd_M_init_76 : decode kc_M_init 76 = .ok (.aload_n 0, 1) := by decide +kernel
theorem kd_M_init_77 : decode kc_M_init 77 = .ok (.bipush 48, 2) := by decide +kernel
theorem kd_M_init_79 : decode kc_M_init 79 = .ok (.newarray .int, 2) := by decide +kernel
theorem kd_M_init_81 : decode kc_M_init 81 = .ok (.putfield 38, 3) := by decide +kernel
theorem kd_M_init_84 : decode kc_M_init 84 = .ok (.aload_n 0, 1) := by decide +kernel
theorem kd_M_init_85 : decode kc_M_init 85 = .ok (.bipush 48, 2) := by decide +kernel
theorem kd_M_init_87 : decode kc_M_init 87 = .ok (.newarray .int, 2) := by decide +kernel
theorem kd_M_init_89 : decode kc_M_init 89 = .ok (.putfield 41, 3) := by decide +kernel
theorem kd_M_init_92 : decode kc_M_init 92 = .ok (.aload_n 0, 1) := by decide +kernel
theorem kd_M_init_93 : decode kc_M_init 93 = .ok (.bipush 6, 2) := by decide +kernel
theorem kd_M_init_95 : decode kc_M_init 95 = .ok (.newarray .int, 2) := by decide +kernel
theorem kd_M_init_97 : decode kc_M_init 97 = .ok (.putfield 44, 3) := by decide +kernel
theorem kd_M_init_100 : decode kc_M_init 100 = .ok (.aload_n 0, 1) := by decide +kernel
theorem kd_M_init_101 : decode kc_M_init 101 = .ok (.bipush 6, 2) := by decide +kernel
theorem kd_M_init_103 : decode kc_M_init 103 = .ok (.newarray .int, 2) := by decide +kernel
theorem kd_M_init_105 : decode kc_M_init 105 = .ok (.putfield 47, 3) := by decide +kernel
theorem kd_M_init_108 : decode kc_M_init 108 = .ok (.aload_n 0, 1) := by decide +kernel
theorem kd_M_init_109 : decode kc_M_init 109 = .ok (.bipush 6, 2) := by decide +kernel
theorem kd_M_init_111 : decode kc_M_init 111 = .ok (.newarray .int, 2) := by decide +kernel
theorem kd_M_init_113 : decode kc_M_init 113 = .ok (.putfield 50, 3) := by decide +kernel
theorem kd_M_init_116 : decode kc_M_init 116 = .ok (.aload_n 0, 1) := by decide +kernel
theorem kd_M_init_117 : decode kc_M_init 117 = .ok (.bipush 56, 2) := by decide +kernel
theorem kd_M_init_119 : decode kc_M_init 119 = .ok (.newarray .int, 2) := by decide +kernel
theorem kd_M_init_121 : decode kc_M_init 121 = .ok (.putfield 53, 3) := by decide +kernel
theorem kd_M_init_124 : decode kc_M_init 124 = .ok (.aload_n 0, 1) := by decide +kernel
theorem kd_M_init_125 : decode kc_M_init 125 = .ok (.bipush 7, 2) := by decide +kernel
theorem kd_M_init_127 : decode kc_M_init 127 = .ok (.newarray .int, 2) := by decide +kernel
theorem kd_M_init_129 : decode kc_M_init 129 = .ok (.putfield 56, 3) := by decide +kernel
theorem kd_M_init_132 : decode kc_M_init 132 = .ok (.aload_n 0, 1) := by decide +kernel
theorem kd_M_init_133 : decode kc_M_init 133 = .ok (.bipush 48, 2) := by decide +kernel
theorem kd_M_init_135 : decode kc_M_init 135 = .ok (.newarray .int, 2) := by decide +kernel
theorem kd_M_init_137 : decode kc_M_init 137 = .ok (.putfield 59, 3) := by decide +kernel
theorem kd_M_init_140 : decode kc_M_init 140 = .ok (.iconst 0, 1) := by decide +kernel
theorem kd_M_init_141 : decode kc_M_init 141 = .ok (.istore_n 1, 1) := by decide +kernel
theorem kd_M_init_142 : decode kc_M_init 142 = .ok (.iload_n 1, 1) := by decide +kernel
theorem kd_M_init_143 : decode kc_M_init 143 = .ok (.bipush 48, 2) := by decide +kernel
theorem kd_M_init_145 : decode kc_M_init 145 = .ok (.if_icmp .ge 16, 3) := by decide +kernel
theorem kd_M_init_148 : decode kc_M_init 148 = .ok (.aload_n 0, 1) := by decide +kernel
theorem kd_M_init_149 : decode kc_M_init 149 = .ok (.getfield 31, 3) := by decide +kernel
theorem kd_M_init_152 : decode kc_M_init 152 = .ok (.iload_n 1, 1) := by decide +kernel
theorem kd_M_init_153 : decode kc_M_init 153 = .ok (.iconst (-1), 1) := by decide +kernel
theorem kd_M_init_154 : decode kc_M_init 154 = .ok (.iastore, 1) := by decide +kernel
theorem kd_M_init_155 : decode kc_M_init 155 = .ok (.iinc 1 1, 3) := by decide +kernel
theorem kd_M_init_158 : decode kc_M_init 158 = .ok (.goto (-16), 3) := by decide +kernel
theorem kd_M_init_161 : decode kc_M_init 161 = .ok (.return_, 1) := by decide +kernel
theorem kd_M_thrown_0 : decode kc_M_thrown 0 = .ok (.aload_n 0, 1) := by decide +kernel
theorem kd_M_thrown_1 : decode kc_M_thrown 1 = .ok (.getfield 62, 3) := by decide +kernel
theorem kd_M_thrown_4 : decode kc_M_thrown 4 = .ok (.ireturn, 1) := by decide +kernel
theorem kd_M_lot_0 : decode kc_M_lot 0 = .ok (.aload_n 0, 1) := by decide +kernel
theorem kd_M_lot_1 : decode kc_M_lot 1 = .ok (.iload_n 1, 1) := by decide +kernel
theorem kd_M_lot_2 : decode kc_M_lot 2 = .ok (.iconst 0, 1) := by decide +kernel
theorem kd_M_lot_3 : decode kc_M_lot 3 = .ok (.bipush 99, 2) := by decide +kernel
theorem kd_M_lot_5 : decode kc_M_lot 5 = .ok (.invokestatic 69, 3) := by decide +kernel
theorem kd_M_lot_8 : decode kc_M_lot 8 = .ok (.ifCond .eq 35, 3) := by decide +kernel
theorem kd_M_lot_11 : decode kc_M_lot 11 = .ok (.iload_n 2, 1) := by decide +kernel
theorem kd_M_lot_12 : decode kc_M_lot 12 = .ok (.iconst 0, 1) := by decide +kernel
theorem kd_M_lot_13 : decode kc_M_lot 13 = .ok (.iconst 5, 1) := by decide +kernel
theorem kd_M_lot_14 : decode kc_M_lot 14 = .ok (.invokestatic 69, 3) := by decide +kernel
theorem kd_M_lot_17 : decode kc_M_lot 17 = .ok (.ifCond .eq 26, 3) := by decide +kernel
theorem kd_M_lot_20 : decode kc_M_lot 20 = .ok (.iload_n 3, 1) := by decide +kernel
theorem kd_M_lot_21 : decode kc_M_lot 21 = .ok (.iconst 0, 1) := by decide +kernel
theorem kd_M_lot_22 : decode kc_M_lot 22 = .ok (.sipush 500, 3) := by decide +kernel
theorem kd_M_lot_25 : decode kc_M_lot 25 = .ok (.invokestatic 69, 3) := by decide +kernel
theorem kd_M_lot_28 : decode kc_M_lot 28 = .ok (.ifCond .eq 15, 3) := by decide +kernel
theorem kd_M_lot_31 : decode kc_M_lot 31 = .ok (.iload 4, 2) := by decide +kernel
theorem kd_M_lot_33 : decode kc_M_lot 33 = .ok (.iconst 0, 1) := by decide +kernel
theorem kd_M_lot_34 : decode kc_M_lot 34 = .ok (.sipush 9999, 3) := by decide +kernel
theorem kd_M_lot_37 : decode kc_M_lot 37 = .ok (.invokestatic 69, 3) := by decide +kernel
theorem kd_M_lot_40 : decode kc_M_lot 40 = .ok (.ifCond .ne 7, 3) := by decide +kernel
theorem kd_M_lot_43 : decode kc_M_lot 43 = .ok (.iconst 1, 1) := by decide +kernel
theorem kd_M_lot_44 : decode kc_M_lot 44 = .ok (.goto 17, 3) := by decide +kernel
theorem kd_M_lot_47 : decode kc_M_lot 47 = .ok (.aload_n 0, 1) := by decide +kernel
theorem kd_M_lot_48 : decode kc_M_lot 48 = .ok (.getfield 66, 3) := by decide +kernel
theorem kd_M_lot_51 : decode kc_M_lot 51 = .ok (.bipush 8, 2) := by decide +kernel
theorem kd_M_lot_53 : decode kc_M_lot 53 = .ok (.if_icmp .ne 7, 3) := by decide +kernel
theorem kd_M_lot_56 : decode kc_M_lot 56 = .ok (.iconst 2, 1) := by decide +kernel
theorem kd_M_lot_57 : decode kc_M_lot 57 = .ok (.goto 4, 3) := by decide +kernel
theorem kd_M_lot_60 : decode kc_M_lot 60 = .ok (.iconst 0, 1) := by decide +kernel
theorem kd_M_lot_61 : decode kc_M_lot 61 = .ok (.putfield 62, 3) := by decide +kernel
theorem kd_M_lot_64 : decode kc_M_lot 64 = .ok (.aload_n 0, 1) := by decide +kernel
theorem kd_M_lot_65 : decode kc_M_lot 65 = .ok (.getfield 62, 3) := by decide +kernel
theorem kd_M_lot_68 : decode kc_M_lot 68 = .ok (.ifCond .le 5, 3) := by decide +kernel
theorem kd_M_lot_71 : decode kc_M_lot 71 = .ok (.iconst 0, 1) := by decide +kernel
theorem kd_M_lot_72 : decode kc_M_lot 72 = .ok (.ireturn, 1) := by decide +kernel
theorem kd_M_lot_73 : decode kc_M_lot 73 = .ok (.aload_n 0, 1) := by decide +kernel
theorem kd_M_lot_74 : decode kc_M_lot 74 = .ok (.getfield 7, 3) := by decide +kernel
theorem kd_M_lot_77 : decode kc_M_lot 77 = .ok (.aload_n 0, 1) := by decide +kernel
theorem kd_M_lot_78 : decode kc_M_lot 78 = .ok (.getfield 66, 3) := by decide +kernel
theorem kd_M_lot_81 : decode kc_M_lot 81 = .ok (.iload_n 1, 1) := by decide +kernel
theorem kd_M_lot_82 : decode kc_M_lot 82 = .ok (.iastore, 1) := by decide +kernel
theorem kd_M_lot_83 : decode kc_M_lot 83 = .ok (.aload_n 0, 1) := by decide +kernel
theorem kd_M_lot_84 : decode kc_M_lot 84 = .ok (.getfield 13, 3) := by decide +kernel
theorem kd_M_lot_87 : decode kc_M_lot 87 = .ok (.aload_n 0, 1) := by decide +kernel
theorem kd_M_lot_88 : decode kc_M_lot 88 = .ok (.getfield 66, 3) := by decide +kernel
theorem kd_M_lot_91 : decode kc_M_lot 91 = .ok (.iload_n 2, 1) := by decide +kernel
theorem kd_M_lot_92 : decode kc_M_lot 92 = .ok (.iastore, 1) := by decide +kernel
theorem kd_M_lot_93 : decode kc_M_lot 93 = .ok (.aload_n 0, 1) := by decide +kernel
theorem kd_M_lot_94 : decode kc_M_lot 94 = .ok (.getfield 16, 3) := by decide +kernel
theorem kd_M_lot_97 : decode kc_M_lot 97 = .ok (.aload_n 0, 1) := by decide +kernel
theorem kd_M_lot_98 : decode kc_M_lot 98 = .ok (.getfield 66, 3) := by decide +kernel
theorem kd_M_lot_101 : decode kc_M_lot 101 = .ok (.iload_n 3, 1) := by decide +kernel
theorem kd_M_lot_102 : decode kc_M_lot 102 = .ok (.iastore, 1) := by decide +kernel
theorem kd_M_lot_103 : decode kc_M_lot 103 = .ok (.aload_n 0, 1) := by decide +kernel
theorem kd_M_lot_104 : decode kc_M_lot 104 = .ok (.getfield 19, 3) := by decide +kernel
theorem kd_M_lot_107 : decode kc_M_lot 107 = .ok (.aload_n 0, 1) := by decide +kernel
theorem kd_M_lot_108 : decode kc_M_lot 108 = .ok (.getfield 66, 3) := by decide +kernel
theorem kd_M_lot_111 : decode kc_M_lot 111 = .ok (.iload 4, 2) := by decide +kernel
theorem kd_M_lot_113 : decode kc_M_lot 113 = .ok (.iastore, 1) := by decide +kernel
theorem kd_M_lot_114 : decode kc_M_lot 114 = .ok (.aload_n 0, 1) := by decide +kernel
theorem kd_M_lot_115 : decode kc_M_lot 115 = .ok (.dup, 1) := by decide +kernel
theorem kd_M_lot_116 : decode kc_M_lot 116 = .ok (.getfield 66, 3) := by decide +kernel
theorem kd_M_lot_119 : decode kc_M_lot 119 = .ok (.iconst 1, 1) := by decide +kernel
theorem kd_M_lot_120 : decode kc_M_lot 120 = .ok (.iadd, 1) := by decide +kernel
theorem kd_M_lot_121 : decode kc_M_lot 121 = .ok (.putfield 66, 3) := by decide +kernel
theorem kd_M_lot_124 : decode kc_M_lot 124 = .ok (.aload_n 0, 1) := by decide +kernel
theorem kd_M_lot_125 : decode kc_M_lot 125 = .ok (.getfield 66, 3) := by decide +kernel
theorem kd_M_lot_128 : decode kc_M_lot 128 = .ok (.iconst 1, 1) := by decide +kernel
theorem kd_M_lot_129 : decode kc_M_lot 129 = .ok (.isub, 1) := by decide +kernel
theorem kd_M_lot_130 : decode kc_M_lot 130 = .ok (.ireturn, 1) := by decide +kernel
theorem kd_M_in_0 : decode kc_M_in 0 = .ok (.iload_n 0, 1) := by decide +kernel
theorem kd_M_in_1 : decode kc_M_in 1 = .ok (.iload_n 1, 1) := by decide +kernel
theorem kd_M_in_2 : decode kc_M_in 2 = .ok (.if_icmp .lt 12, 3) := by decide +kernel
theorem kd_M_in_5 : decode kc_M_in 5 = .ok (.iload_n 0, 1) := by decide +kernel
theorem kd_M_in_6 : decode kc_M_in 6 = .ok (.iload_n 2, 1) := by decide +kernel
theorem kd_M_in_7 : decode kc_M_in 7 = .ok (.if_icmp .gt 7, 3) := by decide +kernel
theorem kd_M_in_10 : decode kc_M_in 10 = .ok (.iconst 1, 1) := by decide +kernel
theorem kd_M_in_11 : decode kc_M_in 11 = .ok (.goto 4, 3) := by decide +kernel
theorem kd_M_in_14 : decode kc_M_in 14 = .ok (.iconst 0, 1) := by decide +kernel
theorem kd_M_in_15 : decode kc_M_in 15 = .ok (.ireturn, 1) := by decide +kernel
theorem kd_M_line_0 : decode kc_M_line 0 = .ok (.aload_n 0, 1) := by decide +kernel
theorem kd_M_line_1 : decode kc_M_line 1 = .ok (.iload_n 1, 1) := by decide +kernel
theorem kd_M_line_2 : decode kc_M_line 2 = .ok (.iconst 0, 1) := by decide +kernel
theorem kd_M_line_3 : decode kc_M_line 3 = .ok (.iconst 5, 1) := by decide +kernel
theorem kd_M_line_4 : decode kc_M_line 4 = .ok (.invokestatic 69, 3) := by decide +kernel
theorem kd_M_line_7 : decode kc_M_line 7 = .ok (.ifCond .eq 14, 3) := by decide +kernel
theorem kd_M_line_10 : decode kc_M_line 10 = .ok (.iload_n 2, 1) := by decide +kernel
theorem kd_M_line_11 : decode kc_M_line 11 = .ok (.iconst 1, 1) := by decide +kernel
theorem kd_M_line_12 : decode kc_M_line 12 = .ok (.sipush 200, 3) := by decide +kernel
theorem kd_M_line_15 : decode kc_M_line 15 = .ok (.invokestatic 69, 3) := by decide +kernel
theorem kd_M_line_18 : decode kc_M_line 18 = .ok (.ifCond .ne 7, 3) := by decide +kernel
theorem kd_M_line_21 : decode kc_M_line 21 = .ok (.iconst 1, 1) := by decide +kernel
theorem kd_M_line_22 : decode kc_M_line 22 = .ok (.goto 17, 3) := by decide +kernel
theorem kd_M_line_25 : decode kc_M_line 25 = .ok (.aload_n 0, 1) := by decide +kernel
theorem kd_M_line_26 : decode kc_M_line 26 = .ok (.getfield 73, 3) := by decide +kernel
theorem kd_M_line_29 : decode kc_M_line 29 = .ok (.bipush 6, 2) := by decide +kernel
theorem kd_M_line_31 : decode kc_M_line 31 = .ok (.if_icmp .ne 7, 3) := by decide +kernel
theorem kd_M_line_34 : decode kc_M_line 34 = .ok (.iconst 2, 1) := by decide +kernel
theorem kd_M_line_35 : decode kc_M_line 35 = .ok (.goto 4, 3) := by decide +kernel
theorem kd_M_line_38 : decode kc_M_line 38 = .ok (.iconst 0, 1) := by decide +kernel
theorem kd_M_line_39 : decode kc_M_line 39 = .ok (.putfield 62, 3) := by decide +kernel
theorem kd_M_line_42 : decode kc_M_line 42 = .ok (.aload_n 0, 1) := by decide +kernel
theorem kd_M_line_43 : decode kc_M_line 43 = .ok (.getfield 62, 3) := by decide +kernel
theorem kd_M_line_46 : decode kc_M_line 46 = .ok (.ifCond .le 5, 3) := by decide +kernel
theorem kd_M_line_49 : decode kc_M_line 49 = .ok (.iconst 0, 1) := by decide +kernel
theorem kd_M_line_50 : decode kc_M_line 50 = .ok (.ireturn, 1) := by decide +kernel
theorem kd_M_line_51 : decode kc_M_line 51 = .ok (.aload_n 0, 1) := by decide +kernel
theorem kd_M_line_52 : decode kc_M_line 52 = .ok (.getfield 22, 3) := by decide +kernel
theorem kd_M_line_55 : decode kc_M_line 55 = .ok (.aload_n 0, 1) := by decide +kernel
theorem kd_M_line_56 : decode kc_M_line 56 = .ok (.getfield 73, 3) := by decide +kernel
theorem kd_M_line_59 : decode kc_M_line 59 = .ok (.iload_n 1, 1) := by decide +kernel
theorem kd_M_line_60 : decode kc_M_line 60 = .ok (.iastore, 1) := by decide +kernel
theorem kd_M_line_61 : decode kc_M_line 61 = .ok (.aload_n 0, 1) := by decide +kernel
theorem kd_M_line_62 : decode kc_M_line 62 = .ok (.getfield 25, 3) := by decide +kernel
theorem kd_M_line_65 : decode kc_M_line 65 = .ok (.aload_n 0, 1) := by decide +kernel
theorem kd_M_line_66 : decode kc_M_line 66 = .ok (.getfield 73, 3) := by decide +kernel
theorem kd_M_line_69 : decode kc_M_line 69 = .ok (.iload_n 2, 1) := by decide +kernel
theorem kd_M_line_70 : decode kc_M_line 70 = .ok (.iastore, 1) := by decide +kernel
theorem kd_M_line_71 : decode kc_M_line 71 = .ok (.aload_n 0, 1) := by decide +kernel
theorem kd_M_line_72 : decode kc_M_line 72 = .ok (.getfield 28, 3) := by decide +kernel
theorem kd_M_line_75 : decode kc_M_line 75 = .ok (.iconst 4, 1) := by decide +kernel
theorem kd_M_line_76 : decode kc_M_line 76 = .ok (.aload_n 0, 1) := by decide +kernel
theorem kd_M_line_77 : decode kc_M_line 77 = .ok (.getfield 73, 3) := by decide +kernel
theorem kd_M_line_80 : decode kc_M_line 80 = .ok (.imul, 1) := by decide +kernel
theorem kd_M_line_81 : decode kc_M_line 81 = .ok (.iconst 1, 1) := by decide +kernel
theorem kd_M_line_82 : decode kc_M_line 82 = .ok (.iadd, 1) := by decide +kernel
theorem kd_M_line_83 : decode kc_M_line 83 = .ok (.iconst 1, 1) := by decide +kernel
theorem kd_M_line_84 : decode kc_M_line 84 = .ok (.iastore, 1) := by decide +kernel
theorem kd_M_line_85 : decode kc_M_line 85 = .ok (.aload_n 0, 1) := by decide +kernel
theorem kd_M_line_86 : decode kc_M_line 86 = .ok (.getfield 28, 3) := by decide +kernel
theorem kd_M_line_89 : decode kc_M_line 89 = .ok (.iconst 4, 1) := by decide +kernel
theorem kd_M_line_90 : decode kc_M_line 90 = .ok (.aload_n 0, 1) := by decide +kernel
theorem kd_M_line_91 : decode kc_M_line 91 = .ok (.getfield 73, 3) := by decide +kernel
theorem kd_M_line_94 : decode kc_M_line 94 = .ok (.imul, 1) := by decide +kernel
theorem kd_M_line_95 : decode kc_M_line 95 = .ok (.iconst 2, 1) := by decide +kernel
theorem kd_M_line_96 : decode kc_M_line 96 = .ok (.iadd, 1) := by decide +kernel
theorem kd_M_line_97 : decode kc_M_line 97 = .ok (.bipush 8, 2) := by decide +kernel
theorem kd_M_line_99 : decode kc_M_line 99 = .ok (.iastore, 1) := by decide +kernel
theorem kd_M_line_100 : decode kc_M_line 100 = .ok (.aload_n 0, 1) := by decide +kernel
theorem kd_M_line_101 : decode kc_M_line 101 = .ok (.dup, 1) := by decide +kernel
theorem kd_M_line_102 : decode kc_M_line 102 = .ok (.getfield 73, 3) := by decide +kernel
theorem kd_M_line_105 : decode kc_M_line 105 = .ok (.iconst 1, 1) := by decide +kernel
theorem kd_M_line_106 : decode kc_M_line 106 = .ok (.iadd, 1) := by decide +kernel
theorem kd_M_line_107 : decode kc_M_line 107 = .ok (.putfield 73, 3) := by decide +kernel
theorem kd_M_line_110 : decode kc_M_line 110 = .ok (.aload_n 0, 1) := by decide +kernel
theorem kd_M_line_111 : decode kc_M_line 111 = .ok (.getfield 73, 3) := by decide +kernel
theorem kd_M_line_114 : decode kc_M_line 114 = .ok (.iconst 1, 1) := by decide +kernel
theorem kd_M_line_115 : decode kc_M_line 115 = .ok (.isub, 1) := by decide +kernel
theorem kd_M_line_116 : decode kc_M_line 116 = .ok (.ireturn, 1) := by decide +kernel
theorem kd_M_rule_0 : decode kc_M_rule 0 = .ok (.aload_n 0, 1) := by decide +kernel
theorem kd_M_rule_1 : decode kc_M_rule 1 = .ok (.aload_n 0, 1) := by decide +kernel
theorem kd_M_rule_2 : decode kc_M_rule 2 = .ok (.iload_n 1, 1) := by decide +kernel
theorem kd_M_rule_3 : decode kc_M_rule 3 = .ok (.invokevirtual 76, 3) := by decide +kernel
theorem kd_M_rule_6 : decode kc_M_rule 6 = .ok (.ifCond .ne 7, 3) := by decide +kernel
theorem kd_M_rule_9 : decode kc_M_rule 9 = .ok (.iconst 1, 1) := by decide +kernel
theorem kd_M_rule_10 : decode kc_M_rule 10 = .ok (.goto 16, 3) := by decide +kernel
theorem kd_M_rule_13 : decode kc_M_rule 13 = .ok (.iload_n 2, 1) := by decide +kernel
theorem kd_M_rule_14 : decode kc_M_rule 14 = .ok (.iload_n 3, 1) := by decide +kernel
theorem kd_M_rule_15 : decode kc_M_rule 15 = .ok (.invokestatic 80, 3) := by decide +kernel
theorem kd_M_rule_18 : decode kc_M_rule 18 = .ok (.ifCond .ne 7, 3) := by decide +kernel
theorem kd_M_rule_21 : decode kc_M_rule 21 = .ok (.iconst 2, 1) := by decide +kernel
theorem kd_M_rule_22 : decode kc_M_rule 22 = .ok (.goto 4, 3) := by decide +kernel
theorem kd_M_rule_25 : decode kc_M_rule 25 = .ok (.iconst 0, 1) := by decide +kernel
theorem kd_M_rule_26 : decode kc_M_rule 26 = .ok (.putfield 62, 3) := by decide +kernel
theorem kd_M_rule_29 : decode kc_M_rule 29 = .ok (.aload_n 0, 1) := by decide +kernel
theorem kd_M_rule_30 : decode kc_M_rule 30 = .ok (.getfield 62, 3) := by decide +kernel
theorem kd_M_rule_33 : decode kc_M_rule 33 = .ok (.ifCond .ne 14, 3) := by decide +kernel
theorem kd_M_rule_36 : decode kc_M_rule 36 = .ok (.aload_n 0, 1) := by decide +kernel
theorem kd_M_rule_37 : decode kc_M_rule 37 = .ok (.getfield 28, 3) := by decide +kernel
theorem kd_M_rule_40 : decode kc_M_rule 40 = .ok (.iconst 4, 1) := by decide +kernel
theorem kd_M_rule_41 : decode kc_M_rule 41 = .ok (.iload_n 1, 1) := by decide +kernel
theorem kd_M_rule_42 : decode kc_M_rule 42 = .ok (.imul, 1) := by decide +kernel
theorem kd_M_rule_43 : decode kc_M_rule 43 = .ok (.iload_n 2, 1) := by decide +kernel
theorem kd_M_rule_44 : decode kc_M_rule 44 = .ok (.iadd, 1) := by decide +kernel
theorem kd_M_rule_45 : decode kc_M_rule 45 = .ok (.iload_n 3, 1) := by decide +kernel
theorem kd_M_rule_46 : decode kc_M_rule 46 = .ok (.iastore, 1) := by decide +kernel
theorem kd_M_rule_47 : decode kc_M_rule 47 = .ok (.return_, 1) := by decide +kernel
theorem kd_M_isLine_0 : decode kc_M_isLine 0 = .ok (.iload_n 1, 1) := by decide +kernel
theorem kd_M_isLine_1 : decode kc_M_isLine 1 = .ok (.iconst 0, 1) := by decide +kernel
theorem kd_M_isLine_2 : decode kc_M_isLine 2 = .ok (.aload_n 0, 1) := by decide +kernel
theorem kd_M_isLine_3 : decode kc_M_isLine 3 = .ok (.getfield 73, 3) := by decide +kernel
theorem kd_M_isLine_6 : decode kc_M_isLine 6 = .ok (.iconst 1, 1) := by decide +kernel
theorem kd_M_isLine_7 : decode kc_M_isLine 7 = .ok (.isub, 1) := by decide +kernel
theorem kd_M_isLine_8 : decode kc_M_isLine 8 = .ok (.invokestatic 69, 3) := by decide +kernel
theorem kd_M_isLine_11 : decode kc_M_isLine 11 = .ok (.ireturn, 1) := by decide +kernel
theorem kd_M_isRule_0 : decode kc_M_isRule 0 = .ok (.iload_n 0, 1) := by decide +kernel
theorem kd_M_isRule_1 : decode kc_M_isRule 1 = .ok (.ifCond .ne 12, 3) := by decide +kernel
theorem kd_M_isRule_4 : decode kc_M_isRule 4 = .ok (.iload_n 1, 1) := by decide +kernel
theorem kd_M_isRule_5 : decode kc_M_isRule 5 = .ok (.iconst 0, 1) := by decide +kernel
theorem kd_M_isRule_6 : decode kc_M_isRule 6 = .ok (.sipush 9999, 3) := by decide +kernel
theorem kd_M_isRule_9 : decode kc_M_isRule 9 = .ok (.invokestatic 69, 3) := by decide +kernel
theorem kd_M_isRule_12 : decode kc_M_isRule 12 = .ok (.ireturn, 1) := by decide +kernel
theorem kd_M_isRule_13 : decode kc_M_isRule 13 = .ok (.iload_n 0, 1) := by decide +kernel
theorem kd_M_isRule_14 : decode kc_M_isRule 14 = .ok (.iconst 1, 1) := by decide +kernel
theorem kd_M_isRule_15 : decode kc_M_isRule 15 = .ok (.if_icmp .ne 11, 3) := by decide +kernel
theorem kd_M_isRule_18 : decode kc_M_isRule 18 = .ok (.iload_n 1, 1) := by decide +kernel
theorem kd_M_isRule_19 : decode kc_M_isRule 19 = .ok (.iconst 1, 1) := by decide +kernel
theorem kd_M_isRule_20 : decode kc_M_isRule 20 = .ok (.bipush 50, 2) := by decide +kernel
theorem kd_M_isRule_22 : decode kc_M_isRule 22 = .ok (.invokestatic 69, 3) := by decide +kernel
theorem kd_M_isRule_25 : decode kc_M_isRule 25 = .ok (.ireturn, 1) := by decide +kernel
theorem kd_M_isRule_26 : decode kc_M_isRule 26 = .ok (.iload_n 0, 1) := by decide +kernel
theorem kd_M_isRule_27 : decode kc_M_isRule 27 = .ok (.iconst 2, 1) := by decide +kernel
theorem kd_M_isRule_28 : decode kc_M_isRule 28 = .ok (.if_icmp .ne 13, 3) := by decide +kernel
theorem kd_M_isRule_31 : decode kc_M_isRule 31 = .ok (.iload_n 1, 1) := by decide +kernel
theorem kd_M_isRule_32 : decode kc_M_isRule 32 = .ok (.iconst 1, 1) := by decide +kernel
theorem kd_M_isRule_33 : decode kc_M_isRule 33 = .ok (.bipush 8, 2) := by decide +kernel
theorem kd_M_isRule_35 : decode kc_M_isRule 35 = .ok (.invokestatic 69, 3) := by decide +kernel
theorem kd_M_isRule_38 : decode kc_M_isRule 38 = .ok (.goto 22, 3) := by decide +kernel
theorem kd_M_isRule_41 : decode kc_M_isRule 41 = .ok (.iload_n 0, 1) := by decide +kernel
theorem kd_M_isRule_42 : decode kc_M_isRule 42 = .ok (.iconst 3, 1) := by decide +kernel
theorem kd_M_isRule_43 : decode kc_M_isRule 43 = .ok (.if_icmp .ne 16, 3) := by decide +kernel
theorem kd_M_isRule_46 : decode kc_M_isRule 46 = .ok (.iload_n 1, 1) := by decide +kernel
theorem kd_M_isRule_47 : decode kc_M_isRule 47 = .ok (.iconst 0, 1) := by decide +kernel
theorem kd_M_isRule_48 : decode kc_M_isRule 48 = .ok (.iconst 1, 1) := by decide +kernel
theorem kd_M_isRule_49 : decode kc_M_isRule 49 = .ok (.invokestatic 69, 3) := by decide +kernel
theorem kd_M_isRule_52 : decode kc_M_isRule 52 = .ok (.ifCond .eq 7, 3) := by decide +kernel
theorem kd_M_isRule_55 : decode kc_M_isRule 55 = .ok (.iconst 1, 1) := by decide +kernel
theorem kd_M_isRule_56 : decode kc_M_isRule 56 = .ok (.goto 4, 3) := by decide +kernel
theorem kd_M_isRule_59 : decode kc_M_isRule 59 = .ok (.iconst 0, 1) := by decide +kernel
theorem kd_M_isRule_60 : decode kc_M_isRule 60 = .ok (.ireturn, 1) := by decide +kernel
theorem kd_M_cost_0 : decode kc_M_cost 0 = .ok (.aload_n 0, 1) := by decide +kernel
theorem kd_M_cost_1 : decode kc_M_cost 1 = .ok (.aload_n 0, 1) := by decide +kernel
theorem kd_M_cost_2 : decode kc_M_cost 2 = .ok (.iload_n 1, 1) := by decide +kernel
theorem kd_M_cost_3 : decode kc_M_cost 3 = .ok (.invokevirtual 84, 3) := by decide +kernel
theorem kd_M_cost_6 : decode kc_M_cost 6 = .ok (.ifCond .eq 11, 3) := by decide +kernel
theorem kd_M_cost_9 : decode kc_M_cost 9 = .ok (.aload_n 0, 1) := by decide +kernel
theorem kd_M_cost_10 : decode kc_M_cost 10 = .ok (.iload_n 2, 1) := by decide +kernel
theorem kd_M_cost_11 : decode kc_M_cost 11 = .ok (.invokevirtual 76, 3) := by decide +kernel
theorem kd_M_cost_14 : decode kc_M_cost 14 = .ok (.ifCond .ne 7, 3) := by decide +kernel
theorem kd_M_cost_17 : decode kc_M_cost 17 = .ok (.iconst 1, 1) := by decide +kernel
theorem kd_M_cost_18 : decode kc_M_cost 18 = .ok (.goto 19, 3) := by decide +kernel
theorem kd_M_cost_21 : decode kc_M_cost 21 = .ok (.iload_n 3, 1) := by decide +kernel
theorem kd_M_cost_22 : decode kc_M_cost 22 = .ok (.iconst (-1), 1) := by decide +kernel
theorem kd_M_cost_23 : decode kc_M_cost 23 = .ok (.sipush 1000, 3) := by decide +kernel
theorem kd_M_cost_26 : decode kc_M_cost 26 = .ok (.invokestatic 69, 3) := by decide +kernel
theorem kd_M_cost_29 : decode kc_M_cost 29 = .ok (.ifCond .ne 7, 3) := by decide +kernel
theorem kd_M_cost_32 : decode kc_M_cost 32 = .ok (.iconst 2, 1) := by decide +kernel
theorem kd_M_cost_33 : decode kc_M_cost 33 = .ok (.goto 4, 3) := by decide +kernel
theorem kd_M_cost_36 : decode kc_M_cost 36 = .ok (.iconst 0, 1) := by decide +kernel
theorem kd_M_cost_37 : decode kc_M_cost 37 = .ok (.putfield 62, 3) := by decide +kernel
theorem kd_M_cost_40 : decode kc_M_cost 40 = .ok (.aload_n 0, 1) := by decide +kernel
theorem kd_M_cost_41 : decode kc_M_cost 41 = .ok (.getfield 62, 3) := by decide +kernel
theorem kd_M_cost_44 : decode kc_M_cost 44 = .ok (.ifCond .ne 15, 3) := by decide +kernel
theorem kd_M_cost_47 : decode kc_M_cost 47 = .ok (.aload_n 0, 1) := by decide +kernel
theorem kd_M_cost_48 : decode kc_M_cost 48 = .ok (.getfield 31, 3) := by decide +kernel
theorem kd_M_cost_51 : decode kc_M_cost 51 = .ok (.bipush 8, 2) := by decide +kernel
theorem kd_M_cost_53 : decode kc_M_cost 53 = .ok (.iload_n 2, 1) := by decide +kernel
theorem kd_M_cost_54 : decode kc_M_cost 54 = .ok (.imul, 1) := by decide +kernel
theorem kd_M_cost_55 : decode kc_M_cost 55 = .ok (.iload_n 1, 1) := by decide +kernel
theorem kd_M_cost_56 : decode kc_M_cost 56 = .ok (.iadd, 1) := by decide +kernel
theorem kd_M_cost_57 : decode kc_M_cost 57 = .ok (.iload_n 3, 1) := by decide +kernel
theorem kd_M_cost_58 : decode kc_M_cost 58 = .ok (.iastore, 1) := by decide +kernel
theorem kd_M_cost_59 : decode kc_M_cost 59 = .ok (.return_, 1) := by decide +kernel
theorem kd_M_isLot_0 : decode kc_M_isLot 0 = .ok (.iload_n 1, 1) := by decide +kernel
theorem kd_M_isLot_1 : decode kc_M_isLot 1 = .ok (.iconst 0, 1) := by decide +kernel
theorem kd_M_isLot_2 : decode kc_M_isLot 2 = .ok (.aload_n 0, 1) := by decide +kernel
theorem kd_M_isLot_3 : decode kc_M_isLot 3 = .ok (.getfield 66, 3) := by decide +kernel
theorem kd_M_isLot_6 : decode kc_M_isLot 6 = .ok (.iconst 1, 1) := by decide +kernel
theorem kd_M_isLot_7 : decode kc_M_isLot 7 = .ok (.isub, 1) := by decide +kernel
theorem kd_M_isLot_8 : decode kc_M_isLot 8 = .ok (.invokestatic 69, 3) := by decide +kernel
theorem kd_M_isLot_11 : decode kc_M_isLot 11 = .ok (.ireturn, 1) := by decide +kernel
theorem kd_M_may_0 : decode kc_M_may 0 = .ok (.aload_n 0, 1) := by decide +kernel
theorem kd_M_may_1 : decode kc_M_may 1 = .ok (.aload_n 0, 1) := by decide +kernel
theorem kd_M_may_2 : decode kc_M_may 2 = .ok (.iload_n 1, 1) := by decide +kernel
theorem kd_M_may_3 : decode kc_M_may 3 = .ok (.invokevirtual 84, 3) := by decide +kernel
theorem kd_M_may_6 : decode kc_M_may 6 = .ok (.ifCond .eq 11, 3) := by decide +kernel
theorem kd_M_may_9 : decode kc_M_may 9 = .ok (.aload_n 0, 1) := by decide +kernel
theorem kd_M_may_10 : decode kc_M_may 10 = .ok (.iload_n 2, 1) := by decide +kernel
theorem kd_M_may_11 : decode kc_M_may 11 = .ok (.invokevirtual 76, 3) := by decide +kernel
theorem kd_M_may_14 : decode kc_M_may 14 = .ok (.ifCond .ne 7, 3) := by decide +kernel
theorem kd_M_may_17 : decode kc_M_may 17 = .ok (.iconst 1, 1) := by decide +kernel
theorem kd_M_may_18 : decode kc_M_may 18 = .ok (.goto 4, 3) := by decide +kernel
theorem kd_M_may_21 : decode kc_M_may 21 = .ok (.iconst 0, 1) := by decide +kernel
theorem kd_M_may_22 : decode kc_M_may 22 = .ok (.putfield 62, 3) := by decide +kernel
theorem kd_M_may_25 : decode kc_M_may 25 = .ok (.aload_n 0, 1) := by decide +kernel
theorem kd_M_may_26 : decode kc_M_may 26 = .ok (.getfield 62, 3) := by decide +kernel
theorem kd_M_may_29 : decode kc_M_may 29 = .ok (.ifCond .le 5, 3) := by decide +kernel
theorem kd_M_may_32 : decode kc_M_may 32 = .ok (.iconst 0, 1) := by decide +kernel
theorem kd_M_may_33 : decode kc_M_may 33 = .ok (.ireturn, 1) := by decide +kernel
theorem kd_M_may_34 : decode kc_M_may 34 = .ok (.aload_n 0, 1) := by decide +kernel
theorem kd_M_may_35 : decode kc_M_may 35 = .ok (.getfield 34, 3) := by decide +kernel
theorem kd_M_may_38 : decode kc_M_may 38 = .ok (.bipush 8, 2) := by decide +kernel
theorem kd_M_may_40 : decode kc_M_may 40 = .ok (.iload_n 2, 1) := by decide +kernel
theorem kd_M_may_41 : decode kc_M_may 41 = .ok (.imul, 1) := by decide +kernel
theorem kd_M_may_42 : decode kc_M_may 42 = .ok (.iload_n 1, 1) := by decide +kernel
theorem kd_M_may_43 : decode kc_M_may 43 = .ok (.iadd, 1) := by decide +kernel
theorem kd_M_may_44 : decode kc_M_may 44 = .ok (.iload_n 3, 1) := by decide +kernel
theorem kd_M_may_45 : decode kc_M_may 45 = .ok (.ifCond .ne 7, 3) := by decide +kernel
theorem kd_M_may_48 : decode kc_M_may 48 = .ok (.iconst 1, 1) := by decide +kernel
theorem kd_M_may_49 : decode kc_M_may 49 = .ok (.goto 4, 3) := by decide +kernel
theorem kd_M_may_52 : decode kc_M_may 52 = .ok (.iconst 0, 1) := by decide +kernel
theorem kd_M_may_53 : decode kc_M_may 53 = .ok (.bastore, 1) := by decide +kernel
theorem kd_M_may_54 : decode kc_M_may 54 = .ok (.aload_n 0, 1) := by decide +kernel
theorem kd_M_may_55 : decode kc_M_may 55 = .ok (.iload_n 1, 1) := by decide +kernel
theorem kd_M_may_56 : decode kc_M_may 56 = .ok (.iload_n 2, 1) := by decide +kernel
theorem kd_M_may_57 : decode kc_M_may 57 = .ok (.invokevirtual 90, 3) := by decide +kernel
theorem kd_M_may_60 : decode kc_M_may 60 = .ok (.ireturn, 1) := by decide +kernel
theorem kd_M_isAllowed_0 : decode kc_M_isAllowed 0 = .ok (.aload_n 0, 1) := by decide +kernel
theorem kd_M_isAllowed_1 : decode kc_M_isAllowed 1 = .ok (.iload_n 1, 1) := by decide +kernel
theorem kd_M_isAllowed_2 : decode kc_M_isAllowed 2 = .ok (.iload_n 2, 1) := by decide +kernel
theorem kd_M_isAllowed_3 : decode kc_M_isAllowed 3 = .ok (.iconst 3, 1) := by decide +kernel
theorem kd_M_isAllowed_4 : decode kc_M_isAllowed 4 = .ok (.invokevirtual 87, 3) := by decide +kernel
theorem kd_M_isAllowed_7 : decode kc_M_isAllowed 7 = .ok (.ireturn, 1) := by decide +kernel
theorem kd_M_passes_0 : decode kc_M_passes 0 = .ok (.iload_n 3, 1) := by decide +kernel
theorem kd_M_passes_1 : decode kc_M_passes 1 = .ok (.ifCond .le 20, 3) := by decide +kernel
theorem kd_M_passes_4 : decode kc_M_passes 4 = .ok (.aload_n 0, 1) := by decide +kernel
theorem kd_M_passes_5 : decode kc_M_passes 5 = .ok (.getfield 13, 3) := by decide +kernel
theorem kd_M_passes_8 : decode kc_M_passes 8 = .ok (.iload_n 1, 1) := by decide +kernel
theorem kd_M_passes_9 : decode kc_M_passes 9 = .ok (.iaload, 1) := by decide +kernel
theorem kd_M_passes_10 : decode kc_M_passes 10 = .ok (.aload_n 0, 1) := by decide +kernel
theorem kd_M_passes_11 : decode kc_M_passes 11 = .ok (.getfield 22, 3) := by decide +kernel
theorem kd_M_passes_14 : decode kc_M_passes 14 = .ok (.iload_n 2, 1) := by decide +kernel
theorem kd_M_passes_15 : decode kc_M_passes 15 = .ok (.iaload, 1) := by decide +kernel
theorem kd_M_passes_16 : decode kc_M_passes 16 = .ok (.if_icmp .eq 5, 3) := by decide +kernel
theorem kd_M_passes_19 : decode kc_M_passes 19 = .ok (.iconst 0, 1) := by decide +kernel
theorem kd_M_passes_20 : decode kc_M_passes 20 = .ok (.ireturn, 1) := by decide +kernel
theorem kd_M_passes_21 : decode kc_M_passes 21 = .ok (.iload_n 3, 1) := by decide +kernel
theorem kd_M_passes_22 : decode kc_M_passes 22 = .ok (.iconst 1, 1) := by decide +kernel
theorem kd_M_passes_23 : decode kc_M_passes 23 = .ok (.if_icmp .le 22, 3) := by decide +kernel
theorem kd_M_passes_26 : decode kc_M_passes 26 = .ok (.aload_n 0, 1) := by decide +kernel
theorem kd_M_passes_27 : decode kc_M_passes 27 = .ok (.getfield 19, 3) := by decide +kernel
theorem kd_M_passes_30 : decode kc_M_passes 30 = .ok (.iload_n 1, 1) := by decide +kernel
theorem kd_M_passes_31 : decode kc_M_passes 31 = .ok (.iaload, 1) := by decide +kernel
theorem kd_M_passes_32 : decode kc_M_passes 32 = .ok (.aload_n 0, 1) := by decide +kernel
theorem kd_M_passes_33 : decode kc_M_passes 33 = .ok (.getfield 28, 3) := by decide +kernel
theorem kd_M_passes_36 : decode kc_M_passes 36 = .ok (.iconst 4, 1) := by decide +kernel
theorem kd_M_passes_37 : decode kc_M_passes 37 = .ok (.iload_n 2, 1) := by decide +kernel
theorem kd_M_passes_38 : decode kc_M_passes 38 = .ok (.imul, 1) := by decide +kernel
theorem kd_M_passes_39 : decode kc_M_passes 39 = .ok (.iaload, 1) := by decide +kernel
theorem kd_M_passes_40 : decode kc_M_passes 40 = .ok (.if_icmp .ge 5, 3) := by decide +kernel
theorem kd_M_passes_43 : decode kc_M_passes 43 = .ok (.iconst 0, 1) := by decide +kernel
theorem kd_M_passes_44 : decode kc_M_passes 44 = .ok (.ireturn, 1) := by decide +kernel
theorem kd_M_passes_45 : decode kc_M_passes 45 = .ok (.iload_n 3, 1) := by decide +kernel
theorem kd_M_passes_46 : decode kc_M_passes 46 = .ok (.iconst 3, 1) := by decide +kernel
theorem kd_M_passes_47 : decode kc_M_passes 47 = .ok (.if_icmp .lt 17, 3) := by decide +kernel
theorem kd_M_passes_50 : decode kc_M_passes 50 = .ok (.aload_n 0, 1) := by decide +kernel
theorem kd_M_passes_51 : decode kc_M_passes 51 = .ok (.getfield 34, 3) := by decide +kernel
theorem kd_M_passes_54 : decode kc_M_passes 54 = .ok (.bipush 8, 2) := by decide +kernel
theorem kd_M_passes_56 : decode kc_M_passes 56 = .ok (.iload_n 2, 1) := by decide +kernel
theorem kd_M_passes_57 : decode kc_M_passes 57 = .ok (.imul, 1) := by decide +kernel
theorem kd_M_passes_58 : decode kc_M_passes 58 = .ok (.iload_n 1, 1) := by decide +kernel
theorem kd_M_passes_59 : decode kc_M_passes 59 = .ok (.iadd, 1) := by decide +kernel
theorem kd_M_passes_60 : decode kc_M_passes 60 = .ok (.baload, 1) := by decide +kernel
theorem kd_M_passes_61 : decode kc_M_passes 61 = .ok (.ifCond .ne 7, 3) := by decide +kernel
theorem kd_M_passes_64 : decode kc_M_passes 64 = .ok (.iconst 1, 1) := by decide +kernel
theorem kd_M_passes_65 : decode kc_M_passes 65 = .ok (.goto 4, 3) := by decide +kernel
theorem kd_M_passes_68 : decode kc_M_passes 68 = .ok (.iconst 0, 1) := by decide +kernel
theorem kd_M_passes_69 : decode kc_M_passes 69 = .ok (.ireturn, 1) := by decide +kernel
theorem kd_M_solve_0 : decode kc_M_solve 0 = .ok (.aload_n 0, 1) := by decide +kernel
theorem kd_M_solve_1 : decode kc_M_solve 1 = .ok (.iload_n 1, 1) := by decide +kernel
theorem kd_M_solve_2 : decode kc_M_solve 2 = .ok (.iconst 0, 1) := by decide +kernel
theorem kd_M_solve_3 : decode kc_M_solve 3 = .ok (.ldc 120, 2) := by decide +kernel
theorem kd_M_solve_5 : decode kc_M_solve 5 = .ok (.invokestatic 69, 3) := by decide +kernel
theorem kd_M_solve_8 : decode kc_M_solve 8 = .ok (.ifCond .eq 7, 3) := by decide +kernel
theorem kd_M_solve_11 : decode kc_M_solve 11 = .ok (.iconst 0, 1) := by decide +kernel
theorem kd_M_solve_12 : decode kc_M_solve 12 = .ok (.goto 4, 3) := by decide +kernel
theorem kd_M_solve_15 : decode kc_M_solve 15 = .ok (.iconst 1, 1) := by decide +kernel
theorem kd_M_solve_16 : decode kc_M_solve 16 = .ok (.putfield 62, 3) := by decide +kernel
theorem kd_M_solve_19 : decode kc_M_solve 19 = .ok (.aload_n 0, 1) := by decide +kernel
theorem kd_M_solve_20 : decode kc_M_solve 20 = .ok (.getfield 62, 3) := by decide +kernel
theorem kd_M_solve_23 : decode kc_M_solve 23 = .ok (.ifCond .le 5, 3) := by decide +kernel
theorem kd_M_solve_26 : decode kc_M_solve 26 = .ok (.iconst 0, 1) := by decide +kernel
theorem kd_M_solve_27 : decode kc_M_solve 27 = .ok (.ireturn, 1) := by decide +kernel
theorem kd_M_solve_28 : decode kc_M_solve 28 = .ok (.aload_n 0, 1) := by decide +kernel
theorem kd_M_solve_29 : decode kc_M_solve 29 = .ok (.invokevirtual 121, 3) := by decide +kernel
theorem kd_M_solve_32 : decode kc_M_solve 32 = .ok (.aload_n 0, 1) := by decide +kernel
theorem kd_M_solve_33 : decode kc_M_solve 33 = .ok (.aload_n 0, 1) := by decide +kernel
theorem kd_M_solve_34 : decode kc_M_solve 34 = .ok (.invokevirtual 124, 3) := by decide +kernel
theorem kd_M_solve_37 : decode kc_M_solve 37 = .ok (.iload_n 1, 1) := by decide +kernel
theorem kd_M_solve_38 : decode kc_M_solve 38 = .ok (.i2l, 1) := by decide +kernel
theorem kd_M_solve_39 : decode kc_M_solve 39 = .ok (.lcmp, 1) := by decide +kernel
theorem kd_M_solve_40 : decode kc_M_solve 40 = .ok (.ifCond .gt 7, 3) := by decide +kernel
theorem kd_M_solve_43 : decode kc_M_solve 43 = .ok (.iconst 1, 1) := by decide +kernel
theorem kd_M_solve_44 : decode kc_M_solve 44 = .ok (.goto 4, 3) := by decide +kernel
theorem kd_M_solve_47 : decode kc_M_solve 47 = .ok (.iconst 0, 1) := by decide +kernel
theorem kd_M_solve_48 : decode kc_M_solve 48 = .ok (.putfield 128, 3) := by decide +kernel
theorem kd_M_solve_51 : decode kc_M_solve 51 = .ok (.aload_n 0, 1) := by decide +kernel
theorem kd_M_solve_52 : decode kc_M_solve 52 = .ok (.getfield 128, 3) := by decide +kernel
theorem kd_M_solve_55 : decode kc_M_solve 55 = .ok (.ifCond .eq 10, 3) := by decide +kernel
theorem kd_M_solve_58 : decode kc_M_solve 58 = .ok (.aload_n 0, 1) := by decide +kernel
theorem kd_M_solve_59 : decode kc_M_solve 59 = .ok (.invokevirtual 132, 3) := by decide +kernel
theorem kd_M_solve_62 : decode kc_M_solve 62 = .ok (.goto 7, 3) := by decide +kernel
theorem kd_M_solve_65 : decode kc_M_solve 65 = .ok (.aload_n 0, 1) := by decide +kernel
theorem kd_M_solve_66 : decode kc_M_solve 66 = .ok (.invokevirtual 135, 3) := by decide +kernel
theorem kd_M_solve_69 : decode kc_M_solve 69 = .ok (.iconst 0, 1) := by decide +kernel
theorem kd_M_solve_70 : decode kc_M_solve 70 = .ok (.istore_n 2, 1) := by decide +kernel
theorem kd_M_solve_71 : decode kc_M_solve 71 = .ok (.iload_n 2, 1) := by decide +kernel
theorem kd_M_solve_72 : decode kc_M_solve 72 = .ok (.aload_n 0, 1) := by decide +kernel
theorem kd_M_solve_73 : decode kc_M_solve 73 = .ok (.getfield 73, 3) := by decide +kernel
theorem kd_M_solve_76 : decode kc_M_solve 76 = .ok (.if_icmp .ge 21, 3) := by decide +kernel
theorem kd_M_solve_79 : decode kc_M_solve 79 = .ok (.aload_n 0, 1) := by decide +kernel
theorem kd_M_solve_80 : decode kc_M_solve 80 = .ok (.getfield 47, 3) := by decide +kernel
theorem kd_M_solve_83 : decode kc_M_solve 83 = .ok (.iload_n 2, 1) := by decide +kernel
theorem kd_M_solve_84 : decode kc_M_solve 84 = .ok (.aload_n 0, 1) := by decide +kernel
theorem kd_M_solve_85 : decode kc_M_solve 85 = .ok (.getfield 50, 3) := by decide +kernel
theorem kd_M_solve_88 : decode kc_M_solve 88 = .ok (.iload_n 2, 1) := by decide +kernel
theorem kd_M_solve_89 : decode kc_M_solve 89 = .ok (.iaload, 1) := by decide +kernel
theorem kd_M_solve_90 : decode kc_M_solve 90 = .ok (.iastore, 1) := by decide +kernel
theorem kd_M_solve_91 : decode kc_M_solve 91 = .ok (.iinc 2 1, 3) := by decide +kernel
theorem kd_M_solve_94 : decode kc_M_solve 94 = .ok (.goto (-23), 3) := by decide +kernel
theorem kd_M_solve_97 : decode kc_M_solve 97 = .ok (.aload_n 0, 1) := by decide +kernel
theorem kd_M_solve_98 : decode kc_M_solve 98 = .ok (.iconst 0, 1) := by decide +kernel
theorem kd_M_solve_99 : decode kc_M_solve 99 = .ok (.invokevirtual 111, 3) := by decide +kernel
theorem kd_M_solve_102 : decode kc_M_solve 102 = .ok (.iconst 0, 1) := by decide +kernel
theorem kd_M_solve_103 : decode kc_M_solve 103 = .ok (.istore_n 2, 1) := by decide +kernel
theorem kd_M_solve_104 : decode kc_M_solve 104 = .ok (.iload_n 2, 1) := by decide +kernel
theorem kd_M_solve_105 : decode kc_M_solve 105 = .ok (.aload_n 0, 1) := by decide +kernel
theorem kd_M_solve_106 : decode kc_M_solve 106 = .ok (.getfield 73, 3) := by decide +kernel
theorem kd_M_solve_109 : decode kc_M_solve 109 = .ok (.if_icmp .ge 47, 3) := by decide +kernel
theorem kd_M_solve_112 : decode kc_M_solve 112 = .ok (.iconst 0, 1) := by decide +kernel
theorem kd_M_solve_113 : decode kc_M_solve 113 = .ok (.istore_n 3, 1) := by decide +kernel
theorem kd_M_solve_114 : decode kc_M_solve 114 = .ok (.iload_n 3, 1) := by decide +kernel
theorem kd_M_solve_115 : decode kc_M_solve 115 = .ok (.aload_n 0, 1) := by decide +kernel
theorem kd_M_solve_116 : decode kc_M_solve 116 = .ok (.getfield 66, 3) := by decide +kernel
theorem kd_M_solve_119 : decode kc_M_solve 119 = .ok (.if_icmp .ge 31, 3) := by decide +kernel
theorem kd_M_solve_122 : decode kc_M_solve 122 = .ok (.aload_n 0, 1) := by decide +kernel
theorem kd_M_solve_123 : decode kc_M_solve 123 = .ok (.getfield 38, 3) := by decide +kernel
theorem kd_M_solve_126 : decode kc_M_solve 126 = .ok (.bipush 8, 2) := by decide +kernel
theorem kd_M_solve_128 : decode kc_M_solve 128 = .ok (.iload_n 2, 1) := by decide +kernel
theorem kd_M_solve_129 : decode kc_M_solve 129 = .ok (.imul, 1) := by decide +kernel
theorem kd_M_solve_130 : decode kc_M_solve 130 = .ok (.iload_n 3, 1) := by decide +kernel
theorem kd_M_solve_131 : decode kc_M_solve 131 = .ok (.iadd, 1) := by decide +kernel
theorem kd_M_solve_132 : decode kc_M_solve 132 = .ok (.aload_n 0, 1) := by decide +kernel
theorem kd_M_solve_133 : decode kc_M_solve 133 = .ok (.getfield 59, 3) := by decide +kernel
theorem kd_M_solve_136 : decode kc_M_solve 136 = .ok (.bipush 8, 2) := by decide +kernel
theorem kd_M_solve_138 : decode kc_M_solve 138 = .ok (.iload_n 2, 1) := by decide +kernel
theorem kd_M_solve_139 : decode kc_M_solve 139 = .ok (.imul, 1) := by decide +kernel
theorem kd_M_solve_140 : decode kc_M_solve 140 = .ok (.iload_n 3, 1) := by decide +kernel
theorem kd_M_solve_141 : decode kc_M_solve 141 = .ok (.iadd, 1) := by decide +kernel
theorem kd_M_solve_142 : decode kc_M_solve 142 = .ok (.iaload, 1) := by decide +kernel
theorem kd_M_solve_143 : decode kc_M_solve 143 = .ok (.iastore, 1) := by decide +kernel
theorem kd_M_solve_144 : decode kc_M_solve 144 = .ok (.iinc 3 1, 3) := by decide +kernel
theorem kd_M_solve_147 : decode kc_M_solve 147 = .ok (.goto (-33), 3) := by decide +kernel
theorem kd_M_solve_150 : decode kc_M_solve 150 = .ok (.iinc 2 1, 3) := by decide +kernel
theorem kd_M_solve_153 : decode kc_M_solve 153 = .ok (.goto (-49), 3) := by decide +kernel
theorem kd_M_solve_156 : decode kc_M_solve 156 = .ok (.aload_n 0, 1) := by decide +kernel
theorem kd_M_solve_157 : decode kc_M_solve 157 = .ok (.getfield 56, 3) := by decide +kernel
theorem kd_M_solve_160 : decode kc_M_solve 160 = .ok (.aload_n 0, 1) := by decide +kernel
theorem kd_M_solve_161 : decode kc_M_solve 161 = .ok (.getfield 73, 3) := by decide +kernel
theorem kd_M_solve_164 : decode kc_M_solve 164 = .ok (.iaload, 1) := by decide +kernel
theorem kd_M_solve_165 : decode kc_M_solve 165 = .ok (.ireturn, 1) := by decide +kernel
theorem kd_M_layOut_0 : decode kc_M_layOut 0 = .ok (.iconst 0, 1) := by decide +kernel
theorem kd_M_layOut_1 : decode kc_M_layOut 1 = .ok (.istore_n 1, 1) := by decide +kernel
theorem kd_M_layOut_2 : decode kc_M_layOut 2 = .ok (.iload_n 1, 1) := by decide +kernel
theorem kd_M_layOut_3 : decode kc_M_layOut 3 = .ok (.aload_n 0, 1) := by decide +kernel
theorem kd_M_layOut_4 : decode kc_M_layOut 4 = .ok (.getfield 73, 3) := by decide +kernel
theorem kd_M_layOut_7 : decode kc_M_layOut 7 = .ok (.if_icmp .ge 77, 3) := by decide +kernel
theorem kd_M_layOut_10 : decode kc_M_layOut 10 = .ok (.aload_n 0, 1) := by decide +kernel
theorem kd_M_layOut_11 : decode kc_M_layOut 11 = .ok (.getfield 44, 3) := by decide +kernel
theorem kd_M_layOut_14 : decode kc_M_layOut 14 = .ok (.iload_n 1, 1) := by decide +kernel
theorem kd_M_layOut_15 : decode kc_M_layOut 15 = .ok (.iconst 0, 1) := by decide +kernel
theorem kd_M_layOut_16 : decode kc_M_layOut 16 = .ok (.iastore, 1) := by decide +kernel
theorem kd_M_layOut_17 : decode kc_M_layOut 17 = .ok (.iconst 0, 1) := by decide +kernel
theorem kd_M_layOut_18 : decode kc_M_layOut 18 = .ok (.istore_n 2, 1) := by decide +kernel
theorem kd_M_layOut_19 : decode kc_M_layOut 19 = .ok (.iload_n 2, 1) := by decide +kernel
theorem kd_M_layOut_20 : decode kc_M_layOut 20 = .ok (.aload_n 0, 1) := by decide +kernel
theorem kd_M_layOut_21 : decode kc_M_layOut 21 = .ok (.getfield 66, 3) := by decide +kernel
theorem kd_M_layOut_24 : decode kc_M_layOut 24 = .ok (.if_icmp .ge 54, 3) := by decide +kernel
theorem kd_M_layOut_27 : decode kc_M_layOut 27 = .ok (.aload_n 0, 1) := by decide +kernel
theorem kd_M_layOut_28 : decode kc_M_layOut 28 = .ok (.iload_n 2, 1) := by decide +kernel
theorem kd_M_layOut_29 : decode kc_M_layOut 29 = .ok (.invokevirtual 96, 3) := by decide +kernel
theorem kd_M_layOut_32 : decode kc_M_layOut 32 = .ok (.istore_n 3, 1) := by decide +kernel
theorem kd_M_layOut_33 : decode kc_M_layOut 33 = .ok (.aload_n 0, 1) := by decide +kernel
theorem kd_M_layOut_34 : decode kc_M_layOut 34 = .ok (.iload_n 3, 1) := by decide +kernel
theorem kd_M_layOut_35 : decode kc_M_layOut 35 = .ok (.iload_n 1, 1) := by decide +kernel
theorem kd_M_layOut_36 : decode kc_M_layOut 36 = .ok (.invokevirtual 90, 3) := by decide +kernel
theorem kd_M_layOut_39 : decode kc_M_layOut 39 = .ok (.ifCond .ne 6, 3) := by decide +kernel
theorem kd_M_layOut_42 : decode kc_M_layOut 42 = .ok (.goto 30, 3) := by decide +kernel
theorem kd_M_layOut_45 : decode kc_M_layOut 45 = .ok (.aload_n 0, 1) := by decide +kernel
theorem kd_M_layOut_46 : decode kc_M_layOut 46 = .ok (.getfield 41, 3) := by decide +kernel
theorem kd_M_layOut_49 : decode kc_M_layOut 49 = .ok (.bipush 8, 2) := by decide +kernel
theorem kd_M_layOut_51 : decode kc_M_layOut 51 = .ok (.iload_n 1, 1) := by decide +kernel
theorem kd_M_layOut_52 : decode kc_M_layOut 52 = .ok (.imul, 1) := by decide +kernel
theorem kd_M_layOut_53 : decode kc_M_layOut 53 = .ok (.aload_n 0, 1) := by decide +kernel
theorem kd_M_layOut_54 : decode kc_M_layOut 54 = .ok (.getfield 44, 3) := by decide +kernel
theorem kd_M_layOut_57 : decode kc_M_layOut 57 = .ok (.iload_n 1, 1) := by decide +kernel
theorem kd_M_layOut_58 : decode kc_M_layOut 58 = .ok (.iaload, 1) := by decide +kernel
theorem kd_M_layOut_59 : decode kc_M_layOut 59 = .ok (.iadd, 1) := by decide +kernel
theorem kd_M_layOut_60 : decode kc_M_layOut 60 = .ok (.iload_n 3, 1) := by decide +kernel
theorem kd_M_layOut_61 : decode kc_M_layOut 61 = .ok (.iastore, 1) := by decide +kernel
theorem kd_M_layOut_62 : decode kc_M_layOut 62 = .ok (.aload_n 0, 1) := by decide +kernel
theorem kd_M_layOut_63 : decode kc_M_layOut 63 = .ok (.getfield 44, 3) := by decide +kernel
theorem kd_M_layOut_66 : decode kc_M_layOut 66 = .ok (.iload_n 1, 1) := by decide +kernel
theorem kd_M_layOut_67 : decode kc_M_layOut 67 = .ok (.dup2, 1) := by decide +kernel
theorem kd_M_layOut_68 : decode kc_M_layOut 68 = .ok (.iaload, 1) := by decide +kernel
theorem kd_M_layOut_69 : decode kc_M_layOut 69 = .ok (.iconst 1, 1) := by decide +kernel
theorem kd_M_layOut_70 : decode kc_M_layOut 70 = .ok (.iadd, 1) := by decide +kernel
theorem kd_M_layOut_71 : decode kc_M_layOut 71 = .ok (.iastore, 1) := by decide +kernel
theorem kd_M_layOut_72 : decode kc_M_layOut 72 = .ok (.iinc 2 1, 3) := by decide +kernel
theorem kd_M_layOut_75 : decode kc_M_layOut 75 = .ok (.goto (-56), 3) := by decide +kernel
theorem kd_M_layOut_78 : decode kc_M_layOut 78 = .ok (.iinc 1 1, 3) := by decide +kernel
theorem kd_M_layOut_81 : decode kc_M_layOut 81 = .ok (.goto (-79), 3) := by decide +kernel
theorem kd_M_layOut_84 : decode kc_M_layOut 84 = .ok (.iconst 0, 1) := by decide +kernel
theorem kd_M_layOut_85 : decode kc_M_layOut 85 = .ok (.istore_n 1, 1) := by decide +kernel
theorem kd_M_layOut_86 : decode kc_M_layOut 86 = .ok (.iload_n 1, 1) := by decide +kernel
theorem kd_M_layOut_87 : decode kc_M_layOut 87 = .ok (.aload_n 0, 1) := by decide +kernel
theorem kd_M_layOut_88 : decode kc_M_layOut 88 = .ok (.getfield 66, 3) := by decide +kernel
theorem kd_M_layOut_91 : decode kc_M_layOut 91 = .ok (.if_icmp .ge 21, 3) := by decide +kernel
theorem kd_M_layOut_94 : decode kc_M_layOut 94 = .ok (.aload_n 0, 1) := by decide +kernel
theorem kd_M_layOut_95 : decode kc_M_layOut 95 = .ok (.getfield 53, 3) := by decide +kernel
theorem kd_M_layOut_98 : decode kc_M_layOut 98 = .ok (.iload_n 1, 1) := by decide +kernel
theorem kd_M_layOut_99 : decode kc_M_layOut 99 = .ok (.aload_n 0, 1) := by decide +kernel
theorem kd_M_layOut_100 : decode kc_M_layOut 100 = .ok (.getfield 16, 3) := by decide +kernel
theorem kd_M_layOut_103 : decode kc_M_layOut 103 = .ok (.iload_n 1, 1) := by decide +kernel
theorem kd_M_layOut_104 : decode kc_M_layOut 104 = .ok (.iaload, 1) := by decide +kernel
theorem kd_M_layOut_105 : decode kc_M_layOut 105 = .ok (.iastore, 1) := by decide +kernel
theorem kd_M_layOut_106 : decode kc_M_layOut 106 = .ok (.iinc 1 1, 3) := by decide +kernel
theorem kd_M_layOut_109 : decode kc_M_layOut 109 = .ok (.goto (-23), 3) := by decide +kernel
theorem kd_M_layOut_112 : decode kc_M_layOut 112 = .ok (.aload_n 0, 1) := by decide +kernel
theorem kd_M_layOut_113 : decode kc_M_layOut 113 = .ok (.getfield 56, 3) := by decide +kernel
theorem kd_M_layOut_116 : decode kc_M_layOut 116 = .ok (.iconst 0, 1) := by decide +kernel
theorem kd_M_layOut_117 : decode kc_M_layOut 117 = .ok (.iconst 0, 1) := by decide +kernel
theorem kd_M_layOut_118 : decode kc_M_layOut 118 = .ok (.iastore, 1) := by decide +kernel
theorem kd_M_layOut_119 : decode kc_M_layOut 119 = .ok (.return_, 1) := by decide +kernel
theorem kd_M_lotAt_0 : decode kc_M_lotAt 0 = .ok (.iconst 0, 1) := by decide +kernel
theorem kd_M_lotAt_1 : decode kc_M_lotAt 1 = .ok (.istore_n 2, 1) := by decide +kernel
theorem kd_M_lotAt_2 : decode kc_M_lotAt 2 = .ok (.iload_n 2, 1) := by decide +kernel
theorem kd_M_lotAt_3 : decode kc_M_lotAt 3 = .ok (.aload_n 0, 1) := by decide +kernel
theorem kd_M_lotAt_4 : decode kc_M_lotAt 4 = .ok (.getfield 66, 3) := by decide +kernel
theorem kd_M_lotAt_7 : decode kc_M_lotAt 7 = .ok (.if_icmp .ge 54, 3) := by decide +kernel
theorem kd_M_lotAt_10 : decode kc_M_lotAt 10 = .ok (.iconst 0, 1) := by decide +kernel
theorem kd_M_lotAt_11 : decode kc_M_lotAt 11 = .ok (.istore_n 3, 1) := by decide +kernel
theorem kd_M_lotAt_12 : decode kc_M_lotAt 12 = .ok (.iconst 0, 1) := by decide +kernel
theorem kd_M_lotAt_13 : decode kc_M_lotAt 13 = .ok (.istore 4, 2) := by decide +kernel
theorem kd_M_lotAt_15 : decode kc_M_lotAt 15 = .ok (.iload 4, 2) := by decide +kernel
theorem kd_M_lotAt_17 : decode kc_M_lotAt 17 = .ok (.aload_n 0, 1) := by decide +kernel
theorem kd_M_lotAt_18 : decode kc_M_lotAt 18 = .ok (.getfield 66, 3) := by decide +kernel
theorem kd_M_lotAt_21 : decode kc_M_lotAt 21 = .ok (.if_icmp .ge 27, 3) := by decide +kernel
theorem kd_M_lotAt_24 : decode kc_M_lotAt 24 = .ok (.iload_n 3, 1) := by decide +kernel
theorem kd_M_lotAt_25 : decode kc_M_lotAt 25 = .ok (.aload_n 0, 1) := by decide +kernel
theorem kd_M_lotAt_26 : decode kc_M_lotAt 26 = .ok (.iload 4, 2) := by decide +kernel
theorem kd_M_lotAt_28 : decode kc_M_lotAt 28 = .ok (.iload_n 2, 1) := by decide +kernel
theorem kd_M_lotAt_29 : decode kc_M_lotAt 29 = .ok (.invokevirtual 93, 3) := by decide +kernel
theorem kd_M_lotAt_32 : decode kc_M_lotAt 32 = .ok (.ifCond .eq 7, 3) := by decide +kernel
theorem kd_M_lotAt_35 : decode kc_M_lotAt 35 = .ok (.iconst 1, 1) := by decide +kernel
theorem kd_M_lotAt_36 : decode kc_M_lotAt 36 = .ok (.goto 4, 3) := by decide +kernel
theorem kd_M_lotAt_39 : decode kc_M_lotAt 39 = .ok (.iconst 0, 1) := by decide +kernel
theorem kd_M_lotAt_40 : decode kc_M_lotAt 40 = .ok (.iadd, 1) := by decide +kernel
theorem kd_M_lotAt_41 : decode kc_M_lotAt 41 = .ok (.istore_n 3, 1) := by decide +kernel
theorem kd_M_lotAt_42 : decode kc_M_lotAt 42 = .ok (.iinc 4 1, 3) := by decide +kernel
theorem kd_M_lotAt_45 : decode kc_M_lotAt 45 = .ok (.goto (-30), 3) := by decide +kernel
theorem kd_M_lotAt_48 : decode kc_M_lotAt 48 = .ok (.iload_n 3, 1) := by decide +kernel
theorem kd_M_lotAt_49 : decode kc_M_lotAt 49 = .ok (.iload_n 1, 1) := by decide +kernel
theorem kd_M_lotAt_50 : decode kc_M_lotAt 50 = .ok (.if_icmp .ne 5, 3) := by decide +kernel
theorem kd_M_lotAt_53 : decode kc_M_lotAt 53 = .ok (.iload_n 2, 1) := by decide +kernel
theorem kd_M_lotAt_54 : decode kc_M_lotAt 54 = .ok (.ireturn, 1) := by decide +kernel
theorem kd_M_lotAt_55 : decode kc_M_lotAt 55 = .ok (.iinc 2 1, 3) := by decide +kernel
theorem kd_M_lotAt_58 : decode kc_M_lotAt 58 = .ok (.goto (-56), 3) := by decide +kernel
theorem kd_M_lotAt_61 : decode kc_M_lotAt 61 = .ok (.iconst (-1), 1) := by decide +kernel
theorem kd_M_lotAt_62 : decode kc_M_lotAt 62 = .ok (.ireturn, 1) := by decide +kernel
theorem kd_M_isBefore_0 : decode kc_M_isBefore 0 = .ok (.aload_n 0, 1) := by decide +kernel
theorem kd_M_isBefore_1 : decode kc_M_isBefore 1 = .ok (.getfield 19, 3) := by decide +kernel
theorem kd_M_isBefore_4 : decode kc_M_isBefore 4 = .ok (.iload_n 1, 1) := by decide +kernel
theorem kd_M_isBefore_5 : decode kc_M_isBefore 5 = .ok (.iaload, 1) := by decide +kernel
theorem kd_M_isBefore_6 : decode kc_M_isBefore 6 = .ok (.aload_n 0, 1) := by decide +kernel
theorem kd_M_isBefore_7 : decode kc_M_isBefore 7 = .ok (.getfield 19, 3) := by decide +kernel
theorem kd_M_isBefore_10 : decode kc_M_isBefore 10 = .ok (.iload_n 2, 1) := by decide +kernel
theorem kd_M_isBefore_11 : decode kc_M_isBefore 11 = .ok (.iaload, 1) := by decide +kernel
theorem kd_M_isBefore_12 : decode kc_M_isBefore 12 = .ok (.if_icmp .eq 24, 3) := by decide +kernel
theorem kd_M_isBefore_15 : decode kc_M_isBefore 15 = .ok (.aload_n 0, 1) := by decide +kernel
theorem kd_M_isBefore_16 : decode kc_M_isBefore 16 = .ok (.getfield 19, 3) := by decide +kernel
theorem kd_M_isBefore_19 : decode kc_M_isBefore 19 = .ok (.iload_n 1, 1) := by decide +kernel
theorem kd_M_isBefore_20 : decode kc_M_isBefore 20 = .ok (.iaload, 1) := by decide +kernel
theorem kd_M_isBefore_21 : decode kc_M_isBefore 21 = .ok (.aload_n 0, 1) := by decide +kernel
theorem kd_M_isBefore_22 : decode kc_M_isBefore 22 = .ok (.getfield 19, 3) := by decide +kernel
theorem kd_M_isBefore_25 : decode kc_M_isBefore 25 = .ok (.iload_n 2, 1) := by decide +kernel
theorem kd_M_isBefore_26 : decode kc_M_isBefore 26 = .ok (.iaload, 1) := by decide +kernel
theorem kd_M_isBefore_27 : decode kc_M_isBefore 27 = .ok (.if_icmp .ge 7, 3) := by decide +kernel
theorem kd_M_isBefore_30 : decode kc_M_isBefore 30 = .ok (.iconst 1, 1) := by decide +kernel
theorem kd_M_isBefore_31 : decode kc_M_isBefore 31 = .ok (.goto 4, 3) := by decide +kernel
theorem kd_M_isBefore_34 : decode kc_M_isBefore 34 = .ok (.iconst 0, 1) := by decide +kernel
theorem kd_M_isBefore_35 : decode kc_M_isBefore 35 = .ok (.ireturn, 1) := by decide +kernel
theorem kd_M_isBefore_36 : decode kc_M_isBefore 36 = .ok (.aload_n 0, 1) := by decide +kernel
theorem kd_M_isBefore_37 : decode kc_M_isBefore 37 = .ok (.getfield 7, 3) := by decide +kernel
theorem kd_M_isBefore_40 : decode kc_M_isBefore 40 = .ok (.iload_n 1, 1) := by decide +kernel
theorem kd_M_isBefore_41 : decode kc_M_isBefore 41 = .ok (.iaload, 1) := by decide +kernel
theorem kd_M_isBefore_42 : decode kc_M_isBefore 42 = .ok (.aload_n 0, 1) := by decide +kernel
theorem kd_M_isBefore_43 : decode kc_M_isBefore 43 = .ok (.getfield 7, 3) := by decide +kernel
theorem kd_M_isBefore_46 : decode kc_M_isBefore 46 = .ok (.iload_n 2, 1) := by decide +kernel
theorem kd_M_isBefore_47 : decode kc_M_isBefore 47 = .ok (.iaload, 1) := by decide +kernel
theorem kd_M_isBefore_48 : decode kc_M_isBefore 48 = .ok (.if_icmp .eq 26, 3) := by decide +kernel
theorem kd_M_isBefore_51 : decode kc_M_isBefore 51 = .ok (.aload_n 0, 1) := by decide +kernel
theorem kd_M_isBefore_52 : decode kc_M_isBefore 52 = .ok (.getfield 7, 3) := by decide +kernel
theorem kd_M_isBefore_55 : decode kc_M_isBefore 55 = .ok (.iload_n 1, 1) := by decide +kernel
theorem kd_M_isBefore_56 : decode kc_M_isBefore 56 = .ok (.iaload, 1) := by decide +kernel
theorem kd_M_isBefore_57 : decode kc_M_isBefore 57 = .ok (.aload_n 0, 1) := by decide +kernel
theorem kd_M_isBefore_58 : decode kc_M_isBefore 58 = .ok (.getfield 7, 3) := by decide +kernel
theorem kd_M_isBefore_61 : decode kc_M_isBefore 61 = .ok (.iload_n 2, 1) := by decide +kernel
theorem kd_M_isBefore_62 : decode kc_M_isBefore 62 = .ok (.iaload, 1) := by decide +kernel
theorem kd_M_isBefore_63 : decode kc_M_isBefore 63 = .ok (.if_icmp .ge 7, 3) := by decide +kernel
theorem kd_M_isBefore_66 : decode kc_M_isBefore 66 = .ok (.iconst 1, 1) := by decide +kernel
theorem kd_M_isBefore_67 : decode kc_M_isBefore 67 = .ok (.goto 17, 3) := by decide +kernel
theorem kd_M_isBefore_70 : decode kc_M_isBefore 70 = .ok (.iconst 0, 1) := by decide +kernel
theorem kd_M_isBefore_71 : decode kc_M_isBefore 71 = .ok (.goto 13, 3) := by decide +kernel
theorem kd_M_isBefore_74 : decode kc_M_isBefore 74 = .ok (.iload_n 1, 1) := by decide +kernel
theorem kd_M_isBefore_75 : decode kc_M_isBefore 75 = .ok (.iload_n 2, 1) := by decide +kernel
theorem kd_M_isBefore_76 : decode kc_M_isBefore 76 = .ok (.if_icmp .ge 7, 3) := by decide +kernel
theorem kd_M_isBefore_79 : decode kc_M_isBefore 79 = .ok (.iconst 1, 1) := by decide +kernel
theorem kd_M_isBefore_80 : decode kc_M_isBefore 80 = .ok (.goto 4, 3) := by decide +kernel
theorem kd_M_isBefore_83 : decode kc_M_isBefore 83 = .ok (.iconst 0, 1) := by decide +kernel
theorem kd_M_isBefore_84 : decode kc_M_isBefore 84 = .ok (.ireturn, 1) := by decide +kernel
theorem kd_M_product_0 : decode kc_M_product 0 = .ok (.lconst 1, 1) := by decide +kernel
theorem kd_M_product_1 : decode kc_M_product 1 = .ok (.lstore_n 1, 1) := by decide +kernel
theorem kd_M_product_2 : decode kc_M_product 2 = .ok (.iconst 0, 1) := by decide +kernel
theorem kd_M_product_3 : decode kc_M_product 3 = .ok (.istore_n 3, 1) := by decide +kernel
theorem kd_M_product_4 : decode kc_M_product 4 = .ok (.iload_n 3, 1) := by decide +kernel
theorem kd_M_product_5 : decode kc_M_product 5 = .ok (.aload_n 0, 1) := by decide +kernel
theorem kd_M_product_6 : decode kc_M_product 6 = .ok (.getfield 73, 3) := by decide +kernel
theorem kd_M_product_9 : decode kc_M_product 9 = .ok (.if_icmp .ge 47, 3) := by decide +kernel
theorem kd_M_product_12 : decode kc_M_product 12 = .ok (.iconst 0, 1) := by decide +kernel
theorem kd_M_product_13 : decode kc_M_product 13 = .ok (.istore 4, 2) := by decide +kernel
theorem kd_M_product_15 : decode kc_M_product 15 = .ok (.iload 4, 2) := by decide +kernel
theorem kd_M_product_17 : decode kc_M_product 17 = .ok (.aload_n 0, 1) := by decide +kernel
theorem kd_M_product_18 : decode kc_M_product 18 = .ok (.getfield 66, 3) := by decide +kernel
theorem kd_M_product_21 : decode kc_M_product 21 = .ok (.if_icmp .ge 29, 3) := by decide +kernel
theorem kd_M_product_24 : decode kc_M_product 24 = .ok (.lload_n 1, 1) := by decide +kernel
theorem kd_M_product_25 : decode kc_M_product 25 = .ok (.aload_n 0, 1) := by decide +kernel
theorem kd_M_product_26 : decode kc_M_product 26 = .ok (.iload 4, 2) := by decide +kernel
theorem kd_M_product_28 : decode kc_M_product 28 = .ok (.iload_n 3, 1) := by decide +kernel
theorem kd_M_product_29 : decode kc_M_product 29 = .ok (.invokevirtual 90, 3) := by decide +kernel
theorem kd_M_product_32 : decode kc_M_product 32 = .ok (.ifCond .eq 9, 3) := by decide +kernel
theorem kd_M_product_35 : decode kc_M_product 35 = .ok (.ldc2_w 118, 3) := by decide +kernel
theorem kd_M_product_38 : decode kc_M_product 38 = .ok (.goto 4, 3) := by decide +kernel
theorem kd_M_product_41 : decode kc_M_product 41 = .ok (.lconst 1, 1) := by decide +kernel
theorem kd_M_product_42 : decode kc_M_product 42 = .ok (.lmul, 1) := by decide +kernel
theorem kd_M_product_43 : decode kc_M_product 43 = .ok (.lstore_n 1, 1) := by decide +kernel
theorem kd_M_product_44 : decode kc_M_product 44 = .ok (.iinc 4 1, 3) := by decide +kernel
theorem kd_M_product_47 : decode kc_M_product 47 = .ok (.goto (-32), 3) := by decide +kernel
theorem kd_M_product_50 : decode kc_M_product 50 = .ok (.iinc 3 1, 3) := by decide +kernel
theorem kd_M_product_53 : decode kc_M_product 53 = .ok (.goto (-49), 3) := by decide +kernel
theorem kd_M_product_56 : decode kc_M_product 56 = .ok (.lload_n 1, 1) := by decide +kernel
theorem kd_M_product_57 : decode kc_M_product 57 = .ok (.lreturn, 1) := by decide +kernel
theorem kd_M_exactly_0 : decode kc_M_exactly 0 = .ok (.iconst 0, 1) := by decide +kernel
theorem kd_M_exactly_1 : decode kc_M_exactly 1 = .ok (.istore_n 1, 1) := by decide +kernel
theorem kd_M_exactly_2 : decode kc_M_exactly 2 = .ok (.iload_n 1, 1) := by decide +kernel
theorem kd_M_exactly_3 : decode kc_M_exactly 3 = .ok (.aload_n 0, 1) := by decide +kernel
theorem kd_M_exactly_4 : decode kc_M_exactly 4 = .ok (.getfield 73, 3) := by decide +kernel
theorem kd_M_exactly_7 : decode kc_M_exactly 7 = .ok (.if_icmp .ge 16, 3) := by decide +kernel
theorem kd_M_exactly_10 : decode kc_M_exactly 10 = .ok (.aload_n 0, 1) := by decide +kernel
theorem kd_M_exactly_11 : decode kc_M_exactly 11 = .ok (.getfield 47, 3) := by decide +kernel
theorem kd_M_exactly_14 : decode kc_M_exactly 14 = .ok (.iload_n 1, 1) := by decide +kernel
theorem kd_M_exactly_15 : decode kc_M_exactly 15 = .ok (.iconst 0, 1) := by decide +kernel
theorem kd_M_exactly_16 : decode kc_M_exactly 16 = .ok (.iastore, 1) := by decide +kernel
theorem kd_M_exactly_17 : decode kc_M_exactly 17 = .ok (.iinc 1 1, 3) := by decide +kernel
theorem kd_M_exactly_20 : decode kc_M_exactly 20 = .ok (.goto (-18), 3) := by decide +kernel
theorem kd_M_exactly_23 : decode kc_M_exactly 23 = .ok (.iconst (-1), 1) := by decide +kernel
theorem kd_M_exactly_24 : decode kc_M_exactly 24 = .ok (.istore_n 1, 1) := by decide +kernel
theorem kd_M_exactly_25 : decode kc_M_exactly 25 = .ok (.iconst 0, 1) := by decide +kernel
theorem kd_M_exactly_26 : decode kc_M_exactly 26 = .ok (.istore_n 2, 1) := by decide +kernel
theorem kd_M_exactly_27 : decode kc_M_exactly 27 = .ok (.iload_n 2, 1) := by decide +kernel
theorem kd_M_exactly_28 : decode kc_M_exactly 28 = .ok (.iconst (-1), 1) := by decide +kernel
theorem kd_M_exactly_29 : decode kc_M_exactly 29 = .ok (.if_icmp .eq 75, 3) := by decide +kernel
theorem kd_M_exactly_32 : decode kc_M_exactly 32 = .ok (.aload_n 0, 1) := by decide +kernel
theorem kd_M_exactly_33 : decode kc_M_exactly 33 = .ok (.iload_n 2, 1) := by decide +kernel
theorem kd_M_exactly_34 : decode kc_M_exactly 34 = .ok (.invokevirtual 111, 3) := by decide +kernel
theorem kd_M_exactly_37 : decode kc_M_exactly 37 = .ok (.iload_n 1, 1) := by decide +kernel
theorem kd_M_exactly_38 : decode kc_M_exactly 38 = .ok (.iconst (-1), 1) := by decide +kernel
theorem kd_M_exactly_39 : decode kc_M_exactly 39 = .ok (.if_icmp .eq 19, 3) := by decide +kernel
theorem kd_M_exactly_42 : decode kc_M_exactly 42 = .ok (.aload_n 0, 1) := by decide +kernel
theorem kd_M_exactly_43 : decode kc_M_exactly 43 = .ok (.getfield 56, 3) := by decide +kernel
theorem kd_M_exactly_46 : decode kc_M_exactly 46 = .ok (.aload_n 0, 1) := by decide +kernel
theorem kd_M_exactly_47 : decode kc_M_exactly 47 = .ok (.getfield 73, 3) := by decide +kernel
theorem kd_M_exactly_50 : decode kc_M_exactly 50 = .ok (.iaload, 1) := by decide +kernel
theorem kd_M_exactly_51 : decode kc_M_exactly 51 = .ok (.iload_n 1, 1) := by decide +kernel
theorem kd_M_exactly_52 : decode kc_M_exactly 52 = .ok (.if_icmp .lt 6, 3) := by decide +kernel
theorem kd_M_exactly_55 : decode kc_M_exactly 55 = .ok (.goto 41, 3) := by decide +kernel
theorem kd_M_exactly_58 : decode kc_M_exactly 58 = .ok (.aload_n 0, 1) := by decide +kernel
theorem kd_M_exactly_59 : decode kc_M_exactly 59 = .ok (.getfield 56, 3) := by decide +kernel
theorem kd_M_exactly_62 : decode kc_M_exactly 62 = .ok (.aload_n 0, 1) := by decide +kernel
theorem kd_M_exactly_63 : decode kc_M_exactly 63 = .ok (.getfield 73, 3) := by decide +kernel
theorem kd_M_exactly_66 : decode kc_M_exactly 66 = .ok (.iaload, 1) := by decide +kernel
theorem kd_M_exactly_67 : decode kc_M_exactly 67 = .ok (.istore_n 1, 1) := by decide +kernel
theorem kd_M_exactly_68 : decode kc_M_exactly 68 = .ok (.iconst 0, 1) := by decide +kernel
theorem kd_M_exactly_69 : decode kc_M_exactly 69 = .ok (.istore_n 3, 1) := by decide +kernel
theorem kd_M_exactly_70 : decode kc_M_exactly 70 = .ok (.iload_n 3, 1) := by decide +kernel
theorem kd_M_exactly_71 : decode kc_M_exactly 71 = .ok (.aload_n 0, 1) := by decide +kernel
theorem kd_M_exactly_72 : decode kc_M_exactly 72 = .ok (.getfield 73, 3) := by decide +kernel
theorem kd_M_exactly_75 : decode kc_M_exactly 75 = .ok (.if_icmp .ge 21, 3) := by decide +kernel
theorem kd_M_exactly_78 : decode kc_M_exactly 78 = .ok (.aload_n 0, 1) := by decide +kernel
theorem kd_M_exactly_79 : decode kc_M_exactly 79 = .ok (.getfield 50, 3) := by decide +kernel
theorem kd_M_exactly_82 : decode kc_M_exactly 82 = .ok (.iload_n 3, 1) := by decide +kernel
theorem kd_M_exactly_83 : decode kc_M_exactly 83 = .ok (.aload_n 0, 1) := by decide +kernel
theorem kd_M_exactly_84 : decode kc_M_exactly 84 = .ok (.getfield 47, 3) := by decide +kernel
theorem kd_M_exactly_87 : decode kc_M_exactly 87 = .ok (.iload_n 3, 1) := by decide +kernel
theorem kd_M_exactly_88 : decode kc_M_exactly 88 = .ok (.iaload, 1) := by decide +kernel
theorem kd_M_exactly_89 : decode kc_M_exactly 89 = .ok (.iastore, 1) := by decide +kernel
theorem kd_M_exactly_90 : decode kc_M_exactly 90 = .ok (.iinc 3 1, 3) := by decide +kernel
theorem kd_M_exactly_93 : decode kc_M_exactly 93 = .ok (.goto (-23), 3) := by decide +kernel
theorem kd_M_exactly_96 : decode kc_M_exactly 96 = .ok (.aload_n 0, 1) := by decide +kernel
theorem kd_M_exactly_97 : decode kc_M_exactly 97 = .ok (.invokevirtual 114, 3) := by decide +kernel
theorem kd_M_exactly_100 : decode kc_M_exactly 100 = .ok (.istore_n 2, 1) := by decide +kernel
theorem kd_M_exactly_101 : decode kc_M_exactly 101 = .ok (.goto (-74), 3) := by decide +kernel
theorem kd_M_exactly_104 : decode kc_M_exactly 104 = .ok (.return_, 1) := by decide +kernel
theorem kd_M_takeFrom_0 : decode kc_M_takeFrom 0 = .ok (.iload_n 1, 1) := by decide +kernel
theorem kd_M_takeFrom_1 : decode kc_M_takeFrom 1 = .ok (.istore_n 2, 1) := by decide +kernel
theorem kd_M_takeFrom_2 : decode kc_M_takeFrom 2 = .ok (.iload_n 2, 1) := by decide +kernel
theorem kd_M_takeFrom_3 : decode kc_M_takeFrom 3 = .ok (.aload_n 0, 1) := by decide +kernel
theorem kd_M_takeFrom_4 : decode kc_M_takeFrom 4 = .ok (.getfield 73, 3) := by decide +kernel
theorem kd_M_takeFrom_7 : decode kc_M_takeFrom 7 = .ok (.if_icmp .ge 14, 3) := by decide +kernel
theorem kd_M_takeFrom_10 : decode kc_M_takeFrom 10 = .ok (.aload_n 0, 1) := by decide +kernel
theorem kd_M_takeFrom_11 : decode kc_M_takeFrom 11 = .ok (.iload_n 2, 1) := by decide +kernel
theorem kd_M_takeFrom_12 : decode kc_M_takeFrom 12 = .ok (.invokevirtual 104, 3) := by decide +kernel
theorem kd_M_takeFrom_15 : decode kc_M_takeFrom 15 = .ok (.iinc 2 1, 3) := by decide +kernel
theorem kd_M_takeFrom_18 : decode kc_M_takeFrom 18 = .ok (.goto (-16), 3) := by decide +kernel
theorem kd_M_takeFrom_21 : decode kc_M_takeFrom 21 = .ok (.return_, 1) := by decide +kernel
theorem kd_M_take_0 : decode kc_M_take 0 = .ok (.aload_n 0, 1) := by decide +kernel
theorem kd_M_take_1 : decode kc_M_take 1 = .ok (.getfield 25, 3) := by decide +kernel
theorem kd_M_take_4 : decode kc_M_take 4 = .ok (.iload_n 1, 1) := by decide +kernel
theorem kd_M_take_5 : decode kc_M_take 5 = .ok (.iaload, 1) := by decide +kernel
theorem kd_M_take_6 : decode kc_M_take 6 = .ok (.istore_n 2, 1) := by decide +kernel
theorem kd_M_take_7 : decode kc_M_take 7 = .ok (.iconst 0, 1) := by decide +kernel
theorem kd_M_take_8 : decode kc_M_take 8 = .ok (.istore_n 3, 1) := by decide +kernel
theorem kd_M_take_9 : decode kc_M_take 9 = .ok (.iconst 0, 1) := by decide +kernel
theorem kd_M_take_10 : decode kc_M_take 10 = .ok (.istore 4, 2) := by decide +kernel
theorem kd_M_take_12 : decode kc_M_take 12 = .ok (.iload 4, 2) := by decide +kernel
theorem kd_M_take_14 : decode kc_M_take 14 = .ok (.aload_n 0, 1) := by decide +kernel
theorem kd_M_take_15 : decode kc_M_take 15 = .ok (.getfield 66, 3) := by decide +kernel
theorem kd_M_take_18 : decode kc_M_take 18 = .ok (.if_icmp .ge 48, 3) := by decide +kernel
theorem kd_M_take_21 : decode kc_M_take 21 = .ok (.aload_n 0, 1) := by decide +kernel
theorem kd_M_take_22 : decode kc_M_take 22 = .ok (.getfield 53, 3) := by decide +kernel
theorem kd_M_take_25 : decode kc_M_take 25 = .ok (.bipush 8, 2) := by decide +kernel
theorem kd_M_take_27 : decode kc_M_take 27 = .ok (.iload_n 1, 1) := by decide +kernel
theorem kd_M_take_28 : decode kc_M_take 28 = .ok (.iconst 1, 1) := by decide +kernel
theorem kd_M_take_29 : decode kc_M_take 29 = .ok (.iadd, 1) := by decide +kernel
theorem kd_M_take_30 : decode kc_M_take 30 = .ok (.imul, 1) := by decide +kernel
theorem kd_M_take_31 : decode kc_M_take 31 = .ok (.iload 4, 2) := by decide +kernel
theorem kd_M_take_33 : decode kc_M_take 33 = .ok (.iadd, 1) := by decide +kernel
theorem kd_M_take_34 : decode kc_M_take 34 = .ok (.aload_n 0, 1) := by decide +kernel
theorem kd_M_take_35 : decode kc_M_take 35 = .ok (.getfield 53, 3) := by decide +kernel
theorem kd_M_take_38 : decode kc_M_take 38 = .ok (.bipush 8, 2) := by decide +kernel
theorem kd_M_take_40 : decode kc_M_take 40 = .ok (.iload_n 1, 1) := by decide +kernel
theorem kd_M_take_41 : decode kc_M_take 41 = .ok (.imul, 1) := by decide +kernel
theorem kd_M_take_42 : decode kc_M_take 42 = .ok (.iload 4, 2) := by decide +kernel
theorem kd_M_take_44 : decode kc_M_take 44 = .ok (.iadd, 1) := by decide +kernel
theorem kd_M_take_45 : decode kc_M_take 45 = .ok (.iaload, 1) := by decide +kernel
theorem kd_M_take_46 : decode kc_M_take 46 = .ok (.iastore, 1) := by decide +kernel
theorem kd_M_take_47 : decode kc_M_take 47 = .ok (.aload_n 0, 1) := by decide +kernel
theorem kd_M_take_48 : decode kc_M_take 48 = .ok (.getfield 59, 3) := by decide +kernel
theorem kd_M_take_51 : decode kc_M_take 51 = .ok (.bipush 8, 2) := by decide +kernel
theorem kd_M_take_53 : decode kc_M_take 53 = .ok (.iload_n 1, 1) := by decide +kernel
theorem kd_M_take_54 : decode kc_M_take 54 = .ok (.imul, 1) := by decide +kernel
theorem kd_M_take_55 : decode kc_M_take 55 = .ok (.iload 4, 2) := by decide +kernel
theorem kd_M_take_57 : decode kc_M_take 57 = .ok (.iadd, 1) := by decide +kernel
theorem kd_M_take_58 : decode kc_M_take 58 = .ok (.iconst 0, 1) := by decide +kernel
theorem kd_M_take_59 : decode kc_M_take 59 = .ok (.iastore, 1) := by decide +kernel
theorem kd_M_take_60 : decode kc_M_take 60 = .ok (.iinc 4 1, 3) := by decide +kernel
theorem kd_M_take_63 : decode kc_M_take 63 = .ok (.goto (-51), 3) := by decide +kernel
theorem kd_M_take_66 : decode kc_M_take 66 = .ok (.iconst 0, 1) := by decide +kernel
theorem kd_M_take_67 : decode kc_M_take 67 = .ok (.istore 4, 2) := by decide +kernel
theorem kd_M_take_69 : decode kc_M_take 69 = .ok (.iload 4, 2) := by decide +kernel
theorem kd_M_take_71 : decode kc_M_take 71 = .ok (.aload_n 0, 1) := by decide +kernel
theorem kd_M_take_72 : decode kc_M_take 72 = .ok (.getfield 44, 3) := by decide +kernel
theorem kd_M_take_75 : decode kc_M_take 75 = .ok (.iload_n 1, 1) := by decide +kernel
theorem kd_M_take_76 : decode kc_M_take 76 = .ok (.iaload, 1) := by decide +kernel
theorem kd_M_take_77 : decode kc_M_take 77 = .ok (.if_icmp .ge 154, 3) := by decide +kernel
theorem kd_M_take_80 : decode kc_M_take 80 = .ok (.aload_n 0, 1) := by decide +kernel
theorem kd_M_take_81 : decode kc_M_take 81 = .ok (.getfield 47, 3) := by decide +kernel
theorem kd_M_take_84 : decode kc_M_take 84 = .ok (.iload_n 1, 1) := by decide +kernel
theorem kd_M_take_85 : decode kc_M_take 85 = .ok (.iaload, 1) := by decide +kernel
theorem kd_M_take_86 : decode kc_M_take 86 = .ok (.iload 4, 2) := by decide +kernel
theorem kd_M_take_88 : decode kc_M_take 88 = .ok (.ishr, 1) := by decide +kernel
theorem kd_M_take_89 : decode kc_M_take 89 = .ok (.iconst 1, 1) := by decide +kernel
theorem kd_M_take_90 : decode kc_M_take 90 = .ok (.iand, 1) := by decide +kernel
theorem kd_M_take_91 : decode kc_M_take 91 = .ok (.ifCond .ne 6, 3) := by decide +kernel
theorem kd_M_take_94 : decode kc_M_take 94 = .ok (.goto 131, 3) := by decide +kernel
theorem kd_M_take_97 : decode kc_M_take 97 = .ok (.aload_n 0, 1) := by decide +kernel
theorem kd_M_take_98 : decode kc_M_take 98 = .ok (.getfield 41, 3) := by decide +kernel
theorem kd_M_take_101 : decode kc_M_take 101 = .ok (.bipush 8, 2) := by decide +kernel
theorem kd_M_take_103 : decode kc_M_take 103 = .ok (.iload_n 1, 1) := by decide +kernel
theorem kd_M_take_104 : decode kc_M_take 104 = .ok (.imul, 1) := by decide +kernel
theorem kd_M_take_105 : decode kc_M_take 105 = .ok (.iload 4, 2) := by decide +kernel
theorem kd_M_take_107 : decode kc_M_take 107 = .ok (.iadd, 1) := by decide +kernel
theorem kd_M_take_108 : decode kc_M_take 108 = .ok (.iaload, 1) := by decide +kernel
theorem kd_M_take_109 : decode kc_M_take 109 = .ok (.istore 5, 2) := by decide +kernel
theorem kd_M_take_111 : decode kc_M_take 111 = .ok (.iload_n 2, 1) := by decide +kernel
theorem kd_M_take_112 : decode kc_M_take 112 = .ok (.aload_n 0, 1) := by decide +kernel
theorem kd_M_take_113 : decode kc_M_take 113 = .ok (.getfield 53, 3) := by decide +kernel
theorem kd_M_take_116 : decode kc_M_take 116 = .ok (.bipush 8, 2) := by decide +kernel
theorem kd_M_take_118 : decode kc_M_take 118 = .ok (.iload_n 1, 1) := by decide +kernel
theorem kd_M_take_119 : decode kc_M_take 119 = .ok (.imul, 1) := by decide +kernel
theorem kd_M_take_120 : decode kc_M_take 120 = .ok (.iload 5, 2) := by decide +kernel
theorem kd_M_take_122 : decode kc_M_take 122 = .ok (.iadd, 1) := by decide +kernel
theorem kd_M_take_123 : decode kc_M_take 123 = .ok (.iaload, 1) := by decide +kernel
theorem kd_M_take_124 : decode kc_M_take 124 = .ok (.if_icmp .ge 7, 3) := by decide +kernel
theorem kd_M_take_127 : decode kc_M_take 127 = .ok (.iload_n 2, 1) := by decide +kernel
theorem kd_M_take_128 : decode kc_M_take 128 = .ok (.goto 15, 3) := by decide +kernel
theorem kd_M_take_131 : decode kc_M_take 131 = .ok (.aload_n 0, 1) := by decide +kernel
theorem kd_M_take_132 : decode kc_M_take 132 = .ok (.getfield 53, 3) := by decide +kernel
theorem kd_M_take_135 : decode kc_M_take 135 = .ok (.bipush 8, 2) := by decide +kernel
theorem kd_M_take_137 : decode kc_M_take 137 = .ok (.iload_n 1, 1) := by decide +kernel
theorem kd_M_take_138 : decode kc_M_take 138 = .ok (.imul, 1) := by decide +kernel
theorem kd_M_take_139 : decode kc_M_take 139 = .ok (.iload 5, 2) := by decide +kernel
theorem kd_M_take_141 : decode kc_M_take 141 = .ok (.iadd, 1) := by decide +kernel
theorem kd_M_take_142 : decode kc_M_take 142 = .ok (.iaload, 1) := by decide +kernel
theorem kd_M_take_143 : decode kc_M_take 143 = .ok (.istore 6, 2) := by decide +kernel
theorem kd_M_take_145 : decode kc_M_take 145 = .ok (.iload 6, 2) := by decide +kernel
theorem kd_M_take_147 : decode kc_M_take 147 = .ok (.iload 6, 2) := by decide +kernel
theorem kd_M_take_149 : decode kc_M_take 149 = .ok (.aload_n 0, 1) := by decide +kernel
theorem kd_M_take_150 : decode kc_M_take 150 = .ok (.getfield 28, 3) := by decide +kernel
theorem kd_M_take_153 : decode kc_M_take 153 = .ok (.iconst 4, 1) := by decide +kernel
theorem kd_M_take_154 : decode kc_M_take 154 = .ok (.iload_n 1, 1) := by decide +kernel
theorem kd_M_take_155 : decode kc_M_take 155 = .ok (.imul, 1) := by decide +kernel
theorem kd_M_take_156 : decode kc_M_take 156 = .ok (.iconst 1, 1) := by decide +kernel
theorem kd_M_take_157 : decode kc_M_take 157 = .ok (.iadd, 1) := by decide +kernel
theorem kd_M_take_158 : decode kc_M_take 158 = .ok (.iaload, 1) := by decide +kernel
theorem kd_M_take_159 : decode kc_M_take 159 = .ok (.irem, 1) := by decide +kernel
theorem kd_M_take_160 : decode kc_M_take 160 = .ok (.isub, 1) := by decide +kernel
theorem kd_M_take_161 : decode kc_M_take 161 = .ok (.istore 6, 2) := by decide +kernel
theorem kd_M_take_163 : decode kc_M_take 163 = .ok (.iload 6, 2) := by decide +kernel
theorem kd_M_take_165 : decode kc_M_take 165 = .ok (.ifCond .ne 6, 3) := by decide +kernel
theorem kd_M_take_168 : decode kc_M_take 168 = .ok (.goto 57, 3) := by decide +kernel
theorem kd_M_take_171 : decode kc_M_take 171 = .ok (.aload_n 0, 1) := by decide +kernel
theorem kd_M_take_172 : decode kc_M_take 172 = .ok (.getfield 59, 3) := by decide +kernel
theorem kd_M_take_175 : decode kc_M_take 175 = .ok (.bipush 8, 2) := by decide +kernel
theorem kd_M_take_177 : decode kc_M_take 177 = .ok (.iload_n 1, 1) := by decide +kernel
theorem kd_M_take_178 : decode kc_M_take 178 = .ok (.imul, 1) := by decide +kernel
theorem kd_M_take_179 : decode kc_M_take 179 = .ok (.iload 5, 2) := by decide +kernel
theorem kd_M_take_181 : decode kc_M_take 181 = .ok (.iadd, 1) := by decide +kernel
theorem kd_M_take_182 : decode kc_M_take 182 = .ok (.iload 6, 2) := by decide +kernel
theorem kd_M_take_184 : decode kc_M_take 184 = .ok (.iastore, 1) := by decide +kernel
theorem kd_M_take_185 : decode kc_M_take 185 = .ok (.aload_n 0, 1) := by decide +kernel
theorem kd_M_take_186 : decode kc_M_take 186 = .ok (.getfield 53, 3) := by decide +kernel
theorem kd_M_take_189 : decode kc_M_take 189 = .ok (.bipush 8, 2) := by decide +kernel
theorem kd_M_take_191 : decode kc_M_take 191 = .ok (.iload_n 1, 1) := by decide +kernel
theorem kd_M_take_192 : decode kc_M_take 192 = .ok (.iconst 1, 1) := by decide +kernel
theorem kd_M_take_193 : decode kc_M_take 193 = .ok (.iadd, 1) := by decide +kernel
theorem kd_M_take_194 : decode kc_M_take 194 = .ok (.imul, 1) := by decide +kernel
theorem kd_M_take_195 : decode kc_M_take 195 = .ok (.iload 5, 2) := by decide +kernel
theorem kd_M_take_197 : decode kc_M_take 197 = .ok (.iadd, 1) := by decide +kernel
theorem kd_M_take_198 : decode kc_M_take 198 = .ok (.dup2, 1) := by decide +kernel
theorem kd_M_take_199 : decode kc_M_take 199 = .ok (.iaload, 1) := by decide +kernel
theorem kd_M_take_200 : decode kc_M_take 200 = .ok (.iload 6, 2) := by decide +kernel
theorem kd_M_take_202 : decode kc_M_take 202 = .ok (.isub, 1) := by decide +kernel
theorem kd_M_take_203 : decode kc_M_take 203 = .ok (.iastore, 1) := by decide +kernel
theorem kd_M_take_204 : decode kc_M_take 204 = .ok (.iload_n 2, 1) := by decide +kernel
theorem kd_M_take_205 : decode kc_M_take 205 = .ok (.iload 6, 2) := by decide +kernel
theorem kd_M_take_207 : decode kc_M_take 207 = .ok (.isub, 1) := by decide +kernel
theorem kd_M_take_208 : decode kc_M_take 208 = .ok (.istore_n 2, 1) := by decide +kernel
theorem kd_M_take_209 : decode kc_M_take 209 = .ok (.iload_n 3, 1) := by decide +kernel
theorem kd_M_take_210 : decode kc_M_take 210 = .ok (.iload 6, 2) := by decide +kernel
theorem kd_M_take_212 : decode kc_M_take 212 = .ok (.aload_n 0, 1) := by decide +kernel
theorem kd_M_take_213 : decode kc_M_take 213 = .ok (.iload 5, 2) := by decide +kernel
theorem kd_M_take_215 : decode kc_M_take 215 = .ok (.iload_n 1, 1) := by decide +kernel
theorem kd_M_take_216 : decode kc_M_take 216 = .ok (.invokevirtual 100, 3) := by decide +kernel
theorem kd_M_take_219 : decode kc_M_take 219 = .ok (.imul, 1) := by decide +kernel
theorem kd_M_take_220 : decode kc_M_take 220 = .ok (.bipush 20, 2) := by decide +kernel
theorem kd_M_take_222 : decode kc_M_take 222 = .ok (.iadd, 1) := by decide +kernel
theorem kd_M_take_223 : decode kc_M_take 223 = .ok (.iadd, 1) := by decide +kernel
theorem kd_M_take_224 : decode kc_M_take 224 = .ok (.istore_n 3, 1) := by decide +kernel
theorem kd_M_take_225 : decode kc_M_take 225 = .ok (.iinc 4 1, 3) := by decide +kernel
theorem kd_M_take_228 : decode kc_M_take 228 = .ok (.goto (-159), 3) := by decide +kernel
theorem kd_M_take_231 : decode kc_M_take 231 = .ok (.aload_n 0, 1) := by decide +kernel
theorem kd_M_take_232 : decode kc_M_take 232 = .ok (.getfield 28, 3) := by decide +kernel
theorem kd_M_take_235 : decode kc_M_take 235 = .ok (.iconst 4, 1) := by decide +kernel
theorem kd_M_take_236 : decode kc_M_take 236 = .ok (.iload_n 1, 1) := by decide +kernel
theorem kd_M_take_237 : decode kc_M_take 237 = .ok (.imul, 1) := by decide +kernel
theorem kd_M_take_238 : decode kc_M_take 238 = .ok (.iconst 3, 1) := by decide +kernel
theorem kd_M_take_239 : decode kc_M_take 239 = .ok (.iadd, 1) := by decide +kernel
theorem kd_M_take_240 : decode kc_M_take 240 = .ok (.iaload, 1) := by decide +kernel
theorem kd_M_take_241 : decode kc_M_take 241 = .ok (.iconst 1, 1) := by decide +kernel
theorem kd_M_take_242 : decode kc_M_take 242 = .ok (.if_icmp .ne 73, 3) := by decide +kernel
theorem kd_M_take_245 : decode kc_M_take 245 = .ok (.iload_n 2, 1) := by decide +kernel
theorem kd_M_take_246 : decode kc_M_take 246 = .ok (.ifCond .le 69, 3) := by decide +kernel
theorem kd_M_take_249 : decode kc_M_take 249 = .ok (.iconst 0, 1) := by decide +kernel
theorem kd_M_take_250 : decode kc_M_take 250 = .ok (.istore 4, 2) := by decide +kernel
theorem kd_M_take_252 : decode kc_M_take 252 = .ok (.iload 4, 2) := by decide +kernel
theorem kd_M_take_254 : decode kc_M_take 254 = .ok (.aload_n 0, 1) := by decide +kernel
theorem kd_M_take_255 : decode kc_M_take 255 = .ok (.getfield 66, 3) := by decide +kernel
theorem kd_M_take_258 : decode kc_M_take 258 = .ok (.if_icmp .ge 48, 3) := by decide +kernel
theorem kd_M_take_261 : decode kc_M_take 261 = .ok (.aload_n 0, 1) := by decide +kernel
theorem kd_M_take_262 : decode kc_M_take 262 = .ok (.getfield 53, 3) := by decide +kernel
theorem kd_M_take_265 : decode kc_M_take 265 = .ok (.bipush 8, 2) := by decide +kernel
theorem kd_M_take_267 : decode kc_M_take 267 = .ok (.iload_n 1, 1) := by decide +kernel
theorem kd_M_take_268 : decode kc_M_take 268 = .ok (.iconst 1, 1) := by decide +kernel
theorem kd_M_take_269 : decode kc_M_take 269 = .ok (.iadd, 1) := by decide +kernel
theorem kd_M_take_270 : decode kc_M_take 270 = .ok (.imul, 1) := by decide +kernel
theorem kd_M_take_271 : decode kc_M_take 271 = .ok (.iload 4, 2) := by decide +kernel
theorem kd_M_take_273 : decode kc_M_take 273 = .ok (.iadd, 1) := by decide +kernel
theorem kd_M_take_274 : decode kc_M_take 274 = .ok (.aload_n 0, 1) := by decide +kernel
theorem kd_M_take_275 : decode kc_M_take 275 = .ok (.getfield 53, 3) := by decide +kernel
theorem kd_M_take_278 : decode kc_M_take 278 = .ok (.bipush 8, 2) := by decide +kernel
theorem kd_M_take_280 : decode kc_M_take 280 = .ok (.iload_n 1, 1) := by decide +kernel
theorem kd_M_take_281 : decode kc_M_take 281 = .ok (.imul, 1) := by decide +kernel
theorem kd_M_take_282 : decode kc_M_take 282 = .ok (.iload 4, 2) := by decide +kernel
theorem kd_M_take_284 : decode kc_M_take 284 = .ok (.iadd, 1) := by decide +kernel
theorem kd_M_take_285 : decode kc_M_take 285 = .ok (.iaload, 1) := by decide +kernel
theorem kd_M_take_286 : decode kc_M_take 286 = .ok (.iastore, 1) := by decide +kernel
theorem kd_M_take_287 : decode kc_M_take 287 = .ok (.aload_n 0, 1) := by decide +kernel
theorem kd_M_take_288 : decode kc_M_take 288 = .ok (.getfield 59, 3) := by decide +kernel
theorem kd_M_take_291 : decode kc_M_take 291 = .ok (.bipush 8, 2) := by decide +kernel
theorem kd_M_take_293 : decode kc_M_take 293 = .ok (.iload_n 1, 1) := by decide +kernel
theorem kd_M_take_294 : decode kc_M_take 294 = .ok (.imul, 1) := by decide +kernel
theorem kd_M_take_295 : decode kc_M_take 295 = .ok (.iload 4, 2) := by decide +kernel
theorem kd_M_take_297 : decode kc_M_take 297 = .ok (.iadd, 1) := by decide +kernel
theorem kd_M_take_298 : decode kc_M_take 298 = .ok (.iconst 0, 1) := by decide +kernel
theorem kd_M_take_299 : decode kc_M_take 299 = .ok (.iastore, 1) := by decide +kernel
theorem kd_M_take_300 : decode kc_M_take 300 = .ok (.iinc 4 1, 3) := by decide +kernel
theorem kd_M_take_303 : decode kc_M_take 303 = .ok (.goto (-51), 3) := by decide +kernel
theorem kd_M_take_306 : decode kc_M_take 306 = .ok (.iconst 0, 1) := by decide +kernel
theorem kd_M_take_307 : decode kc_M_take 307 = .ok (.istore_n 3, 1) := by decide +kernel
theorem kd_M_take_308 : decode kc_M_take 308 = .ok (.aload_n 0, 1) := by decide +kernel
theorem kd_M_take_309 : decode kc_M_take 309 = .ok (.getfield 25, 3) := by decide +kernel
theorem kd_M_take_312 : decode kc_M_take 312 = .ok (.iload_n 1, 1) := by decide +kernel
theorem kd_M_take_313 : decode kc_M_take 313 = .ok (.iaload, 1) := by decide +kernel
theorem kd_M_take_314 : decode kc_M_take 314 = .ok (.istore_n 2, 1) := by decide +kernel
theorem kd_M_take_315 : decode kc_M_take 315 = .ok (.aload_n 0, 1) := by decide +kernel
theorem kd_M_take_316 : decode kc_M_take 316 = .ok (.getfield 56, 3) := by decide +kernel
theorem kd_M_take_319 : decode kc_M_take 319 = .ok (.iload_n 1, 1) := by decide +kernel
theorem kd_M_take_320 : decode kc_M_take 320 = .ok (.iconst 1, 1) := by decide +kernel
theorem kd_M_take_321 : decode kc_M_take 321 = .ok (.iadd, 1) := by decide +kernel
theorem kd_M_take_322 : decode kc_M_take 322 = .ok (.aload_n 0, 1) := by decide +kernel
theorem kd_M_take_323 : decode kc_M_take 323 = .ok (.getfield 56, 3) := by decide +kernel
theorem kd_M_take_326 : decode kc_M_take 326 = .ok (.iload_n 1, 1) := by decide +kernel
theorem kd_M_take_327 : decode kc_M_take 327 = .ok (.iaload, 1) := by decide +kernel
theorem kd_M_take_328 : decode kc_M_take 328 = .ok (.iload_n 3, 1) := by decide +kernel
theorem kd_M_take_329 : decode kc_M_take 329 = .ok (.iadd, 1) := by decide +kernel
theorem kd_M_take_330 : decode kc_M_take 330 = .ok (.sipush 1000, 3) := by decide +kernel
theorem kd_M_take_333 : decode kc_M_take 333 = .ok (.iload_n 2, 1) := by decide +kernel
theorem kd_M_take_334 : decode kc_M_take 334 = .ok (.imul, 1) := by decide +kernel
theorem kd_M_take_335 : decode kc_M_take 335 = .ok (.iadd, 1) := by decide +kernel
theorem kd_M_take_336 : decode kc_M_take 336 = .ok (.iastore, 1) := by decide +kernel
theorem kd_M_take_337 : decode kc_M_take 337 = .ok (.return_, 1) := by decide +kernel
theorem kd_M_costOf_0 : decode kc_M_costOf 0 = .ok (.aload_n 0, 1) := by decide +kernel
theorem kd_M_costOf_1 : decode kc_M_costOf 1 = .ok (.getfield 31, 3) := by decide +kernel
theorem kd_M_costOf_4 : decode kc_M_costOf 4 = .ok (.bipush 8, 2) := by decide +kernel
theorem kd_M_costOf_6 : decode kc_M_costOf 6 = .ok (.iload_n 2, 1) := by decide +kernel
theorem kd_M_costOf_7 : decode kc_M_costOf 7 = .ok (.imul, 1) := by decide +kernel
theorem kd_M_costOf_8 : decode kc_M_costOf 8 = .ok (.iload_n 1, 1) := by decide +kernel
theorem kd_M_costOf_9 : decode kc_M_costOf 9 = .ok (.iadd, 1) := by decide +kernel
theorem kd_M_costOf_10 : decode kc_M_costOf 10 = .ok (.iaload, 1) := by decide +kernel
theorem kd_M_costOf_11 : decode kc_M_costOf 11 = .ok (.iconst (-1), 1) := by decide +kernel
theorem kd_M_costOf_12 : decode kc_M_costOf 12 = .ok (.if_icmp .ne 12, 3) := by decide +kernel
theorem kd_M_costOf_15 : decode kc_M_costOf 15 = .ok (.aload_n 0, 1) := by decide +kernel
theorem kd_M_costOf_16 : decode kc_M_costOf 16 = .ok (.getfield 7, 3) := by decide +kernel
theorem kd_M_costOf_19 : decode kc_M_costOf 19 = .ok (.iload_n 1, 1) := by decide +kernel
theorem kd_M_costOf_20 : decode kc_M_costOf 20 = .ok (.iaload, 1) := by decide +kernel
theorem kd_M_costOf_21 : decode kc_M_costOf 21 = .ok (.goto 14, 3) := by decide +kernel
theorem kd_M_costOf_24 : decode kc_M_costOf 24 = .ok (.aload_n 0, 1) := by decide +kernel
theorem kd_M_costOf_25 : decode kc_M_costOf 25 = .ok (.getfield 31, 3) := by decide +kernel
theorem kd_M_costOf_28 : decode kc_M_costOf 28 = .ok (.bipush 8, 2) := by decide +kernel
theorem kd_M_costOf_30 : decode kc_M_costOf 30 = .ok (.iload_n 2, 1) := by decide +kernel
theorem kd_M_costOf_31 : decode kc_M_costOf 31 = .ok (.imul, 1) := by decide +kernel
theorem kd_M_costOf_32 : decode kc_M_costOf 32 = .ok (.iload_n 1, 1) := by decide +kernel
theorem kd_M_costOf_33 : decode kc_M_costOf 33 = .ok (.iadd, 1) := by decide +kernel
theorem kd_M_costOf_34 : decode kc_M_costOf 34 = .ok (.iaload, 1) := by decide +kernel
theorem kd_M_costOf_35 : decode kc_M_costOf 35 = .ok (.ireturn, 1) := by decide +kernel
theorem kd_M_nextSets_0 : decode kc_M_nextSets 0 = .ok (.aload_n 0, 1) := by decide +kernel
theorem kd_M_nextSets_1 : decode kc_M_nextSets 1 = .ok (.getfield 73, 3) := by decide +kernel
theorem kd_M_nextSets_4 : decode kc_M_nextSets 4 = .ok (.iconst 1, 1) := by decide +kernel
theorem kd_M_nextSets_5 : decode kc_M_nextSets 5 = .ok (.isub, 1) := by decide +kernel
theorem kd_M_nextSets_6 : decode kc_M_nextSets 6 = .ok (.istore_n 1, 1) := by decide +kernel
theorem kd_M_nextSets_7 : decode kc_M_nextSets 7 = .ok (.iload_n 1, 1) := by decide +kernel
theorem kd_M_nextSets_8 : decode kc_M_nextSets 8 = .ok (.ifCond .lt 97, 3) := by decide +kernel
theorem kd_M_nextSets_11 : decode kc_M_nextSets 11 = .ok (.aload_n 0, 1) := by decide +kernel
theorem kd_M_nextSets_12 : decode kc_M_nextSets 12 = .ok (.getfield 47, 3) := by decide +kernel
theorem kd_M_nextSets_15 : decode kc_M_nextSets 15 = .ok (.iload_n 1, 1) := by decide +kernel
theorem kd_M_nextSets_16 : decode kc_M_nextSets 16 = .ok (.dup2, 1) := by decide +kernel
theorem kd_M_nextSets_17 : decode kc_M_nextSets 17 = .ok (.iaload, 1) := by decide +kernel
theorem kd_M_nextSets_18 : decode kc_M_nextSets 18 = .ok (.iconst 1, 1) := by decide +kernel
theorem kd_M_nextSets_19 : decode kc_M_nextSets 19 = .ok (.iadd, 1) := by decide +kernel
theorem kd_M_nextSets_20 : decode kc_M_nextSets 20 = .ok (.iastore, 1) := by decide +kernel
theorem kd_M_nextSets_21 : decode kc_M_nextSets 21 = .ok (.aload_n 0, 1) := by decide +kernel
theorem kd_M_nextSets_22 : decode kc_M_nextSets 22 = .ok (.getfield 47, 3) := by decide +kernel
theorem kd_M_nextSets_25 : decode kc_M_nextSets 25 = .ok (.iload_n 1, 1) := by decide +kernel
theorem kd_M_nextSets_26 : decode kc_M_nextSets 26 = .ok (.iaload, 1) := by decide +kernel
theorem kd_M_nextSets_27 : decode kc_M_nextSets 27 = .ok (.iconst 1, 1) := by decide +kernel
theorem kd_M_nextSets_28 : decode kc_M_nextSets 28 = .ok (.aload_n 0, 1) := by decide +kernel
theorem kd_M_nextSets_29 : decode kc_M_nextSets 29 = .ok (.getfield 44, 3) := by decide +kernel
theorem kd_M_nextSets_32 : decode kc_M_nextSets 32 = .ok (.iload_n 1, 1) := by decide +kernel
theorem kd_M_nextSets_33 : decode kc_M_nextSets 33 = .ok (.iaload, 1) := by decide +kernel
theorem kd_M_nextSets_34 : decode kc_M_nextSets 34 = .ok (.ishl, 1) := by decide +kernel
theorem kd_M_nextSets_35 : decode kc_M_nextSets 35 = .ok (.if_icmp .ge 38, 3) := by decide +kernel
theorem kd_M_nextSets_38 : decode kc_M_nextSets 38 = .ok (.aload_n 0, 1) := by decide +kernel
theorem kd_M_nextSets_39 : decode kc_M_nextSets 39 = .ok (.getfield 47, 3) := by decide +kernel
theorem kd_M_nextSets_42 : decode kc_M_nextSets 42 = .ok (.iload_n 1, 1) := by decide +kernel
theorem kd_M_nextSets_43 : decode kc_M_nextSets 43 = .ok (.iaload, 1) := by decide +kernel
theorem kd_M_nextSets_44 : decode kc_M_nextSets 44 = .ok (.invokestatic 108, 3) := by decide +kernel
theorem kd_M_nextSets_47 : decode kc_M_nextSets 47 = .ok (.aload_n 0, 1) := by decide +kernel
theorem kd_M_nextSets_48 : decode kc_M_nextSets 48 = .ok (.getfield 28, 3) := by decide +kernel
theorem kd_M_nextSets_51 : decode kc_M_nextSets 51 = .ok (.iconst 4, 1) := by decide +kernel
theorem kd_M_nextSets_52 : decode kc_M_nextSets 52 = .ok (.iload_n 1, 1) := by decide +kernel
theorem kd_M_nextSets_53 : decode kc_M_nextSets 53 = .ok (.imul, 1) := by decide +kernel
theorem kd_M_nextSets_54 : decode kc_M_nextSets 54 = .ok (.iconst 2, 1) := by decide +kernel
theorem kd_M_nextSets_55 : decode kc_M_nextSets 55 = .ok (.iadd, 1) := by decide +kernel
theorem kd_M_nextSets_56 : decode kc_M_nextSets 56 = .ok (.iaload, 1) := by decide +kernel
theorem kd_M_nextSets_57 : decode kc_M_nextSets 57 = .ok (.if_icmp .le 16, 3) := by decide +kernel
theorem kd_M_nextSets_60 : decode kc_M_nextSets 60 = .ok (.aload_n 0, 1) := by decide +kernel
theorem kd_M_nextSets_61 : decode kc_M_nextSets 61 = .ok (.getfield 47, 3) := by decide +kernel
theorem kd_M_nextSets_64 : decode kc_M_nextSets 64 = .ok (.iload_n 1, 1) := by decide +kernel
theorem kd_M_nextSets_65 : decode kc_M_nextSets 65 = .ok (.dup2, 1) := by decide +kernel
theorem kd_M_nextSets_66 : decode kc_M_nextSets 66 = .ok (.iaload, 1) := by decide +kernel
theorem kd_M_nextSets_67 : decode kc_M_nextSets 67 = .ok (.iconst 1, 1) := by decide +kernel
theorem kd_M_nextSets_68 : decode kc_M_nextSets 68 = .ok (.iadd, 1) := by decide +kernel
theorem kd_M_nextSets_69 : decode kc_M_nextSets 69 = .ok (.iastore, 1) := by decide +kernel
theorem kd_M_nextSets_70 : decode kc_M_nextSets 70 = .ok (.goto (-49), 3) := by decide +kernel
theorem kd_M_nextSets_73 : decode kc_M_nextSets 73 = .ok (.aload_n 0, 1) := by decide +kernel
theorem kd_M_nextSets_74 : decode kc_M_nextSets 74 = .ok (.getfield 47, 3) := by decide +kernel
theorem kd_M_nextSets_77 : decode kc_M_nextSets 77 = .ok (.iload_n 1, 1) := by decide +kernel
theorem kd_M_nextSets_78 : decode kc_M_nextSets 78 = .ok (.iaload, 1) := by decide +kernel
theorem kd_M_nextSets_79 : decode kc_M_nextSets 79 = .ok (.iconst 1, 1) := by decide +kernel
theorem kd_M_nextSets_80 : decode kc_M_nextSets 80 = .ok (.aload_n 0, 1) := by decide +kernel
theorem kd_M_nextSets_81 : decode kc_M_nextSets 81 = .ok (.getfield 44, 3) := by decide +kernel
theorem kd_M_nextSets_84 : decode kc_M_nextSets 84 = .ok (.iload_n 1, 1) := by decide +kernel
theorem kd_M_nextSets_85 : decode kc_M_nextSets 85 = .ok (.iaload, 1) := by decide +kernel
theorem kd_M_nextSets_86 : decode kc_M_nextSets 86 = .ok (.ishl, 1) := by decide +kernel
theorem kd_M_nextSets_87 : decode kc_M_nextSets 87 = .ok (.if_icmp .ge 5, 3) := by decide +kernel
theorem kd_M_nextSets_90 : decode kc_M_nextSets 90 = .ok (.iload_n 1, 1) := by decide +kernel
theorem kd_M_nextSets_91 : decode kc_M_nextSets 91 = .ok (.ireturn, 1) := by decide +kernel
theorem kd_M_nextSets_92 : decode kc_M_nextSets 92 = .ok (.aload_n 0, 1) := by decide +kernel
theorem kd_M_nextSets_93 : decode kc_M_nextSets 93 = .ok (.getfield 47, 3) := by decide +kernel
theorem kd_M_nextSets_96 : decode kc_M_nextSets 96 = .ok (.iload_n 1, 1) := by decide +kernel
theorem kd_M_nextSets_97 : decode kc_M_nextSets 97 = .ok (.iconst 0, 1) := by decide +kernel
theorem kd_M_nextSets_98 : decode kc_M_nextSets 98 = .ok (.iastore, 1) := by decide +kernel
theorem kd_M_nextSets_99 : decode kc_M_nextSets 99 = .ok (.iinc 1 (-1), 3) := by decide +kernel
theorem kd_M_nextSets_102 : decode kc_M_nextSets 102 = .ok (.goto (-95), 3) := by decide +kernel
theorem kd_M_nextSets_105 : decode kc_M_nextSets 105 = .ok (.iconst (-1), 1) := by decide +kernel
theorem kd_M_nextSets_106 : decode kc_M_nextSets 106 = .ok (.ireturn, 1) := by decide +kernel
theorem kd_M_bits_0 : decode kc_M_bits 0 = .ok (.iconst 0, 1) := by decide +kernel
theorem kd_M_bits_1 : decode kc_M_bits 1 = .ok (.istore_n 1, 1) := by decide +kernel
theorem kd_M_bits_2 : decode kc_M_bits 2 = .ok (.iconst 0, 1) := by decide +kernel
theorem kd_M_bits_3 : decode kc_M_bits 3 = .ok (.istore_n 2, 1) := by decide +kernel
theorem kd_M_bits_4 : decode kc_M_bits 4 = .ok (.iload_n 2, 1) := by decide +kernel
theorem kd_M_bits_5 : decode kc_M_bits 5 = .ok (.bipush 8, 2) := by decide +kernel
theorem kd_M_bits_7 : decode kc_M_bits 7 = .ok (.if_icmp .ge 17, 3) := by decide +kernel
theorem kd_M_bits_10 : decode kc_M_bits 10 = .ok (.iload_n 1, 1) := by decide +kernel
theorem kd_M_bits_11 : decode kc_M_bits 11 = .ok (.iload_n 0, 1) := by decide +kernel
theorem kd_M_bits_12 : decode kc_M_bits 12 = .ok (.iload_n 2, 1) := by decide +kernel
theorem kd_M_bits_13 : decode kc_M_bits 13 = .ok (.ishr, 1) := by decide +kernel
theorem kd_M_bits_14 : decode kc_M_bits 14 = .ok (.iconst 1, 1) := by decide +kernel
theorem kd_M_bits_15 : decode kc_M_bits 15 = .ok (.iand, 1) := by decide +kernel
theorem kd_M_bits_16 : decode kc_M_bits 16 = .ok (.iadd, 1) := by decide +kernel
theorem kd_M_bits_17 : decode kc_M_bits 17 = .ok (.istore_n 1, 1) := by decide +kernel
theorem kd_M_bits_18 : decode kc_M_bits 18 = .ok (.iinc 2 1, 3) := by decide +kernel
theorem kd_M_bits_21 : decode kc_M_bits 21 = .ok (.goto (-17), 3) := by decide +kernel
theorem kd_M_bits_24 : decode kc_M_bits 24 = .ok (.iload_n 1, 1) := by decide +kernel
theorem kd_M_bits_25 : decode kc_M_bits 25 = .ok (.ireturn, 1) := by decide +kernel
theorem kd_M_byRule_0 : decode kc_M_byRule 0 = .ok (.iconst 0, 1) := by decide +kernel
theorem kd_M_byRule_1 : decode kc_M_byRule 1 = .ok (.istore_n 1, 1) := by decide +kernel
theorem kd_M_byRule_2 : decode kc_M_byRule 2 = .ok (.iload_n 1, 1) := by decide +kernel
theorem kd_M_byRule_3 : decode kc_M_byRule 3 = .ok (.aload_n 0, 1) := by decide +kernel
theorem kd_M_byRule_4 : decode kc_M_byRule 4 = .ok (.getfield 73, 3) := by decide +kernel
theorem kd_M_byRule_7 : decode kc_M_byRule 7 = .ok (.if_icmp .ge 59, 3) := by decide +kernel
theorem kd_M_byRule_10 : decode kc_M_byRule 10 = .ok (.aload_n 0, 1) := by decide +kernel
theorem kd_M_byRule_11 : decode kc_M_byRule 11 = .ok (.getfield 44, 3) := by decide +kernel
theorem kd_M_byRule_14 : decode kc_M_byRule 14 = .ok (.iload_n 1, 1) := by decide +kernel
theorem kd_M_byRule_15 : decode kc_M_byRule 15 = .ok (.iaload, 1) := by decide +kernel
theorem kd_M_byRule_16 : decode kc_M_byRule 16 = .ok (.aload_n 0, 1) := by decide +kernel
theorem kd_M_byRule_17 : decode kc_M_byRule 17 = .ok (.getfield 28, 3) := by decide +kernel
theorem kd_M_byRule_20 : decode kc_M_byRule 20 = .ok (.iconst 4, 1) := by decide +kernel
theorem kd_M_byRule_21 : decode kc_M_byRule 21 = .ok (.iload_n 1, 1) := by decide +kernel
theorem kd_M_byRule_22 : decode kc_M_byRule 22 = .ok (.imul, 1) := by decide +kernel
theorem kd_M_byRule_23 : decode kc_M_byRule 23 = .ok (.iconst 2, 1) := by decide +kernel
theorem kd_M_byRule_24 : decode kc_M_byRule 24 = .ok (.iadd, 1) := by decide +kernel
theorem kd_M_byRule_25 : decode kc_M_byRule 25 = .ok (.iaload, 1) := by decide +kernel
theorem kd_M_byRule_26 : decode kc_M_byRule 26 = .ok (.if_icmp .ge 12, 3) := by decide +kernel
theorem kd_M_byRule_29 : decode kc_M_byRule 29 = .ok (.aload_n 0, 1) := by decide +kernel
theorem kd_M_byRule_30 : decode kc_M_byRule 30 = .ok (.getfield 44, 3) := by decide +kernel
theorem kd_M_byRule_33 : decode kc_M_byRule 33 = .ok (.iload_n 1, 1) := by decide +kernel
theorem kd_M_byRule_34 : decode kc_M_byRule 34 = .ok (.iaload, 1) := by decide +kernel
theorem kd_M_byRule_35 : decode kc_M_byRule 35 = .ok (.goto 13, 3) := by decide +kernel
theorem kd_M_byRule_38 : decode kc_M_byRule 38 = .ok (.aload_n 0, 1) := by decide +kernel
theorem kd_M_byRule_39 : decode kc_M_byRule 39 = .ok (.getfield 28, 3) := by decide +kernel
theorem kd_M_byRule_42 : decode kc_M_byRule 42 = .ok (.iconst 4, 1) := by decide +kernel
theorem kd_M_byRule_43 : decode kc_M_byRule 43 = .ok (.iload_n 1, 1) := by decide +kernel
theorem kd_M_byRule_44 : decode kc_M_byRule 44 = .ok (.imul, 1) := by decide +kernel
theorem kd_M_byRule_45 : decode kc_M_byRule 45 = .ok (.iconst 2, 1) := by decide +kernel
theorem kd_M_byRule_46 : decode kc_M_byRule 46 = .ok (.iadd, 1) := by decide +kernel
theorem kd_M_byRule_47 : decode kc_M_byRule 47 = .ok (.iaload, 1) := by decide +kernel
theorem kd_M_byRule_48 : decode kc_M_byRule 48 = .ok (.istore_n 2, 1) := by decide +kernel
theorem kd_M_byRule_49 : decode kc_M_byRule 49 = .ok (.aload_n 0, 1) := by decide +kernel
theorem kd_M_byRule_50 : decode kc_M_byRule 50 = .ok (.getfield 50, 3) := by decide +kernel
theorem kd_M_byRule_53 : decode kc_M_byRule 53 = .ok (.iload_n 1, 1) := by decide +kernel
theorem kd_M_byRule_54 : decode kc_M_byRule 54 = .ok (.iconst 1, 1) := by decide +kernel
theorem kd_M_byRule_55 : decode kc_M_byRule 55 = .ok (.iload_n 2, 1) := by decide +kernel
theorem kd_M_byRule_56 : decode kc_M_byRule 56 = .ok (.ishl, 1) := by decide +kernel
theorem kd_M_byRule_57 : decode kc_M_byRule 57 = .ok (.iconst 1, 1) := by decide +kernel
theorem kd_M_byRule_58 : decode kc_M_byRule 58 = .ok (.isub, 1) := by decide +kernel
theorem kd_M_byRule_59 : decode kc_M_byRule 59 = .ok (.iastore, 1) := by decide +kernel
theorem kd_M_byRule_60 : decode kc_M_byRule 60 = .ok (.iinc 1 1, 3) := by decide +kernel
theorem kd_M_byRule_63 : decode kc_M_byRule 63 = .ok (.goto (-61), 3) := by decide +kernel
theorem kd_M_byRule_66 : decode kc_M_byRule 66 = .ok (.return_, 1) := by decide +kernel
theorem kd_M_exact_0 : decode kc_M_exact 0 = .ok (.aload_n 0, 1) := by decide +kernel
theorem kd_M_exact_1 : decode kc_M_exact 1 = .ok (.iconst 0, 1) := by decide +kernel
theorem kd_M_exact_2 : decode kc_M_exact 2 = .ok (.putfield 62, 3) := by decide +kernel
theorem kd_M_exact_5 : decode kc_M_exact 5 = .ok (.aload_n 0, 1) := by decide +kernel
theorem kd_M_exact_6 : decode kc_M_exact 6 = .ok (.getfield 128, 3) := by decide +kernel
theorem kd_M_exact_9 : decode kc_M_exact 9 = .ok (.ireturn, 1) := by decide +kernel
theorem kd_M_choices_0 : decode kc_M_choices 0 = .ok (.aload_n 0, 1) := by decide +kernel
theorem kd_M_choices_1 : decode kc_M_choices 1 = .ok (.iconst 0, 1) := by decide +kernel
theorem kd_M_choices_2 : decode kc_M_choices 2 = .ok (.putfield 62, 3) := by decide +kernel
theorem kd_M_choices_5 : decode kc_M_choices 5 = .ok (.aload_n 0, 1) := by decide +kernel
theorem kd_M_choices_6 : decode kc_M_choices 6 = .ok (.invokevirtual 124, 3) := by decide +kernel
theorem kd_M_choices_9 : decode kc_M_choices 9 = .ok (.ldc2_w 138, 3) := by decide +kernel
theorem kd_M_choices_12 : decode kc_M_choices 12 = .ok (.lcmp, 1) := by decide +kernel
theorem kd_M_choices_13 : decode kc_M_choices 13 = .ok (.ifCond .le 7, 3) := by decide +kernel
theorem kd_M_choices_16 : decode kc_M_choices 16 = .ok (.iconst (-1), 1) := by decide +kernel
theorem kd_M_choices_17 : decode kc_M_choices 17 = .ok (.goto 8, 3) := by decide +kernel
theorem kd_M_choices_20 : decode kc_M_choices 20 = .ok (.aload_n 0, 1) := by decide +kernel
theorem kd_M_choices_21 : decode kc_M_choices 21 = .ok (.invokevirtual 124, 3) := by decide +kernel
theorem kd_M_choices_24 : decode kc_M_choices 24 = .ok (.l2i, 1) := by decide +kernel
theorem kd_M_choices_25 : decode kc_M_choices 25 = .ok (.ireturn, 1) := by decide +kernel
theorem kd_M_bound_0 : decode kc_M_bound 0 = .ok (.aload_n 0, 1) := by decide +kernel
theorem kd_M_bound_1 : decode kc_M_bound 1 = .ok (.iconst 0, 1) := by decide +kernel
theorem kd_M_bound_2 : decode kc_M_bound 2 = .ok (.putfield 62, 3) := by decide +kernel
theorem kd_M_bound_5 : decode kc_M_bound 5 = .ok (.iconst 0, 1) := by decide +kernel
theorem kd_M_bound_6 : decode kc_M_bound 6 = .ok (.istore_n 1, 1) := by decide +kernel
theorem kd_M_bound_7 : decode kc_M_bound 7 = .ok (.iconst 0, 1) := by decide +kernel
theorem kd_M_bound_8 : decode kc_M_bound 8 = .ok (.istore_n 2, 1) := by decide +kernel
theorem kd_M_bound_9 : decode kc_M_bound 9 = .ok (.iload_n 2, 1) := by decide +kernel
theorem kd_M_bound_10 : decode kc_M_bound 10 = .ok (.aload_n 0, 1) := by decide +kernel
theorem kd_M_bound_11 : decode kc_M_bound 11 = .ok (.getfield 73, 3) := by decide +kernel
theorem kd_M_bound_14 : decode kc_M_bound 14 = .ok (.if_icmp .ge 88, 3) := by decide +kernel
theorem kd_M_bound_17 : decode kc_M_bound 17 = .ok (.sipush 1000, 3) := by decide +kernel
theorem kd_M_bound_20 : decode kc_M_bound 20 = .ok (.aload_n 0, 1) := by decide +kernel
theorem kd_M_bound_21 : decode kc_M_bound 21 = .ok (.getfield 25, 3) := by decide +kernel
theorem kd_M_bound_24 : decode kc_M_bound 24 = .ok (.iload_n 2, 1) := by decide +kernel
theorem kd_M_bound_25 : decode kc_M_bound 25 = .ok (.iaload, 1) := by decide +kernel
theorem kd_M_bound_26 : decode kc_M_bound 26 = .ok (.imul, 1) := by decide +kernel
theorem kd_M_bound_27 : decode kc_M_bound 27 = .ok (.istore_n 3, 1) := by decide +kernel
theorem kd_M_bound_28 : decode kc_M_bound 28 = .ok (.iconst 0, 1) := by decide +kernel
theorem kd_M_bound_29 : decode kc_M_bound 29 = .ok (.istore 4, 2) := by decide +kernel
theorem kd_M_bound_31 : decode kc_M_bound 31 = .ok (.iload 4, 2) := by decide +kernel
theorem kd_M_bound_33 : decode kc_M_bound 33 = .ok (.aload_n 0, 1) := by decide +kernel
theorem kd_M_bound_34 : decode kc_M_bound 34 = .ok (.getfield 66, 3) := by decide +kernel
theorem kd_M_bound_37 : decode kc_M_bound 37 = .ok (.if_icmp .ge 55, 3) := by decide +kernel
theorem kd_M_bound_40 : decode kc_M_bound 40 = .ok (.aload_n 0, 1) := by decide +kernel
theorem kd_M_bound_41 : decode kc_M_bound 41 = .ok (.iload 4, 2) := by decide +kernel
theorem kd_M_bound_43 : decode kc_M_bound 43 = .ok (.iload_n 2, 1) := by decide +kernel
theorem kd_M_bound_44 : decode kc_M_bound 44 = .ok (.invokevirtual 90, 3) := by decide +kernel
theorem kd_M_bound_47 : decode kc_M_bound 47 = .ok (.ifCond .eq 23, 3) := by decide +kernel
theorem kd_M_bound_50 : decode kc_M_bound 50 = .ok (.aload_n 0, 1) := by decide +kernel
theorem kd_M_bound_51 : decode kc_M_bound 51 = .ok (.getfield 25, 3) := by decide +kernel
theorem kd_M_bound_54 : decode kc_M_bound 54 = .ok (.iload_n 2, 1) := by decide +kernel
theorem kd_M_bound_55 : decode kc_M_bound 55 = .ok (.iaload, 1) := by decide +kernel
theorem kd_M_bound_56 : decode kc_M_bound 56 = .ok (.aload_n 0, 1) := by decide +kernel
theorem kd_M_bound_57 : decode kc_M_bound 57 = .ok (.iload 4, 2) := by decide +kernel
theorem kd_M_bound_59 : decode kc_M_bound 59 = .ok (.iload_n 2, 1) := by decide +kernel
theorem kd_M_bound_60 : decode kc_M_bound 60 = .ok (.invokevirtual 100, 3) := by decide +kernel
theorem kd_M_bound_63 : decode kc_M_bound 63 = .ok (.imul, 1) := by decide +kernel
theorem kd_M_bound_64 : decode kc_M_bound 64 = .ok (.bipush 20, 2) := by decide +kernel
theorem kd_M_bound_66 : decode kc_M_bound 66 = .ok (.iadd, 1) := by decide +kernel
theorem kd_M_bound_67 : decode kc_M_bound 67 = .ok (.goto 4, 3) := by decide +kernel
theorem kd_M_bound_70 : decode kc_M_bound 70 = .ok (.iload_n 3, 1) := by decide +kernel
theorem kd_M_bound_71 : decode kc_M_bound 71 = .ok (.istore 5, 2) := by decide +kernel
theorem kd_M_bound_73 : decode kc_M_bound 73 = .ok (.iload 5, 2) := by decide +kernel
theorem kd_M_bound_75 : decode kc_M_bound 75 = .ok (.iload_n 3, 1) := by decide +kernel
theorem kd_M_bound_76 : decode kc_M_bound 76 = .ok (.if_icmp .ge 8, 3) := by decide +kernel
theorem kd_M_bound_79 : decode kc_M_bound 79 = .ok (.iload 5, 2) := by decide +kernel
theorem kd_M_bound_81 : decode kc_M_bound 81 = .ok (.goto 4, 3) := by decide +kernel
theorem kd_M_bound_84 : decode kc_M_bound 84 = .ok (.iload_n 3, 1) := by decide +kernel
theorem kd_M_bound_85 : decode kc_M_bound 85 = .ok (.istore_n 3, 1) := by decide +kernel
theorem kd_M_bound_86 : decode kc_M_bound 86 = .ok (.iinc 4 1, 3) := by decide +kernel
theorem kd_M_bound_89 : decode kc_M_bound 89 = .ok (.goto (-58), 3) := by decide +kernel
theorem kd_M_bound_92 : decode kc_M_bound 92 = .ok (.iload_n 1, 1) := by decide +kernel
theorem kd_M_bound_93 : decode kc_M_bound 93 = .ok (.iload_n 3, 1) := by decide +kernel
theorem kd_M_bound_94 : decode kc_M_bound 94 = .ok (.iadd, 1) := by decide +kernel
theorem kd_M_bound_95 : decode kc_M_bound 95 = .ok (.istore_n 1, 1) := by decide +kernel
theorem kd_M_bound_96 : decode kc_M_bound 96 = .ok (.iinc 2 1, 3) := by decide +kernel
theorem kd_M_bound_99 : decode kc_M_bound 99 = .ok (.goto (-90), 3) := by decide +kernel
theorem kd_M_bound_102 : decode kc_M_bound 102 = .ok (.iload_n 1, 1) := by decide +kernel
theorem kd_M_bound_103 : decode kc_M_bound 103 = .ok (.ireturn, 1) := by decide +kernel
theorem kd_M_give_0 : decode kc_M_give 0 = .ok (.aload_n 0, 1) := by decide +kernel
theorem kd_M_give_1 : decode kc_M_give 1 = .ok (.iload_n 1, 1) := by decide +kernel
theorem kd_M_give_2 : decode kc_M_give 2 = .ok (.invokevirtual 76, 3) := by decide +kernel
theorem kd_M_give_5 : decode kc_M_give 5 = .ok (.ifCond .eq 12, 3) := by decide +kernel
theorem kd_M_give_8 : decode kc_M_give 8 = .ok (.aload_n 0, 1) := by decide +kernel
theorem kd_M_give_9 : decode kc_M_give 9 = .ok (.iload_n 1, 1) := by decide +kernel
theorem kd_M_give_10 : decode kc_M_give 10 = .ok (.iload_n 2, 1) := by decide +kernel
theorem kd_M_give_11 : decode kc_M_give 11 = .ok (.invokevirtual 140, 3) := by decide +kernel
theorem kd_M_give_14 : decode kc_M_give 14 = .ok (.goto 4, 3) := by decide +kernel
theorem kd_M_give_17 : decode kc_M_give 17 = .ok (.iconst (-1), 1) := by decide +kernel
theorem kd_M_give_18 : decode kc_M_give 18 = .ok (.istore 4, 2) := by decide +kernel
theorem kd_M_give_20 : decode kc_M_give 20 = .ok (.aload_n 0, 1) := by decide +kernel
theorem kd_M_give_21 : decode kc_M_give 21 = .ok (.iload 4, 2) := by decide +kernel
theorem kd_M_give_23 : decode kc_M_give 23 = .ok (.iconst (-1), 1) := by decide +kernel
theorem kd_M_give_24 : decode kc_M_give 24 = .ok (.if_icmp .ne 7, 3) := by decide +kernel
theorem kd_M_give_27 : decode kc_M_give 27 = .ok (.iconst 1, 1) := by decide +kernel
theorem kd_M_give_28 : decode kc_M_give 28 = .ok (.goto 17, 3) := by decide +kernel
theorem kd_M_give_31 : decode kc_M_give 31 = .ok (.iload_n 3, 1) := by decide +kernel
theorem kd_M_give_32 : decode kc_M_give 32 = .ok (.iconst 0, 1) := by decide +kernel
theorem kd_M_give_33 : decode kc_M_give 33 = .ok (.iconst 2, 1) := by decide +kernel
theorem kd_M_give_34 : decode kc_M_give 34 = .ok (.invokestatic 69, 3) := by decide +kernel
theorem kd_M_give_37 : decode kc_M_give 37 = .ok (.ifCond .ne 7, 3) := by decide +kernel
theorem kd_M_give_40 : decode kc_M_give 40 = .ok (.iconst 2, 1) := by decide +kernel
theorem kd_M_give_41 : decode kc_M_give 41 = .ok (.goto 4, 3) := by decide +kernel
theorem kd_M_give_44 : decode kc_M_give 44 = .ok (.iconst 0, 1) := by decide +kernel
theorem kd_M_give_45 : decode kc_M_give 45 = .ok (.putfield 62, 3) := by decide +kernel
theorem kd_M_give_48 : decode kc_M_give 48 = .ok (.aload_n 0, 1) := by decide +kernel
theorem kd_M_give_49 : decode kc_M_give 49 = .ok (.getfield 62, 3) := by decide +kernel
theorem kd_M_give_52 : decode kc_M_give 52 = .ok (.ifCond .le 5, 3) := by decide +kernel
theorem kd_M_give_55 : decode kc_M_give 55 = .ok (.iconst 0, 1) := by decide +kernel
theorem kd_M_give_56 : decode kc_M_give 56 = .ok (.ireturn, 1) := by decide +kernel
theorem kd_M_give_57 : decode kc_M_give 57 = .ok (.iload_n 3, 1) := by decide +kernel
theorem kd_M_give_58 : decode kc_M_give 58 = .ok (.ifCond .ne 8, 3) := by decide +kernel
theorem kd_M_give_61 : decode kc_M_give 61 = .ok (.iload 4, 2) := by decide +kernel
theorem kd_M_give_63 : decode kc_M_give 63 = .ok (.goto 30, 3) := by decide +kernel
theorem kd_M_give_66 : decode kc_M_give 66 = .ok (.iload_n 3, 1) := by decide +kernel
theorem kd_M_give_67 : decode kc_M_give 67 = .ok (.iconst 1, 1) := by decide +kernel
theorem kd_M_give_68 : decode kc_M_give 68 = .ok (.if_icmp .ne 18, 3) := by decide +kernel
theorem kd_M_give_71 : decode kc_M_give 71 = .ok (.aload_n 0, 1) := by decide +kernel
theorem kd_M_give_72 : decode kc_M_give 72 = .ok (.getfield 38, 3) := by decide +kernel
theorem kd_M_give_75 : decode kc_M_give 75 = .ok (.bipush 8, 2) := by decide +kernel
theorem kd_M_give_77 : decode kc_M_give 77 = .ok (.iload_n 1, 1) := by decide +kernel
theorem kd_M_give_78 : decode kc_M_give 78 = .ok (.imul, 1) := by decide +kernel
theorem kd_M_give_79 : decode kc_M_give 79 = .ok (.iload 4, 2) := by decide +kernel
theorem kd_M_give_81 : decode kc_M_give 81 = .ok (.iadd, 1) := by decide +kernel
theorem kd_M_give_82 : decode kc_M_give 82 = .ok (.iaload, 1) := by decide +kernel
theorem kd_M_give_83 : decode kc_M_give 83 = .ok (.goto 10, 3) := by decide +kernel
theorem kd_M_give_86 : decode kc_M_give 86 = .ok (.aload_n 0, 1) := by decide +kernel
theorem kd_M_give_87 : decode kc_M_give 87 = .ok (.iload 4, 2) := by decide +kernel
theorem kd_M_give_89 : decode kc_M_give 89 = .ok (.iload_n 1, 1) := by decide +kernel
theorem kd_M_give_90 : decode kc_M_give 90 = .ok (.invokevirtual 100, 3) := by decide +kernel
theorem kd_M_give_93 : decode kc_M_give 93 = .ok (.ireturn, 1) := by decide +kernel
theorem kd_M_giftAt_0 : decode kc_M_giftAt 0 = .ok (.iload_n 2, 1) := by decide +kernel
theorem kd_M_giftAt_1 : decode kc_M_giftAt 1 = .ok (.istore_n 3, 1) := by decide +kernel
theorem kd_M_giftAt_2 : decode kc_M_giftAt 2 = .ok (.iconst 0, 1) := by decide +kernel
theorem kd_M_giftAt_3 : decode kc_M_giftAt 3 = .ok (.istore 4, 2) := by decide +kernel
theorem kd_M_giftAt_5 : decode kc_M_giftAt 5 = .ok (.iload 4, 2) := by decide +kernel
theorem kd_M_giftAt_7 : decode kc_M_giftAt 7 = .ok (.aload_n 0, 1) := by decide +kernel
theorem kd_M_giftAt_8 : decode kc_M_giftAt 8 = .ok (.getfield 66, 3) := by decide +kernel
theorem kd_M_giftAt_11 : decode kc_M_giftAt 11 = .ok (.if_icmp .ge 49, 3) := by decide +kernel
theorem kd_M_giftAt_14 : decode kc_M_giftAt 14 = .ok (.iload_n 2, 1) := by decide +kernel
theorem kd_M_giftAt_15 : decode kc_M_giftAt 15 = .ok (.ifCond .lt 45, 3) := by decide +kernel
theorem kd_M_giftAt_18 : decode kc_M_giftAt 18 = .ok (.aload_n 0, 1) := by decide +kernel
theorem kd_M_giftAt_19 : decode kc_M_giftAt 19 = .ok (.iload 4, 2) := by decide +kernel
theorem kd_M_giftAt_21 : decode kc_M_giftAt 21 = .ok (.invokevirtual 96, 3) := by decide +kernel
theorem kd_M_giftAt_24 : decode kc_M_giftAt 24 = .ok (.istore 5, 2) := by decide +kernel
theorem kd_M_giftAt_26 : decode kc_M_giftAt 26 = .ok (.aload_n 0, 1) := by decide +kernel
theorem kd_M_giftAt_27 : decode kc_M_giftAt 27 = .ok (.getfield 38, 3) := by decide +kernel
theorem kd_M_giftAt_30 : decode kc_M_giftAt 30 = .ok (.bipush 8, 2) := by decide +kernel
theorem kd_M_giftAt_32 : decode kc_M_giftAt 32 = .ok (.iload_n 1, 1) := by decide +kernel
theorem kd_M_giftAt_33 : decode kc_M_giftAt 33 = .ok (.imul, 1) := by decide +kernel
theorem kd_M_giftAt_34 : decode kc_M_giftAt 34 = .ok (.iload 5, 2) := by decide +kernel
theorem kd_M_giftAt_36 : decode kc_M_giftAt 36 = .ok (.iadd, 1) := by decide +kernel
theorem kd_M_giftAt_37 : decode kc_M_giftAt 37 = .ok (.iaload, 1) := by decide +kernel
theorem kd_M_giftAt_38 : decode kc_M_giftAt 38 = .ok (.ifCond .ne 6, 3) := by decide +kernel
theorem kd_M_giftAt_41 : decode kc_M_giftAt 41 = .ok (.goto 13, 3) := by decide +kernel
theorem kd_M_giftAt_44 : decode kc_M_giftAt 44 = .ok (.iload_n 3, 1) := by decide +kernel
theorem kd_M_giftAt_45 : decode kc_M_giftAt 45 = .ok (.ifCond .ne 6, 3) := by decide +kernel
theorem kd_M_giftAt_48 : decode kc_M_giftAt 48 = .ok (.iload 5, 2) := by decide +kernel
theorem kd_M_giftAt_50 : decode kc_M_giftAt 50 = .ok (.ireturn, 1) := by decide +kernel
theorem kd_M_giftAt_51 : decode kc_M_giftAt 51 = .ok (.iinc 3 (-1), 3) := by decide +kernel
theorem kd_M_giftAt_54 : decode kc_M_giftAt 54 = .ok (.iinc 4 1, 3) := by decide +kernel
theorem kd_M_giftAt_57 : decode kc_M_giftAt 57 = .ok (.goto (-52), 3) := by decide +kernel
theorem kd_M_giftAt_60 : decode kc_M_giftAt 60 = .ok (.iconst (-1), 1) := by decide +kernel
theorem kd_M_giftAt_61 : decode kc_M_giftAt 61 = .ok (.ireturn, 1) := by decide +kernel
theorem kd_M_held_0 : decode kc_M_held 0 = .ok (.aload_n 0, 1) := by decide +kernel
theorem kd_M_held_1 : decode kc_M_held 1 = .ok (.aload_n 0, 1) := by decide +kernel
theorem kd_M_held_2 : decode kc_M_held 2 = .ok (.iload_n 1, 1) := by decide +kernel
theorem kd_M_held_3 : decode kc_M_held 3 = .ok (.invokevirtual 84, 3) := by decide +kernel
theorem kd_M_held_6 : decode kc_M_held 6 = .ok (.ifCond .eq 7, 3) := by decide +kernel
theorem kd_M_held_9 : decode kc_M_held 9 = .ok (.iconst 0, 1) := by decide +kernel
theorem kd_M_held_10 : decode kc_M_held 10 = .ok (.goto 4, 3) := by decide +kernel
theorem kd_M_held_13 : decode kc_M_held 13 = .ok (.iconst 1, 1) := by decide +kernel
theorem kd_M_held_14 : decode kc_M_held 14 = .ok (.putfield 62, 3) := by decide +kernel
theorem kd_M_held_17 : decode kc_M_held 17 = .ok (.aload_n 0, 1) := by decide +kernel
theorem kd_M_held_18 : decode kc_M_held 18 = .ok (.getfield 62, 3) := by decide +kernel
theorem kd_M_held_21 : decode kc_M_held 21 = .ok (.ifCond .le 7, 3) := by decide +kernel
theorem kd_M_held_24 : decode kc_M_held 24 = .ok (.iconst 0, 1) := by decide +kernel
theorem kd_M_held_25 : decode kc_M_held 25 = .ok (.goto 8, 3) := by decide +kernel
theorem kd_M_held_28 : decode kc_M_held 28 = .ok (.aload_n 0, 1) := by decide +kernel
theorem kd_M_held_29 : decode kc_M_held 29 = .ok (.iload_n 1, 1) := by decide +kernel
theorem kd_M_held_30 : decode kc_M_held 30 = .ok (.invokevirtual 143, 3) := by decide +kernel
theorem kd_M_held_33 : decode kc_M_held 33 = .ok (.ireturn, 1) := by decide +kernel
theorem kd_M_heldOf_0 : decode kc_M_heldOf 0 = .ok (.iconst 0, 1) := by decide +kernel
theorem kd_M_heldOf_1 : decode kc_M_heldOf 1 = .ok (.istore_n 2, 1) := by decide +kernel
theorem kd_M_heldOf_2 : decode kc_M_heldOf 2 = .ok (.iconst 0, 1) := by decide +kernel
theorem kd_M_heldOf_3 : decode kc_M_heldOf 3 = .ok (.istore_n 3, 1) := by decide +kernel
theorem kd_M_heldOf_4 : decode kc_M_heldOf 4 = .ok (.iload_n 3, 1) := by decide +kernel
theorem kd_M_heldOf_5 : decode kc_M_heldOf 5 = .ok (.aload_n 0, 1) := by decide +kernel
theorem kd_M_heldOf_6 : decode kc_M_heldOf 6 = .ok (.getfield 73, 3) := by decide +kernel
theorem kd_M_heldOf_9 : decode kc_M_heldOf 9 = .ok (.if_icmp .ge 23, 3) := by decide +kernel
theorem kd_M_heldOf_12 : decode kc_M_heldOf 12 = .ok (.iload_n 2, 1) := by decide +kernel
theorem kd_M_heldOf_13 : decode kc_M_heldOf 13 = .ok (.aload_n 0, 1) := by decide +kernel
theorem kd_M_heldOf_14 : decode kc_M_heldOf 14 = .ok (.getfield 38, 3) := by decide +kernel
theorem kd_M_heldOf_17 : decode kc_M_heldOf 17 = .ok (.bipush 8, 2) := by decide +kernel
theorem kd_M_heldOf_19 : decode kc_M_heldOf 19 = .ok (.iload_n 3, 1) := by decide +kernel
theorem kd_M_heldOf_20 : decode kc_M_heldOf 20 = .ok (.imul, 1) := by decide +kernel
theorem kd_M_heldOf_21 : decode kc_M_heldOf 21 = .ok (.iload_n 1, 1) := by decide +kernel
theorem kd_M_heldOf_22 : decode kc_M_heldOf 22 = .ok (.iadd, 1) := by decide +kernel
theorem kd_M_heldOf_23 : decode kc_M_heldOf 23 = .ok (.iaload, 1) := by decide +kernel
theorem kd_M_heldOf_24 : decode kc_M_heldOf 24 = .ok (.iadd, 1) := by decide +kernel
theorem kd_M_heldOf_25 : decode kc_M_heldOf 25 = .ok (.istore_n 2, 1) := by decide +kernel
theorem kd_M_heldOf_26 : decode kc_M_heldOf 26 = .ok (.iinc 3 1, 3) := by decide +kernel
theorem kd_M_heldOf_29 : decode kc_M_heldOf 29 = .ok (.goto (-25), 3) := by decide +kernel
theorem kd_M_heldOf_32 : decode kc_M_heldOf 32 = .ok (.iload_n 2, 1) := by decide +kernel
theorem kd_M_heldOf_33 : decode kc_M_heldOf 33 = .ok (.ireturn, 1) := by decide +kernel
theorem kd_M_left_0 : decode kc_M_left 0 = .ok (.aload_n 0, 1) := by decide +kernel
theorem kd_M_left_1 : decode kc_M_left 1 = .ok (.aload_n 0, 1) := by decide +kernel
theorem kd_M_left_2 : decode kc_M_left 2 = .ok (.iload_n 1, 1) := by decide +kernel
theorem kd_M_left_3 : decode kc_M_left 3 = .ok (.invokevirtual 84, 3) := by decide +kernel
theorem kd_M_left_6 : decode kc_M_left 6 = .ok (.ifCond .eq 7, 3) := by decide +kernel
theorem kd_M_left_9 : decode kc_M_left 9 = .ok (.iconst 0, 1) := by decide +kernel
theorem kd_M_left_10 : decode kc_M_left 10 = .ok (.goto 4, 3) := by decide +kernel
theorem kd_M_left_13 : decode kc_M_left 13 = .ok (.iconst 1, 1) := by decide +kernel
theorem kd_M_left_14 : decode kc_M_left 14 = .ok (.putfield 62, 3) := by decide +kernel
theorem kd_M_left_17 : decode kc_M_left 17 = .ok (.aload_n 0, 1) := by decide +kernel
theorem kd_M_left_18 : decode kc_M_left 18 = .ok (.getfield 62, 3) := by decide +kernel
theorem kd_M_left_21 : decode kc_M_left 21 = .ok (.ifCond .le 7, 3) := by decide +kernel
theorem kd_M_left_24 : decode kc_M_left 24 = .ok (.iconst 0, 1) := by decide +kernel
theorem kd_M_left_25 : decode kc_M_left 25 = .ok (.goto 15, 3) := by decide +kernel
theorem kd_M_left_28 : decode kc_M_left 28 = .ok (.aload_n 0, 1) := by decide +kernel
theorem kd_M_left_29 : decode kc_M_left 29 = .ok (.getfield 16, 3) := by decide +kernel
theorem kd_M_left_32 : decode kc_M_left 32 = .ok (.iload_n 1, 1) := by decide +kernel
theorem kd_M_left_33 : decode kc_M_left 33 = .ok (.iaload, 1) := by decide +kernel
theorem kd_M_left_34 : decode kc_M_left 34 = .ok (.aload_n 0, 1) := by decide +kernel
theorem kd_M_left_35 : decode kc_M_left 35 = .ok (.iload_n 1, 1) := by decide +kernel
theorem kd_M_left_36 : decode kc_M_left 36 = .ok (.invokevirtual 143, 3) := by decide +kernel
theorem kd_M_left_39 : decode kc_M_left 39 = .ok (.isub, 1) := by decide +kernel
theorem kd_M_left_40 : decode kc_M_left 40 = .ok (.ireturn, 1) := by decide +kernel
theorem kd_M_bar_0 : decode kc_M_bar 0 = .ok (.aload_n 0, 1) := by decide +kernel
theorem kd_M_bar_1 : decode kc_M_bar 1 = .ok (.aload_n 0, 1) := by decide +kernel
theorem kd_M_bar_2 : decode kc_M_bar 2 = .ok (.iload_n 1, 1) := by decide +kernel
theorem kd_M_bar_3 : decode kc_M_bar 3 = .ok (.invokevirtual 76, 3) := by decide +kernel
theorem kd_M_bar_6 : decode kc_M_bar 6 = .ok (.ifCond .eq 7, 3) := by decide +kernel
theorem kd_M_bar_9 : decode kc_M_bar 9 = .ok (.iconst 0, 1) := by decide +kernel
theorem kd_M_bar_10 : decode kc_M_bar 10 = .ok (.goto 4, 3) := by decide +kernel
theorem kd_M_bar_13 : decode kc_M_bar 13 = .ok (.iconst 1, 1) := by decide +kernel
theorem kd_M_bar_14 : decode kc_M_bar 14 = .ok (.putfield 62, 3) := by decide +kernel
theorem kd_M_bar_17 : decode kc_M_bar 17 = .ok (.aload_n 0, 1) := by decide +kernel
theorem kd_M_bar_18 : decode kc_M_bar 18 = .ok (.getfield 62, 3) := by decide +kernel
theorem kd_M_bar_21 : decode kc_M_bar 21 = .ok (.ifCond .le 5, 3) := by decide +kernel
theorem kd_M_bar_24 : decode kc_M_bar 24 = .ok (.iconst 0, 1) := by decide +kernel
theorem kd_M_bar_25 : decode kc_M_bar 25 = .ok (.ireturn, 1) := by decide +kernel
theorem kd_M_bar_26 : decode kc_M_bar 26 = .ok (.iconst 1, 1) := by decide +kernel
theorem kd_M_bar_27 : decode kc_M_bar 27 = .ok (.istore_n 2, 1) := by decide +kernel
theorem kd_M_bar_28 : decode kc_M_bar 28 = .ok (.iload_n 2, 1) := by decide +kernel
theorem kd_M_bar_29 : decode kc_M_bar 29 = .ok (.iconst 5, 1) := by decide +kernel
theorem kd_M_bar_30 : decode kc_M_bar 30 = .ok (.if_icmp .ge 97, 3) := by decide +kernel
theorem kd_M_bar_33 : decode kc_M_bar 33 = .ok (.iconst 0, 1) := by decide +kernel
theorem kd_M_bar_34 : decode kc_M_bar 34 = .ok (.istore_n 3, 1) := by decide +kernel
theorem kd_M_bar_35 : decode kc_M_bar 35 = .ok (.iconst 0, 1) := by decide +kernel
theorem kd_M_bar_36 : decode kc_M_bar 36 = .ok (.istore 4, 2) := by decide +kernel
theorem kd_M_bar_38 : decode kc_M_bar 38 = .ok (.iload 4, 2) := by decide +kernel
theorem kd_M_bar_40 : decode kc_M_bar 40 = .ok (.aload_n 0, 1) := by decide +kernel
theorem kd_M_bar_41 : decode kc_M_bar 41 = .ok (.getfield 66, 3) := by decide +kernel
theorem kd_M_bar_44 : decode kc_M_bar 44 = .ok (.if_icmp .ge 71, 3) := by decide +kernel
theorem kd_M_bar_47 : decode kc_M_bar 47 = .ok (.iload_n 3, 1) := by decide +kernel
theorem kd_M_bar_48 : decode kc_M_bar 48 = .ok (.ifCond .ne 55, 3) := by decide +kernel
theorem kd_M_bar_51 : decode kc_M_bar 51 = .ok (.aload_n 0, 1) := by decide +kernel
theorem kd_M_bar_52 : decode kc_M_bar 52 = .ok (.iload 4, 2) := by decide +kernel
theorem kd_M_bar_54 : decode kc_M_bar 54 = .ok (.iload_n 1, 1) := by decide +kernel
theorem kd_M_bar_55 : decode kc_M_bar 55 = .ok (.iload_n 2, 1) := by decide +kernel
theorem kd_M_bar_56 : decode kc_M_bar 56 = .ok (.iconst 3, 1) := by decide +kernel
theorem kd_M_bar_57 : decode kc_M_bar 57 = .ok (.if_icmp .ge 7, 3) := by decide +kernel
theorem kd_M_bar_60 : decode kc_M_bar 60 = .ok (.iload_n 2, 1) := by decide +kernel
theorem kd_M_bar_61 : decode kc_M_bar 61 = .ok (.goto 4, 3) := by decide +kernel
theorem kd_M_bar_64 : decode kc_M_bar 64 = .ok (.iconst 3, 1) := by decide +kernel
theorem kd_M_bar_65 : decode kc_M_bar 65 = .ok (.invokevirtual 87, 3) := by decide +kernel
theorem kd_M_bar_68 : decode kc_M_bar 68 = .ok (.ifCond .eq 39, 3) := by decide +kernel
theorem kd_M_bar_71 : decode kc_M_bar 71 = .ok (.iload_n 2, 1) := by decide +kernel
theorem kd_M_bar_72 : decode kc_M_bar 72 = .ok (.iconst 4, 1) := by decide +kernel
theorem kd_M_bar_73 : decode kc_M_bar 73 = .ok (.if_icmp .lt 30, 3) := by decide +kernel
theorem kd_M_bar_76 : decode kc_M_bar 76 = .ok (.aload_n 0, 1) := by decide +kernel
theorem kd_M_bar_77 : decode kc_M_bar 77 = .ok (.getfield 16, 3) := by decide +kernel
theorem kd_M_bar_80 : decode kc_M_bar 80 = .ok (.iload 4, 2) := by decide +kernel
theorem kd_M_bar_82 : decode kc_M_bar 82 = .ok (.iaload, 1) := by decide +kernel
theorem kd_M_bar_83 : decode kc_M_bar 83 = .ok (.aload_n 0, 1) := by decide +kernel
theorem kd_M_bar_84 : decode kc_M_bar 84 = .ok (.iload 4, 2) := by decide +kernel
theorem kd_M_bar_86 : decode kc_M_bar 86 = .ok (.invokevirtual 143, 3) := by decide +kernel
theorem kd_M_bar_89 : decode kc_M_bar 89 = .ok (.isub, 1) := by decide +kernel
theorem kd_M_bar_90 : decode kc_M_bar 90 = .ok (.aload_n 0, 1) := by decide +kernel
theorem kd_M_bar_91 : decode kc_M_bar 91 = .ok (.getfield 28, 3) := by decide +kernel
theorem kd_M_bar_94 : decode kc_M_bar 94 = .ok (.iconst 4, 1) := by decide +kernel
theorem kd_M_bar_95 : decode kc_M_bar 95 = .ok (.iload_n 1, 1) := by decide +kernel
theorem kd_M_bar_96 : decode kc_M_bar 96 = .ok (.imul, 1) := by decide +kernel
theorem kd_M_bar_97 : decode kc_M_bar 97 = .ok (.iconst 1, 1) := by decide +kernel
theorem kd_M_bar_98 : decode kc_M_bar 98 = .ok (.iadd, 1) := by decide +kernel
theorem kd_M_bar_99 : decode kc_M_bar 99 = .ok (.iaload, 1) := by decide +kernel
theorem kd_M_bar_100 : decode kc_M_bar 100 = .ok (.if_icmp .lt 7, 3) := by decide +kernel
theorem kd_M_bar_103 : decode kc_M_bar 103 = .ok (.iconst 1, 1) := by decide +kernel
theorem kd_M_bar_104 : decode kc_M_bar 104 = .ok (.goto 4, 3) := by decide +kernel
theorem kd_M_bar_107 : decode kc_M_bar 107 = .ok (.iconst 0, 1) := by decide +kernel
theorem kd_M_bar_108 : decode kc_M_bar 108 = .ok (.istore_n 3, 1) := by decide +kernel
theorem kd_M_bar_109 : decode kc_M_bar 109 = .ok (.iinc 4 1, 3) := by decide +kernel
theorem kd_M_bar_112 : decode kc_M_bar 112 = .ok (.goto (-74), 3) := by decide +kernel
theorem kd_M_bar_115 : decode kc_M_bar 115 = .ok (.iload_n 3, 1) := by decide +kernel
theorem kd_M_bar_116 : decode kc_M_bar 116 = .ok (.ifCond .ne 5, 3) := by decide +kernel
theorem kd_M_bar_119 : decode kc_M_bar 119 = .ok (.iload_n 2, 1) := by decide +kernel
theorem kd_M_bar_120 : decode kc_M_bar 120 = .ok (.ireturn, 1) := by decide +kernel
theorem kd_M_bar_121 : decode kc_M_bar 121 = .ok (.iinc 2 1, 3) := by decide +kernel
theorem kd_M_bar_124 : decode kc_M_bar 124 = .ok (.goto (-96), 3) := by decide +kernel
theorem kd_M_bar_127 : decode kc_M_bar 127 = .ok (.iconst 0, 1) := by decide +kernel
theorem kd_M_bar_128 : decode kc_M_bar 128 = .ok (.ireturn, 1) := by decide +kernel
theorem kd_M_change_0 : decode kc_M_change 0 = .ok (.aload_n 0, 1) := by decide +kernel
theorem kd_M_change_1 : decode kc_M_change 1 = .ok (.aload_n 0, 1) := by decide +kernel
theorem kd_M_change_2 : decode kc_M_change 2 = .ok (.iload_n 1, 1) := by decide +kernel
theorem kd_M_change_3 : decode kc_M_change 3 = .ok (.invokevirtual 84, 3) := by decide +kernel
theorem kd_M_change_6 : decode kc_M_change 6 = .ok (.ifCond .ne 7, 3) := by decide +kernel
theorem kd_M_change_9 : decode kc_M_change 9 = .ok (.iconst 1, 1) := by decide +kernel
theorem kd_M_change_10 : decode kc_M_change 10 = .ok (.goto 19, 3) := by decide +kernel
theorem kd_M_change_13 : decode kc_M_change 13 = .ok (.iload_n 2, 1) := by decide +kernel
theorem kd_M_change_14 : decode kc_M_change 14 = .ok (.iconst 0, 1) := by decide +kernel
theorem kd_M_change_15 : decode kc_M_change 15 = .ok (.sipush 500, 3) := by decide +kernel
theorem kd_M_change_18 : decode kc_M_change 18 = .ok (.invokestatic 69, 3) := by decide +kernel
theorem kd_M_change_21 : decode kc_M_change 21 = .ok (.ifCond .ne 7, 3) := by decide +kernel
theorem kd_M_change_24 : decode kc_M_change 24 = .ok (.iconst 2, 1) := by decide +kernel
theorem kd_M_change_25 : decode kc_M_change 25 = .ok (.goto 4, 3) := by decide +kernel
theorem kd_M_change_28 : decode kc_M_change 28 = .ok (.iconst 0, 1) := by decide +kernel
theorem kd_M_change_29 : decode kc_M_change 29 = .ok (.putfield 62, 3) := by decide +kernel
theorem kd_M_change_32 : decode kc_M_change 32 = .ok (.aload_n 0, 1) := by decide +kernel
theorem kd_M_change_33 : decode kc_M_change 33 = .ok (.getfield 62, 3) := by decide +kernel
theorem kd_M_change_36 : decode kc_M_change 36 = .ok (.ifCond .le 5, 3) := by decide +kernel
theorem kd_M_change_39 : decode kc_M_change 39 = .ok (.iconst 0, 1) := by decide +kernel
theorem kd_M_change_40 : decode kc_M_change 40 = .ok (.ireturn, 1) := by decide +kernel
theorem kd_M_change_41 : decode kc_M_change 41 = .ok (.aload_n 0, 1) := by decide +kernel
theorem kd_M_change_42 : decode kc_M_change 42 = .ok (.getfield 16, 3) := by decide +kernel
theorem kd_M_change_45 : decode kc_M_change 45 = .ok (.iload_n 1, 1) := by decide +kernel
theorem kd_M_change_46 : decode kc_M_change 46 = .ok (.iload_n 2, 1) := by decide +kernel
theorem kd_M_change_47 : decode kc_M_change 47 = .ok (.iastore, 1) := by decide +kernel
theorem kd_M_change_48 : decode kc_M_change 48 = .ok (.iconst 0, 1) := by decide +kernel
theorem kd_M_change_49 : decode kc_M_change 49 = .ok (.istore_n 3, 1) := by decide +kernel
theorem kd_M_change_50 : decode kc_M_change 50 = .ok (.aload_n 0, 1) := by decide +kernel
theorem kd_M_change_51 : decode kc_M_change 51 = .ok (.getfield 73, 3) := by decide +kernel
theorem kd_M_change_54 : decode kc_M_change 54 = .ok (.iconst 1, 1) := by decide +kernel
theorem kd_M_change_55 : decode kc_M_change 55 = .ok (.isub, 1) := by decide +kernel
theorem kd_M_change_56 : decode kc_M_change 56 = .ok (.istore 4, 2) := by decide +kernel
theorem kd_M_change_58 : decode kc_M_change 58 = .ok (.iload 4, 2) := by decide +kernel
theorem kd_M_change_60 : decode kc_M_change 60 = .ok (.ifCond .lt 144, 3) := by decide +kernel
theorem kd_M_change_63 : decode kc_M_change 63 = .ok (.aload_n 0, 1) := by decide +kernel
theorem kd_M_change_64 : decode kc_M_change 64 = .ok (.iload_n 1, 1) := by decide +kernel
theorem kd_M_change_65 : decode kc_M_change 65 = .ok (.invokevirtual 143, 3) := by decide +kernel
theorem kd_M_change_68 : decode kc_M_change 68 = .ok (.iload_n 2, 1) := by decide +kernel
theorem kd_M_change_69 : decode kc_M_change 69 = .ok (.isub, 1) := by decide +kernel
theorem kd_M_change_70 : decode kc_M_change 70 = .ok (.istore 5, 2) := by decide +kernel
theorem kd_M_change_72 : decode kc_M_change 72 = .ok (.iload 5, 2) := by decide +kernel
theorem kd_M_change_74 : decode kc_M_change 74 = .ok (.ifCond .le 124, 3) := by decide +kernel
theorem kd_M_change_77 : decode kc_M_change 77 = .ok (.aload_n 0, 1) := by decide +kernel
theorem kd_M_change_78 : decode kc_M_change 78 = .ok (.getfield 38, 3) := by decide +kernel
theorem kd_M_change_81 : decode kc_M_change 81 = .ok (.bipush 8, 2) := by decide +kernel
theorem kd_M_change_83 : decode kc_M_change 83 = .ok (.iload 4, 2) := by decide +kernel
theorem kd_M_change_85 : decode kc_M_change 85 = .ok (.imul, 1) := by decide +kernel
theorem kd_M_change_86 : decode kc_M_change 86 = .ok (.iload_n 1, 1) := by decide +kernel
theorem kd_M_change_87 : decode kc_M_change 87 = .ok (.iadd, 1) := by decide +kernel
theorem kd_M_change_88 : decode kc_M_change 88 = .ok (.iaload, 1) := by decide +kernel
theorem kd_M_change_89 : decode kc_M_change 89 = .ok (.ifCond .ne 6, 3) := by decide +kernel
theorem kd_M_change_92 : decode kc_M_change 92 = .ok (.goto 106, 3) := by decide +kernel
theorem kd_M_change_95 : decode kc_M_change 95 = .ok (.iinc 3 1, 3) := by decide +kernel
theorem kd_M_change_98 : decode kc_M_change 98 = .ok (.iload 5, 2) := by decide +kernel
theorem kd_M_change_100 : decode kc_M_change 100 = .ok (.aload_n 0, 1) := by decide +kernel
theorem kd_M_change_101 : decode kc_M_change 101 = .ok (.getfield 38, 3) := by decide +kernel
theorem kd_M_change_104 : decode kc_M_change 104 = .ok (.bipush 8, 2) := by decide +kernel
theorem kd_M_change_106 : decode kc_M_change 106 = .ok (.iload 4, 2) := by decide +kernel
theorem kd_M_change_108 : decode kc_M_change 108 = .ok (.imul, 1) := by decide +kernel
theorem kd_M_change_109 : decode kc_M_change 109 = .ok (.iload_n 1, 1) := by decide +kernel
theorem kd_M_change_110 : decode kc_M_change 110 = .ok (.iadd, 1) := by decide +kernel
theorem kd_M_change_111 : decode kc_M_change 111 = .ok (.iaload, 1) := by decide +kernel
theorem kd_M_change_112 : decode kc_M_change 112 = .ok (.if_icmp .ge 8, 3) := by decide +kernel
theorem kd_M_change_115 : decode kc_M_change 115 = .ok (.iload 5, 2) := by decide +kernel
theorem kd_M_change_117 : decode kc_M_change 117 = .ok (.goto 15, 3) := by decide +kernel
theorem kd_M_change_120 : decode kc_M_change 120 = .ok (.aload_n 0, 1) := by decide +kernel
theorem kd_M_change_121 : decode kc_M_change 121 = .ok (.getfield 38, 3) := by decide +kernel
theorem kd_M_change_124 : decode kc_M_change 124 = .ok (.bipush 8, 2) := by decide +kernel
theorem kd_M_change_126 : decode kc_M_change 126 = .ok (.iload 4, 2) := by decide +kernel
theorem kd_M_change_128 : decode kc_M_change 128 = .ok (.imul, 1) := by decide +kernel
theorem kd_M_change_129 : decode kc_M_change 129 = .ok (.iload_n 1, 1) := by decide +kernel
theorem kd_M_change_130 : decode kc_M_change 130 = .ok (.iadd, 1) := by decide +kernel
theorem kd_M_change_131 : decode kc_M_change 131 = .ok (.iaload, 1) := by decide +kernel
theorem kd_M_change_132 : decode kc_M_change 132 = .ok (.istore 6, 2) := by decide +kernel
theorem kd_M_change_134 : decode kc_M_change 134 = .ok (.aload_n 0, 1) := by decide +kernel
theorem kd_M_change_135 : decode kc_M_change 135 = .ok (.getfield 38, 3) := by decide +kernel
theorem kd_M_change_138 : decode kc_M_change 138 = .ok (.bipush 8, 2) := by decide +kernel
theorem kd_M_change_140 : decode kc_M_change 140 = .ok (.iload 4, 2) := by decide +kernel
theorem kd_M_change_142 : decode kc_M_change 142 = .ok (.imul, 1) := by decide +kernel
theorem kd_M_change_143 : decode kc_M_change 143 = .ok (.iload_n 1, 1) := by decide +kernel
theorem kd_M_change_144 : decode kc_M_change 144 = .ok (.iadd, 1) := by decide +kernel
theorem kd_M_change_145 : decode kc_M_change 145 = .ok (.dup2, 1) := by decide +kernel
theorem kd_M_change_146 : decode kc_M_change 146 = .ok (.iaload, 1) := by decide +kernel
theorem kd_M_change_147 : decode kc_M_change 147 = .ok (.iload 6, 2) := by decide +kernel
theorem kd_M_change_149 : decode kc_M_change 149 = .ok (.isub, 1) := by decide +kernel
theorem kd_M_change_150 : decode kc_M_change 150 = .ok (.iastore, 1) := by decide +kernel
theorem kd_M_change_151 : decode kc_M_change 151 = .ok (.iconst 0, 1) := by decide +kernel
theorem kd_M_change_152 : decode kc_M_change 152 = .ok (.istore 7, 2) := by decide +kernel
theorem kd_M_change_154 : decode kc_M_change 154 = .ok (.iload 7, 2) := by decide +kernel
theorem kd_M_change_156 : decode kc_M_change 156 = .ok (.aload_n 0, 1) := by decide +kernel
theorem kd_M_change_157 : decode kc_M_change 157 = .ok (.getfield 66, 3) := by decide +kernel
theorem kd_M_change_160 : decode kc_M_change 160 = .ok (.if_icmp .ge 38, 3) := by decide +kernel
theorem kd_M_change_163 : decode kc_M_change 163 = .ok (.aload_n 0, 1) := by decide +kernel
theorem kd_M_change_164 : decode kc_M_change 164 = .ok (.getfield 28, 3) := by decide +kernel
theorem kd_M_change_167 : decode kc_M_change 167 = .ok (.iconst 4, 1) := by decide +kernel
theorem kd_M_change_168 : decode kc_M_change 168 = .ok (.iload 4, 2) := by decide +kernel
theorem kd_M_change_170 : decode kc_M_change 170 = .ok (.imul, 1) := by decide +kernel
theorem kd_M_change_171 : decode kc_M_change 171 = .ok (.iconst 3, 1) := by decide +kernel
theorem kd_M_change_172 : decode kc_M_change 172 = .ok (.iadd, 1) := by decide +kernel
theorem kd_M_change_173 : decode kc_M_change 173 = .ok (.iaload, 1) := by decide +kernel
theorem kd_M_change_174 : decode kc_M_change 174 = .ok (.iconst 1, 1) := by decide +kernel
theorem kd_M_change_175 : decode kc_M_change 175 = .ok (.if_icmp .ne 23, 3) := by decide +kernel
theorem kd_M_change_178 : decode kc_M_change 178 = .ok (.aload_n 0, 1) := by decide +kernel
theorem kd_M_change_179 : decode kc_M_change 179 = .ok (.getfield 38, 3) := by decide +kernel
theorem kd_M_change_182 : decode kc_M_change 182 = .ok (.bipush 8, 2) := by decide +kernel
theorem kd_M_change_184 : decode kc_M_change 184 = .ok (.iload 4, 2) := by decide +kernel
theorem kd_M_change_186 : decode kc_M_change 186 = .ok (.imul, 1) := by decide +kernel
theorem kd_M_change_187 : decode kc_M_change 187 = .ok (.iload 7, 2) := by decide +kernel
theorem kd_M_change_189 : decode kc_M_change 189 = .ok (.iadd, 1) := by decide +kernel
theorem kd_M_change_190 : decode kc_M_change 190 = .ok (.iconst 0, 1) := by decide +kernel
theorem kd_M_change_191 : decode kc_M_change 191 = .ok (.iastore, 1) := by decide +kernel
theorem kd_M_change_192 : decode kc_M_change 192 = .ok (.iinc 7 1, 3) := by decide +kernel
theorem kd_M_change_195 : decode kc_M_change 195 = .ok (.goto (-41), 3) := by decide +kernel
theorem kd_M_change_198 : decode kc_M_change 198 = .ok (.iinc 4 (-1), 3) := by decide +kernel
theorem kd_M_change_201 : decode kc_M_change 201 = .ok (.goto (-143), 3) := by decide +kernel
theorem kd_M_change_204 : decode kc_M_change 204 = .ok (.iload_n 3, 1) := by decide +kernel
theorem kd_M_change_205 : decode kc_M_change 205 = .ok (.ireturn, 1) := by decide +kernel
theorem kd_M_undo_0 : decode kc_M_undo 0 = .ok (.aload_n 0, 1) := by decide +kernel
theorem kd_M_undo_1 : decode kc_M_undo 1 = .ok (.aload_n 0, 1) := by decide +kernel
theorem kd_M_undo_2 : decode kc_M_undo 2 = .ok (.iload_n 1, 1) := by decide +kernel
theorem kd_M_undo_3 : decode kc_M_undo 3 = .ok (.invokevirtual 76, 3) := by decide +kernel
theorem kd_M_undo_6 : decode kc_M_undo 6 = .ok (.ifCond .ne 7, 3) := by decide +kernel
theorem kd_M_undo_9 : decode kc_M_undo 9 = .ok (.iconst 1, 1) := by decide +kernel
theorem kd_M_undo_10 : decode kc_M_undo 10 = .ok (.goto 16, 3) := by decide +kernel
theorem kd_M_undo_13 : decode kc_M_undo 13 = .ok (.aload_n 0, 1) := by decide +kernel
theorem kd_M_undo_14 : decode kc_M_undo 14 = .ok (.iload_n 1, 1) := by decide +kernel
theorem kd_M_undo_15 : decode kc_M_undo 15 = .ok (.invokevirtual 146, 3) := by decide +kernel
theorem kd_M_undo_18 : decode kc_M_undo 18 = .ok (.ifCond .ne 7, 3) := by decide +kernel
theorem kd_M_undo_21 : decode kc_M_undo 21 = .ok (.iconst 2, 1) := by decide +kernel
theorem kd_M_undo_22 : decode kc_M_undo 22 = .ok (.goto 4, 3) := by decide +kernel
theorem kd_M_undo_25 : decode kc_M_undo 25 = .ok (.iconst 0, 1) := by decide +kernel
theorem kd_M_undo_26 : decode kc_M_undo 26 = .ok (.putfield 62, 3) := by decide +kernel
theorem kd_M_undo_29 : decode kc_M_undo 29 = .ok (.aload_n 0, 1) := by decide +kernel
theorem kd_M_undo_30 : decode kc_M_undo 30 = .ok (.getfield 62, 3) := by decide +kernel
theorem kd_M_undo_33 : decode kc_M_undo 33 = .ok (.ifCond .le 5, 3) := by decide +kernel
theorem kd_M_undo_36 : decode kc_M_undo 36 = .ok (.iconst 0, 1) := by decide +kernel
theorem kd_M_undo_37 : decode kc_M_undo 37 = .ok (.ireturn, 1) := by decide +kernel
theorem kd_M_undo_38 : decode kc_M_undo 38 = .ok (.aload_n 0, 1) := by decide +kernel
theorem kd_M_undo_39 : decode kc_M_undo 39 = .ok (.iload_n 1, 1) := by decide +kernel
theorem kd_M_undo_40 : decode kc_M_undo 40 = .ok (.invokevirtual 146, 3) := by decide +kernel
theorem kd_M_undo_43 : decode kc_M_undo 43 = .ok (.istore_n 2, 1) := by decide +kernel
theorem kd_M_undo_44 : decode kc_M_undo 44 = .ok (.iconst 0, 1) := by decide +kernel
theorem kd_M_undo_45 : decode kc_M_undo 45 = .ok (.istore_n 3, 1) := by decide +kernel
theorem kd_M_undo_46 : decode kc_M_undo 46 = .ok (.iload_n 3, 1) := by decide +kernel
theorem kd_M_undo_47 : decode kc_M_undo 47 = .ok (.aload_n 0, 1) := by decide +kernel
theorem kd_M_undo_48 : decode kc_M_undo 48 = .ok (.getfield 66, 3) := by decide +kernel
theorem kd_M_undo_51 : decode kc_M_undo 51 = .ok (.if_icmp .ge 21, 3) := by decide +kernel
theorem kd_M_undo_54 : decode kc_M_undo 54 = .ok (.aload_n 0, 1) := by decide +kernel
theorem kd_M_undo_55 : decode kc_M_undo 55 = .ok (.getfield 38, 3) := by decide +kernel
theorem kd_M_undo_58 : decode kc_M_undo 58 = .ok (.bipush 8, 2) := by decide +kernel
theorem kd_M_undo_60 : decode kc_M_undo 60 = .ok (.iload_n 1, 1) := by decide +kernel
theorem kd_M_undo_61 : decode kc_M_undo 61 = .ok (.imul, 1) := by decide +kernel
theorem kd_M_undo_62 : decode kc_M_undo 62 = .ok (.iload_n 3, 1) := by decide +kernel
theorem kd_M_undo_63 : decode kc_M_undo 63 = .ok (.iadd, 1) := by decide +kernel
theorem kd_M_undo_64 : decode kc_M_undo 64 = .ok (.iconst 0, 1) := by decide +kernel
theorem kd_M_undo_65 : decode kc_M_undo 65 = .ok (.iastore, 1) := by decide +kernel
theorem kd_M_undo_66 : decode kc_M_undo 66 = .ok (.iinc 3 1, 3) := by decide +kernel
theorem kd_M_undo_69 : decode kc_M_undo 69 = .ok (.goto (-23), 3) := by decide +kernel
theorem kd_M_undo_72 : decode kc_M_undo 72 = .ok (.iload_n 2, 1) := by decide +kernel
theorem kd_M_undo_73 : decode kc_M_undo 73 = .ok (.ireturn, 1) := by decide +kernel
theorem kd_M_heldBy_0 : decode kc_M_heldBy 0 = .ok (.iconst 0, 1) := by decide +kernel
theorem kd_M_heldBy_1 : decode kc_M_heldBy 1 = .ok (.istore_n 2, 1) := by decide +kernel
theorem kd_M_heldBy_2 : decode kc_M_heldBy 2 = .ok (.iconst 0, 1) := by decide +kernel
theorem kd_M_heldBy_3 : decode kc_M_heldBy 3 = .ok (.istore_n 3, 1) := by decide +kernel
theorem kd_M_heldBy_4 : decode kc_M_heldBy 4 = .ok (.iload_n 3, 1) := by decide +kernel
theorem kd_M_heldBy_5 : decode kc_M_heldBy 5 = .ok (.aload_n 0, 1) := by decide +kernel
theorem kd_M_heldBy_6 : decode kc_M_heldBy 6 = .ok (.getfield 66, 3) := by decide +kernel
theorem kd_M_heldBy_9 : decode kc_M_heldBy 9 = .ok (.if_icmp .ge 23, 3) := by decide +kernel
theorem kd_M_heldBy_12 : decode kc_M_heldBy 12 = .ok (.iload_n 2, 1) := by decide +kernel
theorem kd_M_heldBy_13 : decode kc_M_heldBy 13 = .ok (.aload_n 0, 1) := by decide +kernel
theorem kd_M_heldBy_14 : decode kc_M_heldBy 14 = .ok (.getfield 38, 3) := by decide +kernel
theorem kd_M_heldBy_17 : decode kc_M_heldBy 17 = .ok (.bipush 8, 2) := by decide +kernel
theorem kd_M_heldBy_19 : decode kc_M_heldBy 19 = .ok (.iload_n 1, 1) := by decide +kernel
theorem kd_M_heldBy_20 : decode kc_M_heldBy 20 = .ok (.imul, 1) := by decide +kernel
theorem kd_M_heldBy_21 : decode kc_M_heldBy 21 = .ok (.iload_n 3, 1) := by decide +kernel
theorem kd_M_heldBy_22 : decode kc_M_heldBy 22 = .ok (.iadd, 1) := by decide +kernel
theorem kd_M_heldBy_23 : decode kc_M_heldBy 23 = .ok (.iaload, 1) := by decide +kernel
theorem kd_M_heldBy_24 : decode kc_M_heldBy 24 = .ok (.iadd, 1) := by decide +kernel
theorem kd_M_heldBy_25 : decode kc_M_heldBy 25 = .ok (.istore_n 2, 1) := by decide +kernel
theorem kd_M_heldBy_26 : decode kc_M_heldBy 26 = .ok (.iinc 3 1, 3) := by decide +kernel
theorem kd_M_heldBy_29 : decode kc_M_heldBy 29 = .ok (.goto (-25), 3) := by decide +kernel
theorem kd_M_heldBy_32 : decode kc_M_heldBy 32 = .ok (.iload_n 2, 1) := by decide +kernel
theorem kd_M_heldBy_33 : decode kc_M_heldBy 33 = .ok (.ireturn, 1) := by decide +kernel
theorem kd_M_refused_0 : decode kc_M_refused 0 = .ok (.aload_n 0, 1) := by decide +kernel
theorem kd_M_refused_1 : decode kc_M_refused 1 = .ok (.aload_n 0, 1) := by decide +kernel
theorem kd_M_refused_2 : decode kc_M_refused 2 = .ok (.iload_n 1, 1) := by decide +kernel
theorem kd_M_refused_3 : decode kc_M_refused 3 = .ok (.invokevirtual 76, 3) := by decide +kernel
theorem kd_M_refused_6 : decode kc_M_refused 6 = .ok (.ifCond .eq 7, 3) := by decide +kernel
theorem kd_M_refused_9 : decode kc_M_refused 9 = .ok (.iconst 0, 1) := by decide +kernel
theorem kd_M_refused_10 : decode kc_M_refused 10 = .ok (.goto 4, 3) := by decide +kernel
theorem kd_M_refused_13 : decode kc_M_refused 13 = .ok (.iconst 1, 1) := by decide +kernel
theorem kd_M_refused_14 : decode kc_M_refused 14 = .ok (.putfield 62, 3) := by decide +kernel
theorem kd_M_refused_17 : decode kc_M_refused 17 = .ok (.aload_n 0, 1) := by decide +kernel
theorem kd_M_refused_18 : decode kc_M_refused 18 = .ok (.getfield 62, 3) := by decide +kernel
theorem kd_M_refused_21 : decode kc_M_refused 21 = .ok (.ifCond .le 7, 3) := by decide +kernel
theorem kd_M_refused_24 : decode kc_M_refused 24 = .ok (.iconst 0, 1) := by decide +kernel
theorem kd_M_refused_25 : decode kc_M_refused 25 = .ok (.goto 15, 3) := by decide +kernel
theorem kd_M_refused_28 : decode kc_M_refused 28 = .ok (.aload_n 0, 1) := by decide +kernel
theorem kd_M_refused_29 : decode kc_M_refused 29 = .ok (.getfield 25, 3) := by decide +kernel
theorem kd_M_refused_32 : decode kc_M_refused 32 = .ok (.iload_n 1, 1) := by decide +kernel
theorem kd_M_refused_33 : decode kc_M_refused 33 = .ok (.iaload, 1) := by decide +kernel
theorem kd_M_refused_34 : decode kc_M_refused 34 = .ok (.aload_n 0, 1) := by decide +kernel
theorem kd_M_refused_35 : decode kc_M_refused 35 = .ok (.iload_n 1, 1) := by decide +kernel
theorem kd_M_refused_36 : decode kc_M_refused 36 = .ok (.invokevirtual 146, 3) := by decide +kernel
theorem kd_M_refused_39 : decode kc_M_refused 39 = .ok (.isub, 1) := by decide +kernel
theorem kd_M_refused_40 : decode kc_M_refused 40 = .ok (.ireturn, 1) := by decide +kernel
theorem kd_M_average_0 : decode kc_M_average 0 = .ok (.aload_n 0, 1) := by decide +kernel
theorem kd_M_average_1 : decode kc_M_average 1 = .ok (.aload_n 0, 1) := by decide +kernel
theorem kd_M_average_2 : decode kc_M_average 2 = .ok (.iload_n 1, 1) := by decide +kernel
theorem kd_M_average_3 : decode kc_M_average 3 = .ok (.invokevirtual 76, 3) := by decide +kernel
theorem kd_M_average_6 : decode kc_M_average 6 = .ok (.ifCond .ne 7, 3) := by decide +kernel
theorem kd_M_average_9 : decode kc_M_average 9 = .ok (.iconst 1, 1) := by decide +kernel
theorem kd_M_average_10 : decode kc_M_average 10 = .ok (.goto 16, 3) := by decide +kernel
theorem kd_M_average_13 : decode kc_M_average 13 = .ok (.aload_n 0, 1) := by decide +kernel
theorem kd_M_average_14 : decode kc_M_average 14 = .ok (.iload_n 1, 1) := by decide +kernel
theorem kd_M_average_15 : decode kc_M_average 15 = .ok (.invokevirtual 146, 3) := by decide +kernel
theorem kd_M_average_18 : decode kc_M_average 18 = .ok (.ifCond .ne 7, 3) := by decide +kernel
theorem kd_M_average_21 : decode kc_M_average 21 = .ok (.iconst 2, 1) := by decide +kernel
theorem kd_M_average_22 : decode kc_M_average 22 = .ok (.goto 4, 3) := by decide +kernel
theorem kd_M_average_25 : decode kc_M_average 25 = .ok (.iconst 0, 1) := by decide +kernel
theorem kd_M_average_26 : decode kc_M_average 26 = .ok (.putfield 62, 3) := by decide +kernel
theorem kd_M_average_29 : decode kc_M_average 29 = .ok (.aload_n 0, 1) := by decide +kernel
theorem kd_M_average_30 : decode kc_M_average 30 = .ok (.getfield 62, 3) := by decide +kernel
theorem kd_M_average_33 : decode kc_M_average 33 = .ok (.ifCond .le 5, 3) := by decide +kernel
theorem kd_M_average_36 : decode kc_M_average 36 = .ok (.iconst 0, 1) := by decide +kernel
theorem kd_M_average_37 : decode kc_M_average 37 = .ok (.ireturn, 1) := by decide +kernel
theorem kd_M_average_38 : decode kc_M_average 38 = .ok (.iconst 0, 1) := by decide +kernel
theorem kd_M_average_39 : decode kc_M_average 39 = .ok (.istore_n 2, 1) := by decide +kernel
theorem kd_M_average_40 : decode kc_M_average 40 = .ok (.iconst 0, 1) := by decide +kernel
theorem kd_M_average_41 : decode kc_M_average 41 = .ok (.istore_n 3, 1) := by decide +kernel
theorem kd_M_average_42 : decode kc_M_average 42 = .ok (.iload_n 3, 1) := by decide +kernel
theorem kd_M_average_43 : decode kc_M_average 43 = .ok (.aload_n 0, 1) := by decide +kernel
theorem kd_M_average_44 : decode kc_M_average 44 = .ok (.getfield 66, 3) := by decide +kernel
theorem kd_M_average_47 : decode kc_M_average 47 = .ok (.if_icmp .ge 30, 3) := by decide +kernel
theorem kd_M_average_50 : decode kc_M_average 50 = .ok (.iload_n 2, 1) := by decide +kernel
theorem kd_M_average_51 : decode kc_M_average 51 = .ok (.aload_n 0, 1) := by decide +kernel
theorem kd_M_average_52 : decode kc_M_average 52 = .ok (.getfield 38, 3) := by decide +kernel
theorem kd_M_average_55 : decode kc_M_average 55 = .ok (.bipush 8, 2) := by decide +kernel
theorem kd_M_average_57 : decode kc_M_average 57 = .ok (.iload_n 1, 1) := by decide +kernel
theorem kd_M_average_58 : decode kc_M_average 58 = .ok (.imul, 1) := by decide +kernel
theorem kd_M_average_59 : decode kc_M_average 59 = .ok (.iload_n 3, 1) := by decide +kernel
theorem kd_M_average_60 : decode kc_M_average 60 = .ok (.iadd, 1) := by decide +kernel
theorem kd_M_average_61 : decode kc_M_average 61 = .ok (.iaload, 1) := by decide +kernel
theorem kd_M_average_62 : decode kc_M_average 62 = .ok (.aload_n 0, 1) := by decide +kernel
theorem kd_M_average_63 : decode kc_M_average 63 = .ok (.iload_n 3, 1) := by decide +kernel
theorem kd_M_average_64 : decode kc_M_average 64 = .ok (.iload_n 1, 1) := by decide +kernel
theorem kd_M_average_65 : decode kc_M_average 65 = .ok (.invokevirtual 100, 3) := by decide +kernel
theorem kd_M_average_68 : decode kc_M_average 68 = .ok (.imul, 1) := by decide +kernel
theorem kd_M_average_69 : decode kc_M_average 69 = .ok (.iadd, 1) := by decide +kernel
theorem kd_M_average_70 : decode kc_M_average 70 = .ok (.istore_n 2, 1) := by decide +kernel
theorem kd_M_average_71 : decode kc_M_average 71 = .ok (.iinc 3 1, 3) := by decide +kernel
theorem kd_M_average_74 : decode kc_M_average 74 = .ok (.goto (-32), 3) := by decide +kernel
theorem kd_M_average_77 : decode kc_M_average 77 = .ok (.iload_n 2, 1) := by decide +kernel
theorem kd_M_average_78 : decode kc_M_average 78 = .ok (.aload_n 0, 1) := by decide +kernel
theorem kd_M_average_79 : decode kc_M_average 79 = .ok (.iload_n 1, 1) := by decide +kernel
theorem kd_M_average_80 : decode kc_M_average 80 = .ok (.invokevirtual 146, 3) := by decide +kernel
theorem kd_M_average_83 : decode kc_M_average 83 = .ok (.idiv, 1) := by decide +kernel
theorem kd_M_average_84 : decode kc_M_average 84 = .ok (.ireturn, 1) := by decide +kernel
theorem kd_M_count_0 : decode kc_M_count 0 = .ok (.aload_n 0, 1) := by decide +kernel
theorem kd_M_count_1 : decode kc_M_count 1 = .ok (.iconst 0, 1) := by decide +kernel
theorem kd_M_count_2 : decode kc_M_count 2 = .ok (.putfield 62, 3) := by decide +kernel
theorem kd_M_count_5 : decode kc_M_count 5 = .ok (.iload_n 1, 1) := by decide +kernel
theorem kd_M_count_6 : decode kc_M_count 6 = .ok (.ifCond .ne 8, 3) := by decide +kernel
theorem kd_M_count_9 : decode kc_M_count 9 = .ok (.aload_n 0, 1) := by decide +kernel
theorem kd_M_count_10 : decode kc_M_count 10 = .ok (.getfield 66, 3) := by decide +kernel
theorem kd_M_count_13 : decode kc_M_count 13 = .ok (.ireturn, 1) := by decide +kernel
theorem kd_M_count_14 : decode kc_M_count 14 = .ok (.iload_n 1, 1) := by decide +kernel
theorem kd_M_count_15 : decode kc_M_count 15 = .ok (.iconst 1, 1) := by decide +kernel
theorem kd_M_count_16 : decode kc_M_count 16 = .ok (.if_icmp .ne 8, 3) := by decide +kernel
theorem kd_M_count_19 : decode kc_M_count 19 = .ok (.aload_n 0, 1) := by decide +kernel
theorem kd_M_count_20 : decode kc_M_count 20 = .ok (.getfield 73, 3) := by decide +kernel
theorem kd_M_count_23 : decode kc_M_count 23 = .ok (.ireturn, 1) := by decide +kernel
theorem kd_M_count_24 : decode kc_M_count 24 = .ok (.iconst 0, 1) := by decide +kernel
theorem kd_M_count_25 : decode kc_M_count 25 = .ok (.istore_n 2, 1) := by decide +kernel
theorem kd_M_count_26 : decode kc_M_count 26 = .ok (.iconst 0, 1) := by decide +kernel
theorem kd_M_count_27 : decode kc_M_count 27 = .ok (.istore_n 3, 1) := by decide +kernel
theorem kd_M_count_28 : decode kc_M_count 28 = .ok (.iconst 0, 1) := by decide +kernel
theorem kd_M_count_29 : decode kc_M_count 29 = .ok (.istore 4, 2) := by decide +kernel
theorem kd_M_count_31 : decode kc_M_count 31 = .ok (.iconst 0, 1) := by decide +kernel
theorem kd_M_count_32 : decode kc_M_count 32 = .ok (.istore 5, 2) := by decide +kernel
theorem kd_M_count_34 : decode kc_M_count 34 = .ok (.iload 5, 2) := by decide +kernel
theorem kd_M_count_36 : decode kc_M_count 36 = .ok (.aload_n 0, 1) := by decide +kernel
theorem kd_M_count_37 : decode kc_M_count 37 = .ok (.getfield 73, 3) := by decide +kernel
theorem kd_M_count_40 : decode kc_M_count 40 = .ok (.if_icmp .ge 99, 3) := by decide +kernel
theorem kd_M_count_43 : decode kc_M_count 43 = .ok (.iconst 0, 1) := by decide +kernel
theorem kd_M_count_44 : decode kc_M_count 44 = .ok (.istore 6, 2) := by decide +kernel
theorem kd_M_count_46 : decode kc_M_count 46 = .ok (.iload 6, 2) := by decide +kernel
theorem kd_M_count_48 : decode kc_M_count 48 = .ok (.aload_n 0, 1) := by decide +kernel
theorem kd_M_count_49 : decode kc_M_count 49 = .ok (.getfield 66, 3) := by decide +kernel
theorem kd_M_count_52 : decode kc_M_count 52 = .ok (.if_icmp .ge 58, 3) := by decide +kernel
theorem kd_M_count_55 : decode kc_M_count 55 = .ok (.aload_n 0, 1) := by decide +kernel
theorem kd_M_count_56 : decode kc_M_count 56 = .ok (.getfield 38, 3) := by decide +kernel
theorem kd_M_count_59 : decode kc_M_count 59 = .ok (.bipush 8, 2) := by decide +kernel
theorem kd_M_count_61 : decode kc_M_count 61 = .ok (.iload 5, 2) := by decide +kernel
theorem kd_M_count_63 : decode kc_M_count 63 = .ok (.imul, 1) := by decide +kernel
theorem kd_M_count_64 : decode kc_M_count 64 = .ok (.iload 6, 2) := by decide +kernel
theorem kd_M_count_66 : decode kc_M_count 66 = .ok (.iadd, 1) := by decide +kernel
theorem kd_M_count_67 : decode kc_M_count 67 = .ok (.iaload, 1) := by decide +kernel
theorem kd_M_count_68 : decode kc_M_count 68 = .ok (.istore 7, 2) := by decide +kernel
theorem kd_M_count_70 : decode kc_M_count 70 = .ok (.iload_n 2, 1) := by decide +kernel
theorem kd_M_count_71 : decode kc_M_count 71 = .ok (.iload 7, 2) := by decide +kernel
theorem kd_M_count_73 : decode kc_M_count 73 = .ok (.iadd, 1) := by decide +kernel
theorem kd_M_count_74 : decode kc_M_count 74 = .ok (.istore_n 2, 1) := by decide +kernel
theorem kd_M_count_75 : decode kc_M_count 75 = .ok (.iload_n 3, 1) := by decide +kernel
theorem kd_M_count_76 : decode kc_M_count 76 = .ok (.iload 7, 2) := by decide +kernel
theorem kd_M_count_78 : decode kc_M_count 78 = .ok (.ifCond .le 7, 3) := by decide +kernel
theorem kd_M_count_81 : decode kc_M_count 81 = .ok (.iconst 1, 1) := by decide +kernel
theorem kd_M_count_82 : decode kc_M_count 82 = .ok (.goto 4, 3) := by decide +kernel
theorem kd_M_count_85 : decode kc_M_count 85 = .ok (.iconst 0, 1) := by decide +kernel
theorem kd_M_count_86 : decode kc_M_count 86 = .ok (.iadd, 1) := by decide +kernel
theorem kd_M_count_87 : decode kc_M_count 87 = .ok (.istore_n 3, 1) := by decide +kernel
theorem kd_M_count_88 : decode kc_M_count 88 = .ok (.iload 4, 2) := by decide +kernel
theorem kd_M_count_90 : decode kc_M_count 90 = .ok (.iload 7, 2) := by decide +kernel
theorem kd_M_count_92 : decode kc_M_count 92 = .ok (.aload_n 0, 1) := by decide +kernel
theorem kd_M_count_93 : decode kc_M_count 93 = .ok (.iload 6, 2) := by decide +kernel
theorem kd_M_count_95 : decode kc_M_count 95 = .ok (.iload 5, 2) := by decide +kernel
theorem kd_M_count_97 : decode kc_M_count 97 = .ok (.invokevirtual 100, 3) := by decide +kernel
theorem kd_M_count_100 : decode kc_M_count 100 = .ok (.imul, 1) := by decide +kernel
theorem kd_M_count_101 : decode kc_M_count 101 = .ok (.iadd, 1) := by decide +kernel
theorem kd_M_count_102 : decode kc_M_count 102 = .ok (.istore 4, 2) := by decide +kernel
theorem kd_M_count_104 : decode kc_M_count 104 = .ok (.iinc 6 1, 3) := by decide +kernel
theorem kd_M_count_107 : decode kc_M_count 107 = .ok (.goto (-61), 3) := by decide +kernel
theorem kd_M_count_110 : decode kc_M_count 110 = .ok (.iload 4, 2) := by decide +kernel
theorem kd_M_count_112 : decode kc_M_count 112 = .ok (.sipush 1000, 3) := by decide +kernel
theorem kd_M_count_115 : decode kc_M_count 115 = .ok (.aload_n 0, 1) := by decide +kernel
theorem kd_M_count_116 : decode kc_M_count 116 = .ok (.getfield 25, 3) := by decide +kernel
theorem kd_M_count_119 : decode kc_M_count 119 = .ok (.iload 5, 2) := by decide +kernel
theorem kd_M_count_121 : decode kc_M_count 121 = .ok (.iaload, 1) := by decide +kernel
theorem kd_M_count_122 : decode kc_M_count 122 = .ok (.aload_n 0, 1) := by decide +kernel
theorem kd_M_count_123 : decode kc_M_count 123 = .ok (.iload 5, 2) := by decide +kernel
theorem kd_M_count_125 : decode kc_M_count 125 = .ok (.invokevirtual 146, 3) := by decide +kernel
theorem kd_M_count_128 : decode kc_M_count 128 = .ok (.isub, 1) := by decide +kernel
theorem kd_M_count_129 : decode kc_M_count 129 = .ok (.imul, 1) := by decide +kernel
theorem kd_M_count_130 : decode kc_M_count 130 = .ok (.iadd, 1) := by decide +kernel
theorem kd_M_count_131 : decode kc_M_count 131 = .ok (.istore 4, 2) := by decide +kernel
theorem kd_M_count_133 : decode kc_M_count 133 = .ok (.iinc 5 1, 3) := by decide +kernel
theorem kd_M_count_136 : decode kc_M_count 136 = .ok (.goto (-102), 3) := by decide +kernel
theorem kd_M_count_139 : decode kc_M_count 139 = .ok (.iload_n 1, 1) := by decide +kernel
theorem kd_M_count_140 : decode kc_M_count 140 = .ok (.iconst 2, 1) := by decide +kernel
theorem kd_M_count_141 : decode kc_M_count 141 = .ok (.if_icmp .ne 7, 3) := by decide +kernel
theorem kd_M_count_144 : decode kc_M_count 144 = .ok (.iload_n 2, 1) := by decide +kernel
theorem kd_M_count_145 : decode kc_M_count 145 = .ok (.goto 28, 3) := by decide +kernel
theorem kd_M_count_148 : decode kc_M_count 148 = .ok (.iload_n 1, 1) := by decide +kernel
theorem kd_M_count_149 : decode kc_M_count 149 = .ok (.iconst 3, 1) := by decide +kernel
theorem kd_M_count_150 : decode kc_M_count 150 = .ok (.if_icmp .ne 7, 3) := by decide +kernel
theorem kd_M_count_153 : decode kc_M_count 153 = .ok (.iload_n 3, 1) := by decide +kernel
theorem kd_M_count_154 : decode kc_M_count 154 = .ok (.goto 19, 3) := by decide +kernel
theorem kd_M_count_157 : decode kc_M_count 157 = .ok (.iload_n 1, 1) := by decide +kernel
theorem kd_M_count_158 : decode kc_M_count 158 = .ok (.iconst 4, 1) := by decide +kernel
theorem kd_M_count_159 : decode kc_M_count 159 = .ok (.if_icmp .ne 13, 3) := by decide +kernel
theorem kd_M_count_162 : decode kc_M_count 162 = .ok (.iload 4, 2) := by decide +kernel
theorem kd_M_count_164 : decode kc_M_count 164 = .ok (.bipush 20, 2) := by decide +kernel
theorem kd_M_count_166 : decode kc_M_count 166 = .ok (.iload_n 3, 1) := by decide +kernel
theorem kd_M_count_167 : decode kc_M_count 167 = .ok (.imul, 1) := by decide +kernel
theorem kd_M_count_168 : decode kc_M_count 168 = .ok (.iadd, 1) := by decide +kernel
theorem kd_M_count_169 : decode kc_M_count 169 = .ok (.goto 4, 3) := by decide +kernel
theorem kd_M_count_172 : decode kc_M_count 172 = .ok (.iconst (-1), 1) := by decide +kernel
theorem kd_M_count_173 : decode kc_M_count 173 = .ok (.ireturn, 1) := by decide +kernel
