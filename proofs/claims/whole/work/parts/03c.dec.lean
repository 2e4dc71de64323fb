theorem dX8_countWork_9 : decode cX8_countWork 9 = .ok (.iastore, 1) := by decide +kernel
theorem dX8_countWork_10 : decode cX8_countWork 10 = .ok (.aload_n 0, 1) := by decide +kernel
theorem dX8_countWork_11 : decode cX8_countWork 11 = .ok (.getfield 44, 3) := by decide +kernel
theorem dX8_countWork_14 : decode cX8_countWork 14 = .ok (.iconst 1, 1) := by decide +kernel
theorem dX8_countWork_15 : decode cX8_countWork 15 = .ok (.dup2, 1) := by decide +kernel
theorem dX8_countWork_16 : decode cX8_countWork 16 = .ok (.iaload, 1) := by decide +kernel
theorem dX8_countWork_17 : decode cX8_countWork 17 = .ok (.aload_n 0, 1) := by decide +kernel
theorem dX8_countWork_18 : decode cX8_countWork 18 = .ok (.getfield 118, 3) := by decide +kernel
theorem dX8_countWork_21 : decode cX8_countWork 21 = .ok (.iadd, 1) := by decide +kernel
theorem dX8_countWork_22 : decode cX8_countWork 22 = .ok (.iastore, 1) := by decide +kernel
theorem dX8_countWork_23 : decode cX8_countWork 23 = .ok (.aload_n 0, 1) := by decide +kernel
theorem dX8_countWork_24 : decode cX8_countWork 24 = .ok (.getfield 44, 3) := by decide +kernel
theorem dX8_countWork_27 : decode cX8_countWork 27 = .ok (.iconst 4, 1) := by decide +kernel
theorem dX8_countWork_28 : decode cX8_countWork 28 = .ok (.dup2, 1) := by decide +kernel
theorem dX8_countWork_29 : decode cX8_countWork 29 = .ok (.iaload, 1) := by decide +kernel
theorem dX8_countWork_30 : decode cX8_countWork 30 = .ok (.iload_n 1, 1) := by decide +kernel
theorem dX8_countWork_31 : decode cX8_countWork 31 = .ok (.iadd, 1) := by decide +kernel
theorem dX8_countWork_32 : decode cX8_countWork 32 = .ok (.iastore, 1) := by decide +kernel
theorem dX8_countWork_33 : decode cX8_countWork 33 = .ok (.iconst 0, 1) := by decide +kernel
theorem dX8_countWork_34 : decode cX8_countWork 34 = .ok (.istore_n 2, 1) := by decide +kernel
theorem dX8_countWork_35 : decode cX8_countWork 35 = .ok (.iload_n 2, 1) := by decide +kernel
theorem dX8_countWork_36 : decode cX8_countWork 36 = .ok (.aload_n 0, 1) := by decide +kernel
theorem dX8_countWork_37 : decode cX8_countWork 37 = .ok (.getfield 118, 3) := by decide +kernel
theorem dX8_countWork_40 : decode cX8_countWork 40 = .ok (.if_icmp .ge 61, 3) := by decide +kernel
theorem dX8_countWork_43 : decode cX8_countWork 43 = .ok (.aload_n 0, 1) := by decide +kernel
theorem dX8_countWork_44 : decode cX8_countWork 44 = .ok (.getfield 44, 3) := by decide +kernel
theorem dX8_countWork_47 : decode cX8_countWork 47 = .ok (.iconst 2, 1) := by decide +kernel
theorem dX8_countWork_48 : decode cX8_countWork 48 = .ok (.dup2, 1) := by decide +kernel
theorem dX8_countWork_49 : decode cX8_countWork 49 = .ok (.iaload, 1) := by decide +kernel
theorem dX8_countWork_50 : decode cX8_countWork 50 = .ok (.aload_n 0, 1) := by decide +kernel
theorem dX8_countWork_51 : decode cX8_countWork 51 = .ok (.getfield 35, 3) := by decide +kernel
theorem dX8_countWork_54 : decode cX8_countWork 54 = .ok (.iconst 2, 1) := by decide +kernel
theorem dX8_countWork_55 : decode cX8_countWork 55 = .ok (.iload_n 2, 1) := by decide +kernel
theorem dX8_countWork_56 : decode cX8_countWork 56 = .ok (.imul, 1) := by decide +kernel
theorem dX8_countWork_57 : decode cX8_countWork 57 = .ok (.iaload, 1) := by decide +kernel
theorem dX8_countWork_58 : decode cX8_countWork 58 = .ok (.iconst 1, 1) := by decide +kernel
theorem dX8_countWork_59 : decode cX8_countWork 59 = .ok (.if_icmp .ne 7, 3) := by decide +kernel
theorem dX8_countWork_62 : decode cX8_countWork 62 = .ok (.iconst 1, 1) := by decide +kernel
theorem dX8_countWork_63 : decode cX8_countWork 63 = .ok (.goto 4, 3) := by decide +kernel
theorem dX8_countWork_66 : decode cX8_countWork 66 = .ok (.iconst 0, 1) := by decide +kernel
theorem dX8_countWork_67 : decode cX8_countWork 67 = .ok (.iadd, 1) := by decide +kernel
theorem dX8_countWork_68 : decode cX8_countWork 68 = .ok (.iastore, 1) := by decide +kernel
theorem dX8_countWork_69 : decode cX8_countWork 69 = .ok (.aload_n 0, 1) := by decide +kernel
theorem dX8_countWork_70 : decode cX8_countWork 70 = .ok (.getfield 44, 3) := by decide +kernel
theorem dX8_countWork_73 : decode cX8_countWork 73 = .ok (.iconst 3, 1) := by decide +kernel
theorem dX8_countWork_74 : decode cX8_countWork 74 = .ok (.dup2, 1) := by decide +kernel
theorem dX8_countWork_75 : decode cX8_countWork 75 = .ok (.iaload, 1) := by decide +kernel
theorem dX8_countWork_76 : decode cX8_countWork 76 = .ok (.aload_n 0, 1) := by decide +kernel
theorem dX8_countWork_77 : decode cX8_countWork 77 = .ok (.getfield 35, 3) := by decide +kernel
theorem dX8_countWork_80 : decode cX8_countWork 80 = .ok (.iconst 2, 1) := by decide +kernel
theorem dX8_countWork_81 : decode cX8_countWork 81 = .ok (.iload_n 2, 1) := by decide +kernel
theorem dX8_countWork_82 : decode cX8_countWork 82 = .ok (.imul, 1) := by decide +kernel
theorem dX8_countWork_83 : decode cX8_countWork 83 = .ok (.iaload, 1) := by decide +kernel
theorem dX8_countWork_84 : decode cX8_countWork 84 = .ok (.iconst 4, 1) := by decide +kernel
theorem dX8_countWork_85 : decode cX8_countWork 85 = .ok (.if_icmp .ne 7, 3) := by decide +kernel
theorem dX8_countWork_88 : decode cX8_countWork 88 = .ok (.iconst 1, 1) := by decide +kernel
theorem dX8_countWork_89 : decode cX8_countWork 89 = .ok (.goto 4, 3) := by decide +kernel
theorem dX8_countWork_92 : decode cX8_countWork 92 = .ok (.iconst 0, 1) := by decide +kernel
theorem dX8_countWork_93 : decode cX8_countWork 93 = .ok (.iadd, 1) := by decide +kernel
theorem dX8_countWork_94 : decode cX8_countWork 94 = .ok (.iastore, 1) := by decide +kernel
theorem dX8_countWork_95 : decode cX8_countWork 95 = .ok (.iinc 2 1, 3) := by decide +kernel
theorem dX8_countWork_98 : decode cX8_countWork 98 = .ok (.goto (-63), 3) := by decide +kernel
theorem dX8_countWork_101 : decode cX8_countWork 101 = .ok (.return_, 1) := by decide +kernel
theorem dX8_keepBest_0 : decode cX8_keepBest 0 = .ok (.iconst 0, 1) := by decide +kernel
theorem dX8_keepBest_1 : decode cX8_keepBest 1 = .ok (.istore_n 1, 1) := by decide +kernel
theorem dX8_keepBest_2 : decode cX8_keepBest 2 = .ok (.iload_n 1, 1) := by decide +kernel
theorem dX8_keepBest_3 : decode cX8_keepBest 3 = .ok (.aload_n 0, 1) := by decide +kernel
theorem dX8_keepBest_4 : decode cX8_keepBest 4 = .ok (.getfield 50, 3) := by decide +kernel
theorem dX8_keepBest_7 : decode cX8_keepBest 7 = .ok (.if_icmp .ge 21, 3) := by decide +kernel
theorem dX8_keepBest_10 : decode cX8_keepBest 10 = .ok (.aload_n 0, 1) := by decide +kernel
theorem dX8_keepBest_11 : decode cX8_keepBest 11 = .ok (.getfield 20, 3) := by decide +kernel
theorem dX8_keepBest_14 : decode cX8_keepBest 14 = .ok (.iload_n 1, 1) := by decide +kernel
theorem dX8_keepBest_15 : decode cX8_keepBest 15 = .ok (.aload_n 0, 1) := by decide +kernel
theorem dX8_keepBest_16 : decode cX8_keepBest 16 = .ok (.getfield 16, 3) := by decide +kernel
theorem dX8_keepBest_19 : decode cX8_keepBest 19 = .ok (.iload_n 1, 1) := by decide +kernel
theorem dX8_keepBest_20 : decode cX8_keepBest 20 = .ok (.iaload, 1) := by decide +kernel
theorem dX8_keepBest_21 : decode cX8_keepBest 21 = .ok (.iastore, 1) := by decide +kernel
theorem dX8_keepBest_22 : decode cX8_keepBest 22 = .ok (.iinc 1 1, 3) := by decide +kernel
theorem dX8_keepBest_25 : decode cX8_keepBest 25 = .ok (.goto (-23), 3) := by decide +kernel
theorem dX8_keepBest_28 : decode cX8_keepBest 28 = .ok (.return_, 1) := by decide +kernel
theorem dX8_solve_0 : decode cX8_solve 0 = .ok (.aload_n 0, 1) := by decide +kernel
theorem dX8_solve_1 : decode cX8_solve 1 = .ok (.iconst 0, 1) := by decide +kernel
theorem dX8_solve_2 : decode cX8_solve 2 = .ok (.putfield 54, 3) := by decide +kernel
theorem dX8_solve_5 : decode cX8_solve 5 = .ok (.iconst 0, 1) := by decide +kernel
theorem dX8_solve_6 : decode cX8_solve 6 = .ok (.istore_n 1, 1) := by decide +kernel
theorem dX8_solve_7 : decode cX8_solve 7 = .ok (.iload_n 1, 1) := by decide +kernel
theorem dX8_solve_8 : decode cX8_solve 8 = .ok (.iconst 5, 1) := by decide +kernel
theorem dX8_solve_9 : decode cX8_solve 9 = .ok (.if_icmp .ge 16, 3) := by decide +kernel
theorem dX8_solve_12 : decode cX8_solve 12 = .ok (.aload_n 0, 1) := by decide +kernel
theorem dX8_solve_13 : decode cX8_solve 13 = .ok (.getfield 44, 3) := by decide +kernel
theorem dX8_solve_16 : decode cX8_solve 16 = .ok (.iload_n 1, 1) := by decide +kernel
theorem dX8_solve_17 : decode cX8_solve 17 = .ok (.iconst 0, 1) := by decide +kernel
theorem dX8_solve_18 : decode cX8_solve 18 = .ok (.iastore, 1) := by decide +kernel
theorem dX8_solve_19 : decode cX8_solve 19 = .ok (.iinc 1 1, 3) := by decide +kernel
theorem dX8_solve_22 : decode cX8_solve 22 = .ok (.goto (-15), 3) := by decide +kernel
theorem dX8_solve_25 : decode cX8_solve 25 = .ok (.aload_n 0, 1) := by decide +kernel
theorem dX8_solve_26 : decode cX8_solve 26 = .ok (.invokevirtual 140, 3) := by decide +kernel
theorem dX8_solve_29 : decode cX8_solve 29 = .ok (.istore_n 1, 1) := by decide +kernel
theorem dX8_solve_30 : decode cX8_solve 30 = .ok (.iload_n 1, 1) := by decide +kernel
theorem dX8_solve_31 : decode cX8_solve 31 = .ok (.invokestatic 106, 3) := by decide +kernel
theorem dX8_solve_34 : decode cX8_solve 34 = .ok (.istore_n 2, 1) := by decide +kernel
theorem dX8_solve_35 : decode cX8_solve 35 = .ok (.aload_n 0, 1) := by decide +kernel
theorem dX8_solve_36 : decode cX8_solve 36 = .ok (.invokevirtual 143, 3) := by decide +kernel
theorem dX8_solve_39 : decode cX8_solve 39 = .ok (.istore_n 3, 1) := by decide +kernel
theorem dX8_solve_40 : decode cX8_solve 40 = .ok (.aload_n 0, 1) := by decide +kernel
theorem dX8_solve_41 : decode cX8_solve 41 = .ok (.invokevirtual 146, 3) := by decide +kernel
theorem dX8_solve_44 : decode cX8_solve 44 = .ok (.iconst 0, 1) := by decide +kernel
theorem dX8_solve_45 : decode cX8_solve 45 = .ok (.istore 4, 2) := by decide +kernel
theorem dX8_solve_47 : decode cX8_solve 47 = .ok (.iload_n 3, 1) := by decide +kernel
theorem dX8_solve_48 : decode cX8_solve 48 = .ok (.iload_n 2, 1) := by decide +kernel
theorem dX8_solve_49 : decode cX8_solve 49 = .ok (.if_icmp .le 63, 3) := by decide +kernel
theorem dX8_solve_52 : decode cX8_solve 52 = .ok (.iload 4, 2) := by decide +kernel
theorem dX8_solve_54 : decode cX8_solve 54 = .ok (.ifCond .ne 58, 3) := by decide +kernel
theorem dX8_solve_57 : decode cX8_solve 57 = .ok (.aload_n 0, 1) := by decide +kernel
theorem dX8_solve_58 : decode cX8_solve 58 = .ok (.iload_n 3, 1) := by decide +kernel
theorem dX8_solve_59 : decode cX8_solve 59 = .ok (.iconst 1, 1) := by decide +kernel
theorem dX8_solve_60 : decode cX8_solve 60 = .ok (.isub, 1) := by decide +kernel
theorem dX8_solve_61 : decode cX8_solve 61 = .ok (.invokevirtual 149, 3) := by decide +kernel
theorem dX8_solve_64 : decode cX8_solve 64 = .ok (.istore 5, 2) := by decide +kernel
theorem dX8_solve_66 : decode cX8_solve 66 = .ok (.iload 5, 2) := by decide +kernel
theorem dX8_solve_68 : decode cX8_solve 68 = .ok (.bipush (-3), 2) := by decide +kernel
theorem dX8_solve_70 : decode cX8_solve 70 = .ok (.if_icmp .ne 6, 3) := by decide +kernel
theorem dX8_solve_73 : decode cX8_solve 73 = .ok (.bipush (-3), 2) := by decide +kernel
theorem dX8_solve_75 : decode cX8_solve 75 = .ok (.ireturn, 1) := by decide +kernel
theorem dX8_solve_76 : decode cX8_solve 76 = .ok (.aload_n 0, 1) := by decide +kernel
theorem dX8_solve_77 : decode cX8_solve 77 = .ok (.iload 5, 2) := by decide +kernel
theorem dX8_solve_79 : decode cX8_solve 79 = .ok (.invokevirtual 152, 3) := by decide +kernel
theorem dX8_solve_82 : decode cX8_solve 82 = .ok (.iload 5, 2) := by decide +kernel
theorem dX8_solve_84 : decode cX8_solve 84 = .ok (.iconst 1, 1) := by decide +kernel
theorem dX8_solve_85 : decode cX8_solve 85 = .ok (.if_icmp .ne 12, 3) := by decide +kernel
theorem dX8_solve_88 : decode cX8_solve 88 = .ok (.aload_n 0, 1) := by decide +kernel
theorem dX8_solve_89 : decode cX8_solve 89 = .ok (.invokevirtual 146, 3) := by decide +kernel
theorem dX8_solve_92 : decode cX8_solve 92 = .ok (.aload_n 0, 1) := by decide +kernel
theorem dX8_solve_93 : decode cX8_solve 93 = .ok (.invokevirtual 115, 3) := by decide +kernel
theorem dX8_solve_96 : decode cX8_solve 96 = .ok (.istore_n 3, 1) := by decide +kernel
theorem dX8_solve_97 : decode cX8_solve 97 = .ok (.iload 5, 2) := by decide +kernel
theorem dX8_solve_99 : decode cX8_solve 99 = .ok (.ifCond .ne 7, 3) := by decide +kernel
theorem dX8_solve_102 : decode cX8_solve 102 = .ok (.iconst 1, 1) := by decide +kernel
theorem dX8_solve_103 : decode cX8_solve 103 = .ok (.goto 4, 3) := by decide +kernel
theorem dX8_solve_106 : decode cX8_solve 106 = .ok (.iconst 0, 1) := by decide +kernel
theorem dX8_solve_107 : decode cX8_solve 107 = .ok (.istore 4, 2) := by decide +kernel
theorem dX8_solve_109 : decode cX8_solve 109 = .ok (.goto (-62), 3) := by decide +kernel
theorem dX8_solve_112 : decode cX8_solve 112 = .ok (.iload 4, 2) := by decide +kernel
theorem dX8_solve_114 : decode cX8_solve 114 = .ok (.ifCond .ne 28, 3) := by decide +kernel
theorem dX8_solve_117 : decode cX8_solve 117 = .ok (.aload_n 0, 1) := by decide +kernel
theorem dX8_solve_118 : decode cX8_solve 118 = .ok (.iconst 0, 1) := by decide +kernel
theorem dX8_solve_119 : decode cX8_solve 119 = .ok (.putfield 118, 3) := by decide +kernel
theorem dX8_solve_122 : decode cX8_solve 122 = .ok (.iload_n 3, 1) := by decide +kernel
theorem dX8_solve_123 : decode cX8_solve 123 = .ok (.ifCond .eq 12, 3) := by decide +kernel
theorem dX8_solve_126 : decode cX8_solve 126 = .ok (.aload_n 0, 1) := by decide +kernel
theorem dX8_solve_127 : decode cX8_solve 127 = .ok (.iconst 4, 1) := by decide +kernel
theorem dX8_solve_128 : decode cX8_solve 128 = .ok (.iload_n 1, 1) := by decide +kernel
theorem dX8_solve_129 : decode cX8_solve 129 = .ok (.invokevirtual 127, 3) := by decide +kernel
theorem dX8_solve_132 : decode cX8_solve 132 = .ok (.ifCond .eq 7, 3) := by decide +kernel
theorem dX8_solve_135 : decode cX8_solve 135 = .ok (.iconst 1, 1) := by decide +kernel
theorem dX8_solve_136 : decode cX8_solve 136 = .ok (.goto 4, 3) := by decide +kernel
theorem dX8_solve_139 : decode cX8_solve 139 = .ok (.iconst 0, 1) := by decide +kernel
theorem dX8_solve_140 : decode cX8_solve 140 = .ok (.istore 5, 2) := by decide +kernel
theorem dX8_solve_142 : decode cX8_solve 142 = .ok (.iconst 0, 1) := by decide +kernel
theorem dX8_solve_143 : decode cX8_solve 143 = .ok (.istore 5, 2) := by decide +kernel
theorem dX8_solve_145 : decode cX8_solve 145 = .ok (.iload 5, 2) := by decide +kernel
theorem dX8_solve_147 : decode cX8_solve 147 = .ok (.iconst 2, 1) := by decide +kernel
theorem dX8_solve_148 : decode cX8_solve 148 = .ok (.aload_n 0, 1) := by decide +kernel
theorem dX8_solve_149 : decode cX8_solve 149 = .ok (.getfield 118, 3) := by decide +kernel
theorem dX8_solve_152 : decode cX8_solve 152 = .ok (.imul, 1) := by decide +kernel
theorem dX8_solve_153 : decode cX8_solve 153 = .ok (.if_icmp .ge 23, 3) := by decide +kernel
theorem dX8_solve_156 : decode cX8_solve 156 = .ok (.aload_n 0, 1) := by decide +kernel
theorem dX8_solve_157 : decode cX8_solve 157 = .ok (.getfield 38, 3) := by decide +kernel
theorem dX8_solve_160 : decode cX8_solve 160 = .ok (.iload 5, 2) := by decide +kernel
theorem dX8_solve_162 : decode cX8_solve 162 = .ok (.aload_n 0, 1) := by decide +kernel
theorem dX8_solve_163 : decode cX8_solve 163 = .ok (.getfield 35, 3) := by decide +kernel
theorem dX8_solve_166 : decode cX8_solve 166 = .ok (.iload 5, 2) := by decide +kernel
theorem dX8_solve_168 : decode cX8_solve 168 = .ok (.iaload, 1) := by decide +kernel
theorem dX8_solve_169 : decode cX8_solve 169 = .ok (.iastore, 1) := by decide +kernel
theorem dX8_solve_170 : decode cX8_solve 170 = .ok (.iinc 5 1, 3) := by decide +kernel
theorem dX8_solve_173 : decode cX8_solve 173 = .ok (.goto (-28), 3) := by decide +kernel
theorem dX8_solve_176 : decode cX8_solve 176 = .ok (.aload_n 0, 1) := by decide +kernel
theorem dX8_solve_177 : decode cX8_solve 177 = .ok (.aload_n 0, 1) := by decide +kernel
theorem dX8_solve_178 : decode cX8_solve 178 = .ok (.getfield 118, 3) := by decide +kernel
theorem dX8_solve_181 : decode cX8_solve 181 = .ok (.putfield 155, 3) := by decide +kernel
theorem dX8_solve_184 : decode cX8_solve 184 = .ok (.aload_n 0, 1) := by decide +kernel
theorem dX8_solve_185 : decode cX8_solve 185 = .ok (.iconst 1, 1) := by decide +kernel
theorem dX8_solve_186 : decode cX8_solve 186 = .ok (.putfield 54, 3) := by decide +kernel
theorem dX8_solve_189 : decode cX8_solve 189 = .ok (.iload_n 3, 1) := by decide +kernel
theorem dX8_solve_190 : decode cX8_solve 190 = .ok (.ireturn, 1) := by decide +kernel
theorem dX8_colour_0 : decode cX8_colour 0 = .ok (.aload_n 0, 1) := by decide +kernel
theorem dX8_colour_1 : decode cX8_colour 1 = .ok (.iload_n 1, 1) := by decide +kernel
theorem dX8_colour_2 : decode cX8_colour 2 = .ok (.invokevirtual 58, 3) := by decide +kernel
theorem dX8_colour_5 : decode cX8_colour 5 = .ok (.ifCond .ne 5, 3) := by decide +kernel
theorem dX8_colour_8 : decode cX8_colour 8 = .ok (.iconst (-1), 1) := by decide +kernel
theorem dX8_colour_9 : decode cX8_colour 9 = .ok (.ireturn, 1) := by decide +kernel
theorem dX8_colour_10 : decode cX8_colour 10 = .ok (.aload_n 0, 1) := by decide +kernel
theorem dX8_colour_11 : decode cX8_colour 11 = .ok (.getfield 54, 3) := by decide +kernel
theorem dX8_colour_14 : decode cX8_colour 14 = .ok (.ifCond .eq 12, 3) := by decide +kernel
theorem dX8_colour_17 : decode cX8_colour 17 = .ok (.aload_n 0, 1) := by decide +kernel
theorem dX8_colour_18 : decode cX8_colour 18 = .ok (.getfield 20, 3) := by decide +kernel
theorem dX8_colour_21 : decode cX8_colour 21 = .ok (.iload_n 1, 1) := by decide +kernel
theorem dX8_colour_22 : decode cX8_colour 22 = .ok (.iaload, 1) := by decide +kernel
theorem dX8_colour_23 : decode cX8_colour 23 = .ok (.goto 5, 3) := by decide +kernel
theorem dX8_colour_26 : decode cX8_colour 26 = .ok (.bipush (-2), 2) := by decide +kernel
theorem dX8_colour_28 : decode cX8_colour 28 = .ok (.ireturn, 1) := by decide +kernel
theorem dX8_lines_0 : decode cX8_lines 0 = .ok (.aload_n 0, 1) := by decide +kernel
theorem dX8_lines_1 : decode cX8_lines 1 = .ok (.getfield 54, 3) := by decide +kernel
theorem dX8_lines_4 : decode cX8_lines 4 = .ok (.ifCond .eq 10, 3) := by decide +kernel
theorem dX8_lines_7 : decode cX8_lines 7 = .ok (.aload_n 0, 1) := by decide +kernel
theorem dX8_lines_8 : decode cX8_lines 8 = .ok (.getfield 155, 3) := by decide +kernel
theorem dX8_lines_11 : decode cX8_lines 11 = .ok (.goto 5, 3) := by decide +kernel
theorem dX8_lines_14 : decode cX8_lines 14 = .ok (.bipush (-2), 2) := by decide +kernel
theorem dX8_lines_16 : decode cX8_lines 16 = .ok (.ireturn, 1) := by decide +kernel
theorem dX8_line_0 : decode cX8_line 0 = .ok (.aload_n 0, 1) := by decide +kernel
theorem dX8_line_1 : decode cX8_line 1 = .ok (.getfield 54, 3) := by decide +kernel
theorem dX8_line_4 : decode cX8_line 4 = .ok (.ifCond .ne 6, 3) := by decide +kernel
theorem dX8_line_7 : decode cX8_line 7 = .ok (.bipush (-2), 2) := by decide +kernel
theorem dX8_line_9 : decode cX8_line 9 = .ok (.ireturn, 1) := by decide +kernel
theorem dX8_line_10 : decode cX8_line 10 = .ok (.iload_n 1, 1) := by decide +kernel
theorem dX8_line_11 : decode cX8_line 11 = .ok (.ifCond .lt 20, 3) := by decide +kernel
theorem dX8_line_14 : decode cX8_line 14 = .ok (.iload_n 1, 1) := by decide +kernel
theorem dX8_line_15 : decode cX8_line 15 = .ok (.aload_n 0, 1) := by decide +kernel
theorem dX8_line_16 : decode cX8_line 16 = .ok (.getfield 155, 3) := by decide +kernel
theorem dX8_line_19 : decode cX8_line 19 = .ok (.if_icmp .ge 12, 3) := by decide +kernel
theorem dX8_line_22 : decode cX8_line 22 = .ok (.iload_n 2, 1) := by decide +kernel
theorem dX8_line_23 : decode cX8_line 23 = .ok (.ifCond .lt 8, 3) := by decide +kernel
theorem dX8_line_26 : decode cX8_line 26 = .ok (.iload_n 2, 1) := by decide +kernel
theorem dX8_line_27 : decode cX8_line 27 = .ok (.iconst 1, 1) := by decide +kernel
theorem dX8_line_28 : decode cX8_line 28 = .ok (.if_icmp .le 5, 3) := by decide +kernel
theorem dX8_line_31 : decode cX8_line 31 = .ok (.iconst (-1), 1) := by decide +kernel
theorem dX8_line_32 : decode cX8_line 32 = .ok (.ireturn, 1) := by decide +kernel
theorem dX8_line_33 : decode cX8_line 33 = .ok (.aload_n 0, 1) := by decide +kernel
theorem dX8_line_34 : decode cX8_line 34 = .ok (.getfield 38, 3) := by decide +kernel
theorem dX8_line_37 : decode cX8_line 37 = .ok (.iconst 2, 1) := by decide +kernel
theorem dX8_line_38 : decode cX8_line 38 = .ok (.iload_n 1, 1) := by decide +kernel
theorem dX8_line_39 : decode cX8_line 39 = .ok (.imul, 1) := by decide +kernel
theorem dX8_line_40 : decode cX8_line 40 = .ok (.iload_n 2, 1) := by decide +kernel
theorem dX8_line_41 : decode cX8_line 41 = .ok (.iadd, 1) := by decide +kernel
theorem dX8_line_42 : decode cX8_line 42 = .ok (.iaload, 1) := by decide +kernel
theorem dX8_line_43 : decode cX8_line 43 = .ok (.ireturn, 1) := by decide +kernel
theorem dX8_work_0 : decode cX8_work 0 = .ok (.aload_n 0, 1) := by decide +kernel
theorem dX8_work_1 : decode cX8_work 1 = .ok (.getfield 54, 3) := by decide +kernel
theorem dX8_work_4 : decode cX8_work 4 = .ok (.ifCond .ne 6, 3) := by decide +kernel
theorem dX8_work_7 : decode cX8_work 7 = .ok (.bipush (-2), 2) := by decide +kernel
theorem dX8_work_9 : decode cX8_work 9 = .ok (.ireturn, 1) := by decide +kernel
theorem dX8_work_10 : decode cX8_work 10 = .ok (.iload_n 1, 1) := by decide +kernel
theorem dX8_work_11 : decode cX8_work 11 = .ok (.ifCond .lt 8, 3) := by decide +kernel
theorem dX8_work_14 : decode cX8_work 14 = .ok (.iload_n 1, 1) := by decide +kernel
theorem dX8_work_15 : decode cX8_work 15 = .ok (.iconst 4, 1) := by decide +kernel
theorem dX8_work_16 : decode cX8_work 16 = .ok (.if_icmp .le 7, 3) := by decide +kernel
theorem dX8_work_19 : decode cX8_work 19 = .ok (.iconst (-1), 1) := by decide +kernel
theorem dX8_work_20 : decode cX8_work 20 = .ok (.goto 9, 3) := by decide +kernel
theorem dX8_work_23 : decode cX8_work 23 = .ok (.aload_n 0, 1) := by decide +kernel
theorem dX8_work_24 : decode cX8_work 24 = .ok (.getfield 44, 3) := by decide +kernel
theorem dX8_work_27 : decode cX8_work 27 = .ok (.iload_n 1, 1) := by decide +kernel
theorem dX8_work_28 : decode cX8_work 28 = .ok (.iaload, 1) := by decide +kernel
theorem dX8_work_29 : decode cX8_work 29 = .ok (.ireturn, 1) := by decide +kernel
theorem dX8_tellWritten_0 : decode cX8_tellWritten 0 = .ok (.iconst 0, 1) := by decide +kernel
theorem dX8_tellWritten_1 : decode cX8_tellWritten 1 = .ok (.istore_n 1, 1) := by decide +kernel
theorem dX8_tellWritten_2 : decode cX8_tellWritten 2 = .ok (.iload_n 1, 1) := by decide +kernel
theorem dX8_tellWritten_3 : decode cX8_tellWritten 3 = .ok (.iconst 2, 1) := by decide +kernel
theorem dX8_tellWritten_4 : decode cX8_tellWritten 4 = .ok (.aload_n 0, 1) := by decide +kernel
theorem dX8_tellWritten_5 : decode cX8_tellWritten 5 = .ok (.getfield 118, 3) := by decide +kernel
theorem dX8_tellWritten_8 : decode cX8_tellWritten 8 = .ok (.imul, 1) := by decide +kernel
theorem dX8_tellWritten_9 : decode cX8_tellWritten 9 = .ok (.if_icmp .ge 21, 3) := by decide +kernel
theorem dX8_tellWritten_12 : decode cX8_tellWritten 12 = .ok (.aload_n 0, 1) := by decide +kernel
theorem dX8_tellWritten_13 : decode cX8_tellWritten 13 = .ok (.getfield 41, 3) := by decide +kernel
theorem dX8_tellWritten_16 : decode cX8_tellWritten 16 = .ok (.iload_n 1, 1) := by decide +kernel
theorem dX8_tellWritten_17 : decode cX8_tellWritten 17 = .ok (.aload_n 0, 1) := by decide +kernel
theorem dX8_tellWritten_18 : decode cX8_tellWritten 18 = .ok (.getfield 35, 3) := by decide +kernel
theorem dX8_tellWritten_21 : decode cX8_tellWritten 21 = .ok (.iload_n 1, 1) := by decide +kernel
theorem dX8_tellWritten_22 : decode cX8_tellWritten 22 = .ok (.iaload, 1) := by decide +kernel
theorem dX8_tellWritten_23 : decode cX8_tellWritten 23 = .ok (.iastore, 1) := by decide +kernel
theorem dX8_tellWritten_24 : decode cX8_tellWritten 24 = .ok (.iinc 1 1, 3) := by decide +kernel
theorem dX8_tellWritten_27 : decode cX8_tellWritten 27 = .ok (.goto (-25), 3) := by decide +kernel
theorem dX8_tellWritten_30 : decode cX8_tellWritten 30 = .ok (.aload_n 0, 1) := by decide +kernel
theorem dX8_tellWritten_31 : decode cX8_tellWritten 31 = .ok (.aload_n 0, 1) := by decide +kernel
theorem dX8_tellWritten_32 : decode cX8_tellWritten 32 = .ok (.getfield 118, 3) := by decide +kernel
theorem dX8_tellWritten_35 : decode cX8_tellWritten 35 = .ok (.putfield 158, 3) := by decide +kernel
theorem dX8_tellWritten_38 : decode cX8_tellWritten 38 = .ok (.return_, 1) := by decide +kernel
theorem dX8_search_0 : decode cX8_search 0 = .ok (.iload_n 1, 1) := by decide +kernel
theorem dX8_search_1 : decode cX8_search 1 = .ok (.ifCond .lt 9, 3) := by decide +kernel
theorem dX8_search_4 : decode cX8_search 4 = .ok (.iload_n 1, 1) := by decide +kernel
theorem dX8_search_5 : decode cX8_search 5 = .ok (.bipush 30, 2) := by decide +kernel
theorem dX8_search_7 : decode cX8_search 7 = .ok (.if_icmp .le 5, 3) := by decide +kernel
theorem dX8_search_10 : decode cX8_search 10 = .ok (.iconst (-1), 1) := by decide +kernel
theorem dX8_search_11 : decode cX8_search 11 = .ok (.ireturn, 1) := by decide +kernel
theorem dX8_search_12 : decode cX8_search 12 = .ok (.aload_n 0, 1) := by decide +kernel
theorem dX8_search_13 : decode cX8_search 13 = .ok (.iload_n 1, 1) := by decide +kernel
theorem dX8_search_14 : decode cX8_search 14 = .ok (.invokevirtual 149, 3) := by decide +kernel
theorem dX8_search_17 : decode cX8_search 17 = .ok (.istore_n 2, 1) := by decide +kernel
theorem dX8_search_18 : decode cX8_search 18 = .ok (.iload_n 2, 1) := by decide +kernel
theorem dX8_search_19 : decode cX8_search 19 = .ok (.bipush (-3), 2) := by decide +kernel
theorem dX8_search_21 : decode cX8_search 21 = .ok (.if_icmp .ne 6, 3) := by decide +kernel
theorem dX8_search_24 : decode cX8_search 24 = .ok (.bipush (-3), 2) := by decide +kernel
theorem dX8_search_26 : decode cX8_search 26 = .ok (.ireturn, 1) := by decide +kernel
theorem dX8_search_27 : decode cX8_search 27 = .ok (.aload_n 0, 1) := by decide +kernel
theorem dX8_search_28 : decode cX8_search 28 = .ok (.invokevirtual 161, 3) := by decide +kernel
theorem dX8_search_31 : decode cX8_search 31 = .ok (.iload_n 2, 1) := by decide +kernel
theorem dX8_search_32 : decode cX8_search 32 = .ok (.ireturn, 1) := by decide +kernel
theorem dX8_tell_0 : decode cX8_tell 0 = .ok (.iload_n 1, 1) := by decide +kernel
theorem dX8_tell_1 : decode cX8_tell 1 = .ok (.iconst 1, 1) := by decide +kernel
theorem dX8_tell_2 : decode cX8_tell 2 = .ok (.if_icmp .lt 8, 3) := by decide +kernel
theorem dX8_tell_5 : decode cX8_tell 5 = .ok (.iload_n 1, 1) := by decide +kernel
theorem dX8_tell_6 : decode cX8_tell 6 = .ok (.iconst 4, 1) := by decide +kernel
theorem dX8_tell_7 : decode cX8_tell 7 = .ok (.if_icmp .le 5, 3) := by decide +kernel
theorem dX8_tell_10 : decode cX8_tell 10 = .ok (.iconst (-1), 1) := by decide +kernel
theorem dX8_tell_11 : decode cX8_tell 11 = .ok (.ireturn, 1) := by decide +kernel
theorem dX8_tell_12 : decode cX8_tell 12 = .ok (.aload_n 0, 1) := by decide +kernel
theorem dX8_tell_13 : decode cX8_tell 13 = .ok (.getfield 158, 3) := by decide +kernel
theorem dX8_tell_16 : decode cX8_tell 16 = .ok (.sipush 3000, 3) := by decide +kernel
theorem dX8_tell_19 : decode cX8_tell 19 = .ok (.if_icmp .ne 6, 3) := by decide +kernel
theorem dX8_tell_22 : decode cX8_tell 22 = .ok (.bipush (-3), 2) := by decide +kernel
theorem dX8_tell_24 : decode cX8_tell 24 = .ok (.ireturn, 1) := by decide +kernel
theorem dX8_tell_25 : decode cX8_tell 25 = .ok (.aload_n 0, 1) := by decide +kernel
theorem dX8_tell_26 : decode cX8_tell 26 = .ok (.getfield 41, 3) := by decide +kernel
theorem dX8_tell_29 : decode cX8_tell 29 = .ok (.iconst 2, 1) := by decide +kernel
theorem dX8_tell_30 : decode cX8_tell 30 = .ok (.aload_n 0, 1) := by decide +kernel
theorem dX8_tell_31 : decode cX8_tell 31 = .ok (.getfield 158, 3) := by decide +kernel
theorem dX8_tell_34 : decode cX8_tell 34 = .ok (.imul, 1) := by decide +kernel
theorem dX8_tell_35 : decode cX8_tell 35 = .ok (.iload_n 1, 1) := by decide +kernel
theorem dX8_tell_36 : decode cX8_tell 36 = .ok (.iastore, 1) := by decide +kernel
theorem dX8_tell_37 : decode cX8_tell 37 = .ok (.aload_n 0, 1) := by decide +kernel
theorem dX8_tell_38 : decode cX8_tell 38 = .ok (.getfield 41, 3) := by decide +kernel
theorem dX8_tell_41 : decode cX8_tell 41 = .ok (.iconst 2, 1) := by decide +kernel
theorem dX8_tell_42 : decode cX8_tell 42 = .ok (.aload_n 0, 1) := by decide +kernel
theorem dX8_tell_43 : decode cX8_tell 43 = .ok (.getfield 158, 3) := by decide +kernel
theorem dX8_tell_46 : decode cX8_tell 46 = .ok (.imul, 1) := by decide +kernel
theorem dX8_tell_47 : decode cX8_tell 47 = .ok (.iconst 1, 1) := by decide +kernel
theorem dX8_tell_48 : decode cX8_tell 48 = .ok (.iadd, 1) := by decide +kernel
theorem dX8_tell_49 : decode cX8_tell 49 = .ok (.iload_n 2, 1) := by decide +kernel
theorem dX8_tell_50 : decode cX8_tell 50 = .ok (.iastore, 1) := by decide +kernel
theorem dX8_tell_51 : decode cX8_tell 51 = .ok (.aload_n 0, 1) := by decide +kernel
theorem dX8_tell_52 : decode cX8_tell 52 = .ok (.dup, 1) := by decide +kernel
theorem dX8_tell_53 : decode cX8_tell 53 = .ok (.getfield 158, 3) := by decide +kernel
theorem dX8_tell_56 : decode cX8_tell 56 = .ok (.iconst 1, 1) := by decide +kernel
theorem dX8_tell_57 : decode cX8_tell 57 = .ok (.iadd, 1) := by decide +kernel
theorem dX8_tell_58 : decode cX8_tell 58 = .ok (.putfield 158, 3) := by decide +kernel
theorem dX8_tell_61 : decode cX8_tell 61 = .ok (.aload_n 0, 1) := by decide +kernel
theorem dX8_tell_62 : decode cX8_tell 62 = .ok (.getfield 158, 3) := by decide +kernel
theorem dX8_tell_65 : decode cX8_tell 65 = .ok (.ireturn, 1) := by decide +kernel
theorem dX8_take_0 : decode cX8_take 0 = .ok (.aload_n 0, 1) := by decide +kernel
theorem dX8_take_1 : decode cX8_take 1 = .ok (.getfield 54, 3) := by decide +kernel
theorem dX8_take_4 : decode cX8_take 4 = .ok (.ifCond .ne 6, 3) := by decide +kernel
theorem dX8_take_7 : decode cX8_take 7 = .ok (.bipush (-2), 2) := by decide +kernel
theorem dX8_take_9 : decode cX8_take 9 = .ok (.ireturn, 1) := by decide +kernel
theorem dX8_take_10 : decode cX8_take 10 = .ok (.iconst 0, 1) := by decide +kernel
theorem dX8_take_11 : decode cX8_take 11 = .ok (.istore_n 1, 1) := by decide +kernel
theorem dX8_take_12 : decode cX8_take 12 = .ok (.iload_n 1, 1) := by decide +kernel
theorem dX8_take_13 : decode cX8_take 13 = .ok (.iconst 2, 1) := by decide +kernel
theorem dX8_take_14 : decode cX8_take 14 = .ok (.aload_n 0, 1) := by decide +kernel
theorem dX8_take_15 : decode cX8_take 15 = .ok (.getfield 155, 3) := by decide +kernel
theorem dX8_take_18 : decode cX8_take 18 = .ok (.imul, 1) := by decide +kernel
theorem dX8_take_19 : decode cX8_take 19 = .ok (.if_icmp .ge 21, 3) := by decide +kernel
theorem dX8_take_22 : decode cX8_take 22 = .ok (.aload_n 0, 1) := by decide +kernel
theorem dX8_take_23 : decode cX8_take 23 = .ok (.getfield 41, 3) := by decide +kernel
theorem dX8_take_26 : decode cX8_take 26 = .ok (.iload_n 1, 1) := by decide +kernel
theorem dX8_take_27 : decode cX8_take 27 = .ok (.aload_n 0, 1) := by decide +kernel
theorem dX8_take_28 : decode cX8_take 28 = .ok (.getfield 38, 3) := by decide +kernel
theorem dX8_take_31 : decode cX8_take 31 = .ok (.iload_n 1, 1) := by decide +kernel
theorem dX8_take_32 : decode cX8_take 32 = .ok (.iaload, 1) := by decide +kernel
theorem dX8_take_33 : decode cX8_take 33 = .ok (.iastore, 1) := by decide +kernel
theorem dX8_take_34 : decode cX8_take 34 = .ok (.iinc 1 1, 3) := by decide +kernel
theorem dX8_take_37 : decode cX8_take 37 = .ok (.goto (-25), 3) := by decide +kernel
theorem dX8_take_40 : decode cX8_take 40 = .ok (.aload_n 0, 1) := by decide +kernel
theorem dX8_take_41 : decode cX8_take 41 = .ok (.aload_n 0, 1) := by decide +kernel
theorem dX8_take_42 : decode cX8_take 42 = .ok (.getfield 155, 3) := by decide +kernel
theorem dX8_take_45 : decode cX8_take 45 = .ok (.putfield 158, 3) := by decide +kernel
theorem dX8_take_48 : decode cX8_take 48 = .ok (.aload_n 0, 1) := by decide +kernel
theorem dX8_take_49 : decode cX8_take 49 = .ok (.getfield 158, 3) := by decide +kernel
theorem dX8_take_52 : decode cX8_take 52 = .ok (.ireturn, 1) := by decide +kernel
theorem dX8_alter_0 : decode cX8_alter 0 = .ok (.iload_n 1, 1) := by decide +kernel
theorem dX8_alter_1 : decode cX8_alter 1 = .ok (.ifCond .lt 21, 3) := by decide +kernel
theorem dX8_alter_4 : decode cX8_alter 4 = .ok (.iload_n 1, 1) := by decide +kernel
theorem dX8_alter_5 : decode cX8_alter 5 = .ok (.aload_n 0, 1) := by decide +kernel
theorem dX8_alter_6 : decode cX8_alter 6 = .ok (.getfield 158, 3) := by decide +kernel
theorem dX8_alter_9 : decode cX8_alter 9 = .ok (.if_icmp .ge 13, 3) := by decide +kernel
theorem dX8_alter_12 : decode cX8_alter 12 = .ok (.iload_n 2, 1) := by decide +kernel
theorem dX8_alter_13 : decode cX8_alter 13 = .ok (.iconst 1, 1) := by decide +kernel
theorem dX8_alter_14 : decode cX8_alter 14 = .ok (.if_icmp .lt 8, 3) := by decide +kernel
theorem dX8_alter_17 : decode cX8_alter 17 = .ok (.iload_n 2, 1) := by decide +kernel
theorem dX8_alter_18 : decode cX8_alter 18 = .ok (.iconst 4, 1) := by decide +kernel
theorem dX8_alter_19 : decode cX8_alter 19 = .ok (.if_icmp .le 5, 3) := by decide +kernel
theorem dX8_alter_22 : decode cX8_alter 22 = .ok (.iconst (-1), 1) := by decide +kernel
theorem dX8_alter_23 : decode cX8_alter 23 = .ok (.ireturn, 1) := by decide +kernel
theorem dX8_alter_24 : decode cX8_alter 24 = .ok (.aload_n 0, 1) := by decide +kernel
theorem dX8_alter_25 : decode cX8_alter 25 = .ok (.getfield 41, 3) := by decide +kernel
theorem dX8_alter_28 : decode cX8_alter 28 = .ok (.iconst 2, 1) := by decide +kernel
theorem dX8_alter_29 : decode cX8_alter 29 = .ok (.iload_n 1, 1) := by decide +kernel
theorem dX8_alter_30 : decode cX8_alter 30 = .ok (.imul, 1) := by decide +kernel
theorem dX8_alter_31 : decode cX8_alter 31 = .ok (.iload_n 2, 1) := by decide +kernel
theorem dX8_alter_32 : decode cX8_alter 32 = .ok (.iastore, 1) := by decide +kernel
theorem dX8_alter_33 : decode cX8_alter 33 = .ok (.aload_n 0, 1) := by decide +kernel
theorem dX8_alter_34 : decode cX8_alter 34 = .ok (.getfield 41, 3) := by decide +kernel
theorem dX8_alter_37 : decode cX8_alter 37 = .ok (.iconst 2, 1) := by decide +kernel
theorem dX8_alter_38 : decode cX8_alter 38 = .ok (.iload_n 1, 1) := by decide +kernel
theorem dX8_alter_39 : decode cX8_alter 39 = .ok (.imul, 1) := by decide +kernel
theorem dX8_alter_40 : decode cX8_alter 40 = .ok (.iconst 1, 1) := by decide +kernel
theorem dX8_alter_41 : decode cX8_alter 41 = .ok (.iadd, 1) := by decide +kernel
theorem dX8_alter_42 : decode cX8_alter 42 = .ok (.iload_n 3, 1) := by decide +kernel
theorem dX8_alter_43 : decode cX8_alter 43 = .ok (.iastore, 1) := by decide +kernel
theorem dX8_alter_44 : decode cX8_alter 44 = .ok (.iconst 1, 1) := by decide +kernel
theorem dX8_alter_45 : decode cX8_alter 45 = .ok (.ireturn, 1) := by decide +kernel
theorem dX8_cut_0 : decode cX8_cut 0 = .ok (.iload_n 1, 1) := by decide +kernel
theorem dX8_cut_1 : decode cX8_cut 1 = .ok (.ifCond .lt 11, 3) := by decide +kernel
theorem dX8_cut_4 : decode cX8_cut 4 = .ok (.iload_n 1, 1) := by decide +kernel
theorem dX8_cut_5 : decode cX8_cut 5 = .ok (.aload_n 0, 1) := by decide +kernel
theorem dX8_cut_6 : decode cX8_cut 6 = .ok (.getfield 158, 3) := by decide +kernel
theorem dX8_cut_9 : decode cX8_cut 9 = .ok (.if_icmp .le 5, 3) := by decide +kernel
theorem dX8_cut_12 : decode cX8_cut 12 = .ok (.iconst (-1), 1) := by decide +kernel
theorem dX8_cut_13 : decode cX8_cut 13 = .ok (.ireturn, 1) := by decide +kernel
theorem dX8_cut_14 : decode cX8_cut 14 = .ok (.aload_n 0, 1) := by decide +kernel
theorem dX8_cut_15 : decode cX8_cut 15 = .ok (.iload_n 1, 1) := by decide +kernel
theorem dX8_cut_16 : decode cX8_cut 16 = .ok (.putfield 158, 3) := by decide +kernel
theorem dX8_cut_19 : decode cX8_cut 19 = .ok (.iload_n 1, 1) := by decide +kernel
theorem dX8_cut_20 : decode cX8_cut 20 = .ok (.ireturn, 1) := by decide +kernel
theorem dX8_told_0 : decode cX8_told 0 = .ok (.iload_n 1, 1) := by decide +kernel
theorem dX8_told_1 : decode cX8_told 1 = .ok (.ifCond .lt 20, 3) := by decide +kernel
theorem dX8_told_4 : decode cX8_told 4 = .ok (.iload_n 1, 1) := by decide +kernel
theorem dX8_told_5 : decode cX8_told 5 = .ok (.aload_n 0, 1) := by decide +kernel
theorem dX8_told_6 : decode cX8_told 6 = .ok (.getfield 158, 3) := by decide +kernel
theorem dX8_told_9 : decode cX8_told 9 = .ok (.if_icmp .ge 12, 3) := by decide +kernel
theorem dX8_told_12 : decode cX8_told 12 = .ok (.iload_n 2, 1) := by decide +kernel
theorem dX8_told_13 : decode cX8_told 13 = .ok (.ifCond .lt 8, 3) := by decide +kernel
theorem dX8_told_16 : decode cX8_told 16 = .ok (.iload_n 2, 1) := by decide +kernel
theorem dX8_told_17 : decode cX8_told 17 = .ok (.iconst 1, 1) := by decide +kernel
theorem dX8_told_18 : decode cX8_told 18 = .ok (.if_icmp .le 5, 3) := by decide +kernel
theorem dX8_told_21 : decode cX8_told 21 = .ok (.iconst (-1), 1) := by decide +kernel
theorem dX8_told_22 : decode cX8_told 22 = .ok (.ireturn, 1) := by decide +kernel
theorem dX8_told_23 : decode cX8_told 23 = .ok (.aload_n 0, 1) := by decide +kernel
theorem dX8_told_24 : decode cX8_told 24 = .ok (.getfield 41, 3) := by decide +kernel
theorem dX8_told_27 : decode cX8_told 27 = .ok (.iconst 2, 1) := by decide +kernel
theorem dX8_told_28 : decode cX8_told 28 = .ok (.iload_n 1, 1) := by decide +kernel
theorem dX8_told_29 : decode cX8_told 29 = .ok (.imul, 1) := by decide +kernel
theorem dX8_told_30 : decode cX8_told 30 = .ok (.iload_n 2, 1) := by decide +kernel
theorem dX8_told_31 : decode cX8_told 31 = .ok (.iadd, 1) := by decide +kernel
theorem dX8_told_32 : decode cX8_told 32 = .ok (.iaload, 1) := by decide +kernel
theorem dX8_told_33 : decode cX8_told 33 = .ok (.ireturn, 1) := by decide +kernel
theorem dX8_closes_0 : decode cX8_closes 0 = .ok (.iload_n 1, 1) := by decide +kernel
theorem dX8_closes_1 : decode cX8_closes 1 = .ok (.ifCond .eq 7, 3) := by decide +kernel
theorem dX8_closes_4 : decode cX8_closes 4 = .ok (.iconst 1, 1) := by decide +kernel
theorem dX8_closes_5 : decode cX8_closes 5 = .ok (.goto 4, 3) := by decide +kernel
theorem dX8_closes_8 : decode cX8_closes 8 = .ok (.iconst 0, 1) := by decide +kernel
theorem dX8_closes_9 : decode cX8_closes 9 = .ok (.istore_n 3, 1) := by decide +kernel
theorem dX8_closes_10 : decode cX8_closes 10 = .ok (.iconst 0, 1) := by decide +kernel
theorem dX8_closes_11 : decode cX8_closes 11 = .ok (.istore 4, 2) := by decide +kernel
theorem dX8_closes_13 : decode cX8_closes 13 = .ok (.iload 4, 2) := by decide +kernel
theorem dX8_closes_15 : decode cX8_closes 15 = .ok (.bipush 32, 2) := by decide +kernel
theorem dX8_closes_17 : decode cX8_closes 17 = .ok (.if_icmp .ge 65, 3) := by decide +kernel
theorem dX8_closes_20 : decode cX8_closes 20 = .ok (.iload_n 1, 1) := by decide +kernel
theorem dX8_closes_21 : decode cX8_closes 21 = .ok (.iload 4, 2) := by decide +kernel
theorem dX8_closes_23 : decode cX8_closes 23 = .ok (.ishr, 1) := by decide +kernel
theorem dX8_closes_24 : decode cX8_closes 24 = .ok (.iconst 1, 1) := by decide +kernel
theorem dX8_closes_25 : decode cX8_closes 25 = .ok (.iand, 1) := by decide +kernel
theorem dX8_closes_26 : decode cX8_closes 26 = .ok (.iconst 1, 1) := by decide +kernel
theorem dX8_closes_27 : decode cX8_closes 27 = .ok (.if_icmp .ne 49, 3) := by decide +kernel
theorem dX8_closes_30 : decode cX8_closes 30 = .ok (.iload_n 3, 1) := by decide +kernel
theorem dX8_closes_31 : decode cX8_closes 31 = .ok (.ifCond .eq 43, 3) := by decide +kernel
theorem dX8_closes_34 : decode cX8_closes 34 = .ok (.iload 4, 2) := by decide +kernel
theorem dX8_closes_36 : decode cX8_closes 36 = .ok (.aload_n 0, 1) := by decide +kernel
theorem dX8_closes_37 : decode cX8_closes 37 = .ok (.getfield 50, 3) := by decide +kernel
theorem dX8_closes_40 : decode cX8_closes 40 = .ok (.if_icmp .ge 34, 3) := by decide +kernel
theorem dX8_closes_43 : decode cX8_closes 43 = .ok (.aload_n 0, 1) := by decide +kernel
theorem dX8_closes_44 : decode cX8_closes 44 = .ok (.getfield 16, 3) := by decide +kernel
theorem dX8_closes_47 : decode cX8_closes 47 = .ok (.iload 4, 2) := by decide +kernel
theorem dX8_closes_49 : decode cX8_closes 49 = .ok (.iaload, 1) := by decide +kernel
theorem dX8_closes_50 : decode cX8_closes 50 = .ok (.ifCond .ge 24, 3) := by decide +kernel
theorem dX8_closes_53 : decode cX8_closes 53 = .ok (.aload_n 0, 1) := by decide +kernel
theorem dX8_closes_54 : decode cX8_closes 54 = .ok (.iload 4, 2) := by decide +kernel
theorem dX8_closes_56 : decode cX8_closes 56 = .ok (.iload_n 1, 1) := by decide +kernel
theorem dX8_closes_57 : decode cX8_closes 57 = .ok (.iconst 1, 1) := by decide +kernel
theorem dX8_closes_58 : decode cX8_closes 58 = .ok (.iload 4, 2) := by decide +kernel
theorem dX8_closes_60 : decode cX8_closes 60 = .ok (.ishl, 1) := by decide +kernel
theorem dX8_closes_61 : decode cX8_closes 61 = .ok (.iconst (-1), 1) := by decide +kernel
theorem dX8_closes_62 : decode cX8_closes 62 = .ok (.ixor, 1) := by decide +kernel
theorem dX8_closes_63 : decode cX8_closes 63 = .ok (.iand, 1) := by decide +kernel
theorem dX8_closes_64 : decode cX8_closes 64 = .ok (.invokevirtual 100, 3) := by decide +kernel
theorem dX8_closes_67 : decode cX8_closes 67 = .ok (.ifCond .eq 7, 3) := by decide +kernel
theorem dX8_closes_70 : decode cX8_closes 70 = .ok (.iconst 1, 1) := by decide +kernel
theorem dX8_closes_71 : decode cX8_closes 71 = .ok (.goto 4, 3) := by decide +kernel
theorem dX8_closes_74 : decode cX8_closes 74 = .ok (.iconst 0, 1) := by decide +kernel
theorem dX8_closes_75 : decode cX8_closes 75 = .ok (.istore_n 3, 1) := by decide +kernel
theorem dX8_closes_76 : decode cX8_closes 76 = .ok (.iinc 4 1, 3) := by decide +kernel
theorem dX8_closes_79 : decode cX8_closes 79 = .ok (.goto (-66), 3) := by decide +kernel
theorem dX8_closes_82 : decode cX8_closes 82 = .ok (.iload_n 3, 1) := by decide +kernel
theorem dX8_closes_83 : decode cX8_closes 83 = .ok (.ifCond .eq 20, 3) := by decide +kernel
theorem dX8_closes_86 : decode cX8_closes 86 = .ok (.aload_n 0, 1) := by decide +kernel
theorem dX8_closes_87 : decode cX8_closes 87 = .ok (.iload_n 1, 1) := by decide +kernel
theorem dX8_closes_88 : decode cX8_closes 88 = .ok (.iload_n 2, 1) := by decide +kernel
theorem dX8_closes_89 : decode cX8_closes 89 = .ok (.invokevirtual 103, 3) := by decide +kernel
theorem dX8_closes_92 : decode cX8_closes 92 = .ok (.iload_n 1, 1) := by decide +kernel
theorem dX8_closes_93 : decode cX8_closes 93 = .ok (.invokestatic 106, 3) := by decide +kernel
theorem dX8_closes_96 : decode cX8_closes 96 = .ok (.if_icmp .ge 7, 3) := by decide +kernel
theorem dX8_closes_99 : decode cX8_closes 99 = .ok (.iconst 1, 1) := by decide +kernel
theorem dX8_closes_100 : decode cX8_closes 100 = .ok (.goto 4, 3) := by decide +kernel
theorem dX8_closes_103 : decode cX8_closes 103 = .ok (.iconst 0, 1) := by decide +kernel
theorem dX8_closes_104 : decode cX8_closes 104 = .ok (.ireturn, 1) := by decide +kernel
theorem dX8_begins_0 : decode cX8_begins 0 = .ok (.aload_n 0, 1) := by decide +kernel
theorem dX8_begins_1 : decode cX8_begins 1 = .ok (.getfield 41, 3) := by decide +kernel
theorem dX8_begins_4 : decode cX8_begins 4 = .ok (.iconst 2, 1) := by decide +kernel
theorem dX8_begins_5 : decode cX8_begins 5 = .ok (.iload_n 1, 1) := by decide +kernel
theorem dX8_begins_6 : decode cX8_begins 6 = .ok (.imul, 1) := by decide +kernel
theorem dX8_begins_7 : decode cX8_begins 7 = .ok (.iaload, 1) := by decide +kernel
theorem dX8_begins_8 : decode cX8_begins 8 = .ok (.istore_n 3, 1) := by decide +kernel
theorem dX8_begins_9 : decode cX8_begins 9 = .ok (.aload_n 0, 1) := by decide +kernel
theorem dX8_begins_10 : decode cX8_begins 10 = .ok (.getfield 41, 3) := by decide +kernel
theorem dX8_begins_13 : decode cX8_begins 13 = .ok (.iconst 2, 1) := by decide +kernel
theorem dX8_begins_14 : decode cX8_begins 14 = .ok (.iload_n 1, 1) := by decide +kernel
theorem dX8_begins_15 : decode cX8_begins 15 = .ok (.imul, 1) := by decide +kernel
theorem dX8_begins_16 : decode cX8_begins 16 = .ok (.iconst 1, 1) := by decide +kernel
theorem dX8_begins_17 : decode cX8_begins 17 = .ok (.iadd, 1) := by decide +kernel
theorem dX8_begins_18 : decode cX8_begins 18 = .ok (.iaload, 1) := by decide +kernel
theorem dX8_begins_19 : decode cX8_begins 19 = .ok (.istore 4, 2) := by decide +kernel
theorem dX8_begins_21 : decode cX8_begins 21 = .ok (.iload_n 3, 1) := by decide +kernel
theorem dX8_begins_22 : decode cX8_begins 22 = .ok (.iconst 4, 1) := by decide +kernel
theorem dX8_begins_23 : decode cX8_begins 23 = .ok (.if_icmp .ne 11, 3) := by decide +kernel
theorem dX8_begins_26 : decode cX8_begins 26 = .ok (.aload_n 0, 1) := by decide +kernel
theorem dX8_begins_27 : decode cX8_begins 27 = .ok (.iload 4, 2) := by decide +kernel
theorem dX8_begins_29 : decode cX8_begins 29 = .ok (.iload_n 2, 1) := by decide +kernel
theorem dX8_begins_30 : decode cX8_begins 30 = .ok (.invokevirtual 164, 3) := by decide +kernel
theorem dX8_begins_33 : decode cX8_begins 33 = .ok (.ireturn, 1) := by decide +kernel
theorem dX8_begins_34 : decode cX8_begins 34 = .ok (.iload_n 3, 1) := by decide +kernel
theorem dX8_begins_35 : decode cX8_begins 35 = .ok (.iconst 1, 1) := by decide +kernel
theorem dX8_begins_36 : decode cX8_begins 36 = .ok (.if_icmp .ne 22, 3) := by decide +kernel
theorem dX8_begins_39 : decode cX8_begins 39 = .ok (.aload_n 0, 1) := by decide +kernel
theorem dX8_begins_40 : decode cX8_begins 40 = .ok (.iload 4, 2) := by decide +kernel
theorem dX8_begins_42 : decode cX8_begins 42 = .ok (.invokevirtual 58, 3) := by decide +kernel
theorem dX8_begins_45 : decode cX8_begins 45 = .ok (.ifCond .eq 13, 3) := by decide +kernel
theorem dX8_begins_48 : decode cX8_begins 48 = .ok (.aload_n 0, 1) := by decide +kernel
theorem dX8_begins_49 : decode cX8_begins 49 = .ok (.getfield 16, 3) := by decide +kernel
theorem dX8_begins_52 : decode cX8_begins 52 = .ok (.iload 4, 2) := by decide +kernel
theorem dX8_begins_54 : decode cX8_begins 54 = .ok (.iaload, 1) := by decide +kernel
theorem dX8_begins_55 : decode cX8_begins 55 = .ok (.ifCond .lt 5, 3) := by decide +kernel
theorem dX8_begins_58 : decode cX8_begins 58 = .ok (.iconst 0, 1) := by decide +kernel
theorem dX8_begins_59 : decode cX8_begins 59 = .ok (.ireturn, 1) := by decide +kernel
theorem dX8_begins_60 : decode cX8_begins 60 = .ok (.aload_n 0, 1) := by decide +kernel
theorem dX8_begins_61 : decode cX8_begins 61 = .ok (.iload 4, 2) := by decide +kernel
theorem dX8_begins_63 : decode cX8_begins 63 = .ok (.invokevirtual 130, 3) := by decide +kernel
theorem dX8_begins_66 : decode cX8_begins 66 = .ok (.iconst 1, 1) := by decide +kernel
theorem dX8_begins_67 : decode cX8_begins 67 = .ok (.ireturn, 1) := by decide +kernel
theorem dX8_leave_0 : decode cX8_leave 0 = .ok (.aload_n 0, 1) := by decide +kernel
theorem dX8_leave_1 : decode cX8_leave 1 = .ok (.getfield 121, 3) := by decide +kernel
theorem dX8_leave_4 : decode cX8_leave 4 = .ok (.ifCond .le 7, 3) := by decide +kernel
theorem dX8_leave_7 : decode cX8_leave 7 = .ok (.iconst 1, 1) := by decide +kernel
theorem dX8_leave_8 : decode cX8_leave 8 = .ok (.goto 4, 3) := by decide +kernel
theorem dX8_leave_11 : decode cX8_leave 11 = .ok (.iconst 0, 1) := by decide +kernel
theorem dX8_leave_12 : decode cX8_leave 12 = .ok (.istore_n 2, 1) := by decide +kernel
theorem dX8_leave_13 : decode cX8_leave 13 = .ok (.iload_n 2, 1) := by decide +kernel
theorem dX8_leave_14 : decode cX8_leave 14 = .ok (.ifCond .eq 89, 3) := by decide +kernel
theorem dX8_leave_17 : decode cX8_leave 17 = .ok (.aload_n 0, 1) := by decide +kernel
theorem dX8_leave_18 : decode cX8_leave 18 = .ok (.getfield 121, 3) := by decide +kernel
theorem dX8_leave_21 : decode cX8_leave 21 = .ok (.iconst 1, 1) := by decide +kernel
theorem dX8_leave_22 : decode cX8_leave 22 = .ok (.isub, 1) := by decide +kernel
theorem dX8_leave_23 : decode cX8_leave 23 = .ok (.istore_n 3, 1) := by decide +kernel
theorem dX8_leave_24 : decode cX8_leave 24 = .ok (.aload_n 0, 1) := by decide +kernel
theorem dX8_leave_25 : decode cX8_leave 25 = .ok (.getfield 16, 3) := by decide +kernel
theorem dX8_leave_28 : decode cX8_leave 28 = .ok (.aload_n 0, 1) := by decide +kernel
theorem dX8_leave_29 : decode cX8_leave 29 = .ok (.getfield 26, 3) := by decide +kernel
theorem dX8_leave_32 : decode cX8_leave 32 = .ok (.iload_n 3, 1) := by decide +kernel
theorem dX8_leave_33 : decode cX8_leave 33 = .ok (.iaload, 1) := by decide +kernel
theorem dX8_leave_34 : decode cX8_leave 34 = .ok (.iconst (-1), 1) := by decide +kernel
theorem dX8_leave_35 : decode cX8_leave 35 = .ok (.iastore, 1) := by decide +kernel
theorem dX8_leave_36 : decode cX8_leave 36 = .ok (.aload_n 0, 1) := by decide +kernel
theorem dX8_leave_37 : decode cX8_leave 37 = .ok (.getfield 29, 3) := by decide +kernel
theorem dX8_leave_40 : decode cX8_leave 40 = .ok (.iload_n 3, 1) := by decide +kernel
theorem dX8_leave_41 : decode cX8_leave 41 = .ok (.iaload, 1) := by decide +kernel
theorem dX8_leave_42 : decode cX8_leave 42 = .ok (.iload_n 1, 1) := by decide +kernel
theorem dX8_leave_43 : decode cX8_leave 43 = .ok (.if_icmp .ge 18, 3) := by decide +kernel
theorem dX8_leave_46 : decode cX8_leave 46 = .ok (.aload_n 0, 1) := by decide +kernel
theorem dX8_leave_47 : decode cX8_leave 47 = .ok (.getfield 29, 3) := by decide +kernel
theorem dX8_leave_50 : decode cX8_leave 50 = .ok (.iload_n 3, 1) := by decide +kernel
theorem dX8_leave_51 : decode cX8_leave 51 = .ok (.iaload, 1) := by decide +kernel
theorem dX8_leave_52 : decode cX8_leave 52 = .ok (.aload_n 0, 1) := by decide +kernel
theorem dX8_leave_53 : decode cX8_leave 53 = .ok (.getfield 32, 3) := by decide +kernel
theorem dX8_leave_56 : decode cX8_leave 56 = .ok (.iload_n 3, 1) := by decide +kernel
theorem dX8_leave_57 : decode cX8_leave 57 = .ok (.iaload, 1) := by decide +kernel
theorem dX8_leave_58 : decode cX8_leave 58 = .ok (.if_icmp .le 7, 3) := by decide +kernel
theorem dX8_leave_61 : decode cX8_leave 61 = .ok (.iconst 1, 1) := by decide +kernel
theorem dX8_leave_62 : decode cX8_leave 62 = .ok (.goto 4, 3) := by decide +kernel
theorem dX8_leave_65 : decode cX8_leave 65 = .ok (.iconst 0, 1) := by decide +kernel
theorem dX8_leave_66 : decode cX8_leave 66 = .ok (.istore_n 2, 1) := by decide +kernel
theorem dX8_leave_67 : decode cX8_leave 67 = .ok (.aload_n 0, 1) := by decide +kernel
theorem dX8_leave_68 : decode cX8_leave 68 = .ok (.iload_n 2, 1) := by decide +kernel
theorem dX8_leave_69 : decode cX8_leave 69 = .ok (.ifCond .eq 7, 3) := by decide +kernel
theorem dX8_leave_72 : decode cX8_leave 72 = .ok (.iload_n 3, 1) := by decide +kernel
theorem dX8_leave_73 : decode cX8_leave 73 = .ok (.goto 7, 3) := by decide +kernel
theorem dX8_leave_76 : decode cX8_leave 76 = .ok (.aload_n 0, 1) := by decide +kernel
theorem dX8_leave_77 : decode cX8_leave 77 = .ok (.getfield 121, 3) := by decide +kernel
theorem dX8_leave_80 : decode cX8_leave 80 = .ok (.putfield 121, 3) := by decide +kernel
theorem dX8_leave_83 : decode cX8_leave 83 = .ok (.iload_n 2, 1) := by decide +kernel
theorem dX8_leave_84 : decode cX8_leave 84 = .ok (.ifCond .eq 14, 3) := by decide +kernel
theorem dX8_leave_87 : decode cX8_leave 87 = .ok (.aload_n 0, 1) := by decide +kernel
theorem dX8_leave_88 : decode cX8_leave 88 = .ok (.getfield 121, 3) := by decide +kernel
theorem dX8_leave_91 : decode cX8_leave 91 = .ok (.ifCond .le 7, 3) := by decide +kernel
theorem dX8_leave_94 : decode cX8_leave 94 = .ok (.iconst 1, 1) := by decide +kernel
theorem dX8_leave_95 : decode cX8_leave 95 = .ok (.goto 4, 3) := by decide +kernel
theorem dX8_leave_98 : decode cX8_leave 98 = .ok (.iconst 0, 1) := by decide +kernel
theorem dX8_leave_99 : decode cX8_leave 99 = .ok (.istore_n 2, 1) := by decide +kernel
theorem dX8_leave_100 : decode cX8_leave 100 = .ok (.goto (-87), 3) := by decide +kernel
theorem dX8_leave_103 : decode cX8_leave 103 = .ok (.return_, 1) := by decide +kernel
theorem dX8_stands_0 : decode cX8_stands 0 = .ok (.aload_n 0, 1) := by decide +kernel
theorem dX8_stands_1 : decode cX8_stands 1 = .ok (.getfield 121, 3) := by decide +kernel
theorem dX8_stands_4 : decode cX8_stands 4 = .ok (.iconst 1, 1) := by decide +kernel
theorem dX8_stands_5 : decode cX8_stands 5 = .ok (.isub, 1) := by decide +kernel
theorem dX8_stands_6 : decode cX8_stands 6 = .ok (.istore_n 2, 1) := by decide +kernel
theorem dX8_stands_7 : decode cX8_stands 7 = .ok (.aload_n 0, 1) := by decide +kernel
theorem dX8_stands_8 : decode cX8_stands 8 = .ok (.getfield 26, 3) := by decide +kernel
theorem dX8_stands_11 : decode cX8_stands 11 = .ok (.iload_n 2, 1) := by decide +kernel
theorem dX8_stands_12 : decode cX8_stands 12 = .ok (.iaload, 1) := by decide +kernel
theorem dX8_stands_13 : decode cX8_stands 13 = .ok (.istore_n 3, 1) := by decide +kernel
theorem dX8_stands_14 : decode cX8_stands 14 = .ok (.aload_n 0, 1) := by decide +kernel
theorem dX8_stands_15 : decode cX8_stands 15 = .ok (.getfield 29, 3) := by decide +kernel
theorem dX8_stands_18 : decode cX8_stands 18 = .ok (.iload_n 2, 1) := by decide +kernel
theorem dX8_stands_19 : decode cX8_stands 19 = .ok (.iaload, 1) := by decide +kernel
theorem dX8_stands_20 : decode cX8_stands 20 = .ok (.istore 4, 2) := by decide +kernel
theorem dX8_stands_22 : decode cX8_stands 22 = .ok (.aload_n 0, 1) := by decide +kernel
theorem dX8_stands_23 : decode cX8_stands 23 = .ok (.getfield 41, 3) := by decide +kernel
theorem dX8_stands_26 : decode cX8_stands 26 = .ok (.iconst 2, 1) := by decide +kernel
theorem dX8_stands_27 : decode cX8_stands 27 = .ok (.iload_n 1, 1) := by decide +kernel
theorem dX8_stands_28 : decode cX8_stands 28 = .ok (.imul, 1) := by decide +kernel
theorem dX8_stands_29 : decode cX8_stands 29 = .ok (.iconst 1, 1) := by decide +kernel
theorem dX8_stands_30 : decode cX8_stands 30 = .ok (.iadd, 1) := by decide +kernel
theorem dX8_stands_31 : decode cX8_stands 31 = .ok (.iaload, 1) := by decide +kernel
theorem dX8_stands_32 : decode cX8_stands 32 = .ok (.istore 5, 2) := by decide +kernel
theorem dX8_stands_34 : decode cX8_stands 34 = .ok (.aload_n 0, 1) := by decide +kernel
theorem dX8_stands_35 : decode cX8_stands 35 = .ok (.getfield 29, 3) := by decide +kernel
theorem dX8_stands_38 : decode cX8_stands 38 = .ok (.iload_n 2, 1) := by decide +kernel
theorem dX8_stands_39 : decode cX8_stands 39 = .ok (.dup2, 1) := by decide +kernel
theorem dX8_stands_40 : decode cX8_stands 40 = .ok (.iaload, 1) := by decide +kernel
theorem dX8_stands_41 : decode cX8_stands 41 = .ok (.iconst 1, 1) := by decide +kernel
theorem dX8_stands_42 : decode cX8_stands 42 = .ok (.iadd, 1) := by decide +kernel
theorem dX8_stands_43 : decode cX8_stands 43 = .ok (.iastore, 1) := by decide +kernel
theorem dX8_stands_44 : decode cX8_stands 44 = .ok (.aload_n 0, 1) := by decide +kernel
theorem dX8_stands_45 : decode cX8_stands 45 = .ok (.iload_n 3, 1) := by decide +kernel
theorem dX8_stands_46 : decode cX8_stands 46 = .ok (.iload 4, 2) := by decide +kernel
theorem dX8_stands_48 : decode cX8_stands 48 = .ok (.invokevirtual 84, 3) := by decide +kernel
theorem dX8_stands_51 : decode cX8_stands 51 = .ok (.ifCond .lt 52, 3) := by decide +kernel
theorem dX8_stands_54 : decode cX8_stands 54 = .ok (.aload_n 0, 1) := by decide +kernel
theorem dX8_stands_55 : decode cX8_stands 55 = .ok (.getfield 41, 3) := by decide +kernel
theorem dX8_stands_58 : decode cX8_stands 58 = .ok (.iconst 2, 1) := by decide +kernel
theorem dX8_stands_59 : decode cX8_stands 59 = .ok (.iload_n 1, 1) := by decide +kernel
theorem dX8_stands_60 : decode cX8_stands 60 = .ok (.imul, 1) := by decide +kernel
theorem dX8_stands_61 : decode cX8_stands 61 = .ok (.iaload, 1) := by decide +kernel
theorem dX8_stands_62 : decode cX8_stands 62 = .ok (.iconst 2, 1) := by decide +kernel
theorem dX8_stands_63 : decode cX8_stands 63 = .ok (.if_icmp .ne 38, 3) := by decide +kernel
theorem dX8_stands_66 : decode cX8_stands 66 = .ok (.aload_n 0, 1) := by decide +kernel
theorem dX8_stands_67 : decode cX8_stands 67 = .ok (.iload 5, 2) := by decide +kernel
theorem dX8_stands_69 : decode cX8_stands 69 = .ok (.invokevirtual 58, 3) := by decide +kernel
theorem dX8_stands_72 : decode cX8_stands 72 = .ok (.ifCond .eq 29, 3) := by decide +kernel
theorem dX8_stands_75 : decode cX8_stands 75 = .ok (.aload_n 0, 1) := by decide +kernel
theorem dX8_stands_76 : decode cX8_stands 76 = .ok (.iload_n 3, 1) := by decide +kernel
theorem dX8_stands_77 : decode cX8_stands 77 = .ok (.iload 5, 2) := by decide +kernel
theorem dX8_stands_79 : decode cX8_stands 79 = .ok (.invokevirtual 62, 3) := by decide +kernel
theorem dX8_stands_82 : decode cX8_stands 82 = .ok (.ifCond .eq 19, 3) := by decide +kernel
theorem dX8_stands_85 : decode cX8_stands 85 = .ok (.aload_n 0, 1) := by decide +kernel
theorem dX8_stands_86 : decode cX8_stands 86 = .ok (.getfield 16, 3) := by decide +kernel
theorem dX8_stands_89 : decode cX8_stands 89 = .ok (.iload 5, 2) := by decide +kernel
theorem dX8_stands_91 : decode cX8_stands 91 = .ok (.iaload, 1) := by decide +kernel
theorem dX8_stands_92 : decode cX8_stands 92 = .ok (.iload 4, 2) := by decide +kernel
theorem dX8_stands_94 : decode cX8_stands 94 = .ok (.if_icmp .ne 7, 3) := by decide +kernel
theorem dX8_stands_97 : decode cX8_stands 97 = .ok (.iconst 0, 1) := by decide +kernel
theorem dX8_stands_98 : decode cX8_stands 98 = .ok (.goto 4, 3) := by decide +kernel
theorem dX8_stands_101 : decode cX8_stands 101 = .ok (.iconst (-1), 1) := by decide +kernel
theorem dX8_stands_102 : decode cX8_stands 102 = .ok (.ireturn, 1) := by decide +kernel
theorem dX8_stands_103 : decode cX8_stands 103 = .ok (.aload_n 0, 1) := by decide +kernel
theorem dX8_stands_104 : decode cX8_stands 104 = .ok (.getfield 41, 3) := by decide +kernel
theorem dX8_stands_107 : decode cX8_stands 107 = .ok (.iconst 2, 1) := by decide +kernel
theorem dX8_stands_108 : decode cX8_stands 108 = .ok (.iload_n 1, 1) := by decide +kernel
theorem dX8_stands_109 : decode cX8_stands 109 = .ok (.imul, 1) := by decide +kernel
theorem dX8_stands_110 : decode cX8_stands 110 = .ok (.iaload, 1) := by decide +kernel
theorem dX8_stands_111 : decode cX8_stands 111 = .ok (.iconst 3, 1) := by decide +kernel
theorem dX8_stands_112 : decode cX8_stands 112 = .ok (.if_icmp .ne 10, 3) := by decide +kernel
theorem dX8_stands_115 : decode cX8_stands 115 = .ok (.iload 5, 2) := by decide +kernel
theorem dX8_stands_117 : decode cX8_stands 117 = .ok (.iload 4, 2) := by decide +kernel
theorem dX8_stands_119 : decode cX8_stands 119 = .ok (.if_icmp .eq 5, 3) := by decide +kernel
theorem dX8_stands_122 : decode cX8_stands 122 = .ok (.iconst (-1), 1) := by decide +kernel
theorem dX8_stands_123 : decode cX8_stands 123 = .ok (.ireturn, 1) := by decide +kernel
theorem dX8_stands_124 : decode cX8_stands 124 = .ok (.aload_n 0, 1) := by decide +kernel
theorem dX8_stands_125 : decode cX8_stands 125 = .ok (.getfield 16, 3) := by decide +kernel
theorem dX8_stands_128 : decode cX8_stands 128 = .ok (.iload_n 3, 1) := by decide +kernel
theorem dX8_stands_129 : decode cX8_stands 129 = .ok (.iload 4, 2) := by decide +kernel
theorem dX8_stands_131 : decode cX8_stands 131 = .ok (.iastore, 1) := by decide +kernel
theorem dX8_stands_132 : decode cX8_stands 132 = .ok (.iconst 1, 1) := by decide +kernel
theorem dX8_stands_133 : decode cX8_stands 133 = .ok (.ireturn, 1) := by decide +kernel
theorem dX8_check_0 : decode cX8_check 0 = .ok (.iload_n 1, 1) := by decide +kernel
theorem dX8_check_1 : decode cX8_check 1 = .ok (.ifCond .lt 9, 3) := by decide +kernel
theorem dX8_check_4 : decode cX8_check 4 = .ok (.iload_n 1, 1) := by decide +kernel
theorem dX8_check_5 : decode cX8_check 5 = .ok (.bipush 30, 2) := by decide +kernel
theorem dX8_check_7 : decode cX8_check 7 = .ok (.if_icmp .le 6, 3) := by decide +kernel
theorem dX8_check_10 : decode cX8_check 10 = .ok (.bipush (-2), 2) := by decide +kernel
theorem dX8_check_12 : decode cX8_check 12 = .ok (.ireturn, 1) := by decide +kernel
theorem dX8_check_13 : decode cX8_check 13 = .ok (.aload_n 0, 1) := by decide +kernel
theorem dX8_check_14 : decode cX8_check 14 = .ok (.invokevirtual 109, 3) := by decide +kernel
theorem dX8_check_17 : decode cX8_check 17 = .ok (.aload_n 0, 1) := by decide +kernel
theorem dX8_check_18 : decode cX8_check 18 = .ok (.iconst 0, 1) := by decide +kernel
theorem dX8_check_19 : decode cX8_check 19 = .ok (.putfield 121, 3) := by decide +kernel
theorem dX8_check_22 : decode cX8_check 22 = .ok (.iconst 0, 1) := by decide +kernel
theorem dX8_check_23 : decode cX8_check 23 = .ok (.istore_n 2, 1) := by decide +kernel
theorem dX8_check_24 : decode cX8_check 24 = .ok (.iconst 1, 1) := by decide +kernel
theorem dX8_check_25 : decode cX8_check 25 = .ok (.istore_n 3, 1) := by decide +kernel
theorem dX8_check_26 : decode cX8_check 26 = .ok (.iload_n 3, 1) := by decide +kernel
theorem dX8_check_27 : decode cX8_check 27 = .ok (.ifCond .ne 10, 3) := by decide +kernel
theorem dX8_check_30 : decode cX8_check 30 = .ok (.aload_n 0, 1) := by decide +kernel
theorem dX8_check_31 : decode cX8_check 31 = .ok (.getfield 121, 3) := by decide +kernel
theorem dX8_check_34 : decode cX8_check 34 = .ok (.ifCond .le 74, 3) := by decide +kernel
theorem dX8_check_37 : decode cX8_check 37 = .ok (.iload_n 2, 1) := by decide +kernel
theorem dX8_check_38 : decode cX8_check 38 = .ok (.aload_n 0, 1) := by decide +kernel
theorem dX8_check_39 : decode cX8_check 39 = .ok (.getfield 158, 3) := by decide +kernel
theorem dX8_check_42 : decode cX8_check 42 = .ok (.if_icmp .ne 5, 3) := by decide +kernel
theorem dX8_check_45 : decode cX8_check 45 = .ok (.iload_n 2, 1) := by decide +kernel
theorem dX8_check_46 : decode cX8_check 46 = .ok (.ireturn, 1) := by decide +kernel
theorem dX8_check_47 : decode cX8_check 47 = .ok (.iload_n 3, 1) := by decide +kernel
theorem dX8_check_48 : decode cX8_check 48 = .ok (.ifCond .eq 19, 3) := by decide +kernel
theorem dX8_check_51 : decode cX8_check 51 = .ok (.aload_n 0, 1) := by decide +kernel
theorem dX8_check_52 : decode cX8_check 52 = .ok (.iload_n 2, 1) := by decide +kernel
theorem dX8_check_53 : decode cX8_check 53 = .ok (.iload_n 1, 1) := by decide +kernel
theorem dX8_check_54 : decode cX8_check 54 = .ok (.invokevirtual 167, 3) := by decide +kernel
theorem dX8_check_57 : decode cX8_check 57 = .ok (.ifCond .ne 5, 3) := by decide +kernel
theorem dX8_check_60 : decode cX8_check 60 = .ok (.iload_n 2, 1) := by decide +kernel
theorem dX8_check_61 : decode cX8_check 61 = .ok (.ireturn, 1) := by decide +kernel
theorem dX8_check_62 : decode cX8_check 62 = .ok (.iconst 0, 1) := by decide +kernel
theorem dX8_check_63 : decode cX8_check 63 = .ok (.istore_n 3, 1) := by decide +kernel
theorem dX8_check_64 : decode cX8_check 64 = .ok (.goto 29, 3) := by decide +kernel
theorem dX8_check_67 : decode cX8_check 67 = .ok (.aload_n 0, 1) := by decide +kernel
theorem dX8_check_68 : decode cX8_check 68 = .ok (.iload_n 2, 1) := by decide +kernel
theorem dX8_check_69 : decode cX8_check 69 = .ok (.invokevirtual 170, 3) := by decide +kernel
theorem dX8_check_72 : decode cX8_check 72 = .ok (.istore 4, 2) := by decide +kernel
theorem dX8_check_74 : decode cX8_check 74 = .ok (.iload 4, 2) := by decide +kernel
theorem dX8_check_76 : decode cX8_check 76 = .ok (.ifCond .ge 5, 3) := by decide +kernel
theorem dX8_check_79 : decode cX8_check 79 = .ok (.iload_n 2, 1) := by decide +kernel
theorem dX8_check_80 : decode cX8_check 80 = .ok (.ireturn, 1) := by decide +kernel
theorem dX8_check_81 : decode cX8_check 81 = .ok (.iload 4, 2) := by decide +kernel
theorem dX8_check_83 : decode cX8_check 83 = .ok (.iconst 1, 1) := by decide +kernel
theorem dX8_check_84 : decode cX8_check 84 = .ok (.if_icmp .ne 7, 3) := by decide +kernel
theorem dX8_check_87 : decode cX8_check 87 = .ok (.iconst 1, 1) := by decide +kernel
theorem dX8_check_88 : decode cX8_check 88 = .ok (.goto 4, 3) := by decide +kernel
theorem dX8_check_91 : decode cX8_check 91 = .ok (.iconst 0, 1) := by decide +kernel
theorem dX8_check_92 : decode cX8_check 92 = .ok (.istore_n 3, 1) := by decide +kernel
theorem dX8_check_93 : decode cX8_check 93 = .ok (.iinc 2 1, 3) := by decide +kernel
theorem dX8_check_96 : decode cX8_check 96 = .ok (.iload_n 3, 1) := by decide +kernel
theorem dX8_check_97 : decode cX8_check 97 = .ok (.ifCond .ne (-71), 3) := by decide +kernel
theorem dX8_check_100 : decode cX8_check 100 = .ok (.aload_n 0, 1) := by decide +kernel
theorem dX8_check_101 : decode cX8_check 101 = .ok (.iload_n 1, 1) := by decide +kernel
theorem dX8_check_102 : decode cX8_check 102 = .ok (.invokevirtual 173, 3) := by decide +kernel
theorem dX8_check_105 : decode cX8_check 105 = .ok (.goto (-79), 3) := by decide +kernel
theorem dX8_check_108 : decode cX8_check 108 = .ok (.iload_n 2, 1) := by decide +kernel
theorem dX8_check_109 : decode cX8_check 109 = .ok (.aload_n 0, 1) := by decide +kernel
theorem dX8_check_110 : decode cX8_check 110 = .ok (.getfield 158, 3) := by decide +kernel
theorem dX8_check_113 : decode cX8_check 113 = .ok (.if_icmp .ne 7, 3) := by decide +kernel
theorem dX8_check_116 : decode cX8_check 116 = .ok (.iconst (-1), 1) := by decide +kernel
theorem dX8_check_117 : decode cX8_check 117 = .ok (.goto 4, 3) := by decide +kernel
theorem dX8_check_120 : decode cX8_check 120 = .ok (.iload_n 2, 1) := by decide +kernel
theorem dX8_check_121 : decode cX8_check 121 = .ok (.ireturn, 1) := by decide +kernel
theorem dX8_paint_0 : decode cX8_paint 0 = .ok (.iload_n 1, 1) := by decide +kernel
theorem dX8_paint_1 : decode cX8_paint 1 = .ok (.ifCond .lt 20, 3) := by decide +kernel
theorem dX8_paint_4 : decode cX8_paint 4 = .ok (.iload_n 1, 1) := by decide +kernel
theorem dX8_paint_5 : decode cX8_paint 5 = .ok (.bipush 29, 2) := by decide +kernel
theorem dX8_paint_7 : decode cX8_paint 7 = .ok (.if_icmp .gt 14, 3) := by decide +kernel
theorem dX8_paint_10 : decode cX8_paint 10 = .ok (.iload_n 2, 1) := by decide +kernel
theorem dX8_paint_11 : decode cX8_paint 11 = .ok (.iconst (-1), 1) := by decide +kernel
theorem dX8_paint_12 : decode cX8_paint 12 = .ok (.if_icmp .lt 9, 3) := by decide +kernel
theorem dX8_paint_15 : decode cX8_paint 15 = .ok (.iload_n 2, 1) := by decide +kernel
theorem dX8_paint_16 : decode cX8_paint 16 = .ok (.bipush 29, 2) := by decide +kernel
theorem dX8_paint_18 : decode cX8_paint 18 = .ok (.if_icmp .le 6, 3) := by decide +kernel
theorem dX8_paint_21 : decode cX8_paint 21 = .ok (.bipush (-2), 2) := by decide +kernel
theorem dX8_paint_23 : decode cX8_paint 23 = .ok (.ireturn, 1) := by decide +kernel
theorem dX8_paint_24 : decode cX8_paint 24 = .ok (.aload_n 0, 1) := by decide +kernel
theorem dX8_paint_25 : decode cX8_paint 25 = .ok (.getfield 23, 3) := by decide +kernel
theorem dX8_paint_28 : decode cX8_paint 28 = .ok (.iload_n 1, 1) := by decide +kernel
theorem dX8_paint_29 : decode cX8_paint 29 = .ok (.iaload, 1) := by decide +kernel
theorem dX8_paint_30 : decode cX8_paint 30 = .ok (.istore_n 3, 1) := by decide +kernel
theorem dX8_paint_31 : decode cX8_paint 31 = .ok (.aload_n 0, 1) := by decide +kernel
theorem dX8_paint_32 : decode cX8_paint 32 = .ok (.getfield 23, 3) := by decide +kernel
theorem dX8_paint_35 : decode cX8_paint 35 = .ok (.iload_n 1, 1) := by decide +kernel
theorem dX8_paint_36 : decode cX8_paint 36 = .ok (.iload_n 2, 1) := by decide +kernel
theorem dX8_paint_37 : decode cX8_paint 37 = .ok (.iastore, 1) := by decide +kernel
theorem dX8_paint_38 : decode cX8_paint 38 = .ok (.iload_n 3, 1) := by decide +kernel
theorem dX8_paint_39 : decode cX8_paint 39 = .ok (.ireturn, 1) := by decide +kernel
theorem dX8_copy_0 : decode cX8_copy 0 = .ok (.aload_n 0, 1) := by decide +kernel
theorem dX8_copy_1 : decode cX8_copy 1 = .ok (.getfield 54, 3) := by decide +kernel
theorem dX8_copy_4 : decode cX8_copy 4 = .ok (.ifCond .ne 6, 3) := by decide +kernel
theorem dX8_copy_7 : decode cX8_copy 7 = .ok (.bipush (-2), 2) := by decide +kernel
theorem dX8_copy_9 : decode cX8_copy 9 = .ok (.ireturn, 1) := by decide +kernel
theorem dX8_copy_10 : decode cX8_copy 10 = .ok (.iconst 0, 1) := by decide +kernel
theorem dX8_copy_11 : decode cX8_copy 11 = .ok (.istore_n 1, 1) := by decide +kernel
theorem dX8_copy_12 : decode cX8_copy 12 = .ok (.iload_n 1, 1) := by decide +kernel
theorem dX8_copy_13 : decode cX8_copy 13 = .ok (.aload_n 0, 1) := by decide +kernel
theorem dX8_copy_14 : decode cX8_copy 14 = .ok (.getfield 50, 3) := by decide +kernel
theorem dX8_copy_17 : decode cX8_copy 17 = .ok (.if_icmp .ge 21, 3) := by decide +kernel
theorem dX8_copy_20 : decode cX8_copy 20 = .ok (.aload_n 0, 1) := by decide +kernel
theorem dX8_copy_21 : decode cX8_copy 21 = .ok (.getfield 23, 3) := by decide +kernel
theorem dX8_copy_24 : decode cX8_copy 24 = .ok (.iload_n 1, 1) := by decide +kernel
theorem dX8_copy_25 : decode cX8_copy 25 = .ok (.aload_n 0, 1) := by decide +kernel
theorem dX8_copy_26 : decode cX8_copy 26 = .ok (.getfield 20, 3) := by decide +kernel
theorem dX8_copy_29 : decode cX8_copy 29 = .ok (.iload_n 1, 1) := by decide +kernel
theorem dX8_copy_30 : decode cX8_copy 30 = .ok (.iaload, 1) := by decide +kernel
theorem dX8_copy_31 : decode cX8_copy 31 = .ok (.iastore, 1) := by decide +kernel
theorem dX8_copy_32 : decode cX8_copy 32 = .ok (.iinc 1 1, 3) := by decide +kernel
theorem dX8_copy_35 : decode cX8_copy 35 = .ok (.goto (-23), 3) := by decide +kernel
theorem dX8_copy_38 : decode cX8_copy 38 = .ok (.aload_n 0, 1) := by decide +kernel
theorem dX8_copy_39 : decode cX8_copy 39 = .ok (.getfield 50, 3) := by decide +kernel
theorem dX8_copy_42 : decode cX8_copy 42 = .ok (.ireturn, 1) := by decide +kernel
theorem dX8_clashes_0 : decode cX8_clashes 0 = .ok (.iconst 0, 1) := by decide +kernel
theorem dX8_clashes_1 : decode cX8_clashes 1 = .ok (.istore_n 1, 1) := by decide +kernel
theorem dX8_clashes_2 : decode cX8_clashes 2 = .ok (.iconst 0, 1) := by decide +kernel
theorem dX8_clashes_3 : decode cX8_clashes 3 = .ok (.istore_n 2, 1) := by decide +kernel
theorem dX8_clashes_4 : decode cX8_clashes 4 = .ok (.iload_n 2, 1) := by decide +kernel
theorem dX8_clashes_5 : decode cX8_clashes 5 = .ok (.aload_n 0, 1) := by decide +kernel
theorem dX8_clashes_6 : decode cX8_clashes 6 = .ok (.getfield 50, 3) := by decide +kernel
theorem dX8_clashes_9 : decode cX8_clashes 9 = .ok (.if_icmp .ge 68, 3) := by decide +kernel
theorem dX8_clashes_12 : decode cX8_clashes 12 = .ok (.iload_n 2, 1) := by decide +kernel
theorem dX8_clashes_13 : decode cX8_clashes 13 = .ok (.iconst 1, 1) := by decide +kernel
theorem dX8_clashes_14 : decode cX8_clashes 14 = .ok (.iadd, 1) := by decide +kernel
theorem dX8_clashes_15 : decode cX8_clashes 15 = .ok (.istore_n 3, 1) := by decide +kernel
theorem dX8_clashes_16 : decode cX8_clashes 16 = .ok (.iload_n 3, 1) := by decide +kernel
theorem dX8_clashes_17 : decode cX8_clashes 17 = .ok (.aload_n 0, 1) := by decide +kernel
theorem dX8_clashes_18 : decode cX8_clashes 18 = .ok (.getfield 50, 3) := by decide +kernel
theorem dX8_clashes_21 : decode cX8_clashes 21 = .ok (.if_icmp .ge 50, 3) := by decide +kernel
theorem dX8_clashes_24 : decode cX8_clashes 24 = .ok (.iload_n 1, 1) := by decide +kernel
theorem dX8_clashes_25 : decode cX8_clashes 25 = .ok (.aload_n 0, 1) := by decide +kernel
theorem dX8_clashes_26 : decode cX8_clashes 26 = .ok (.iload_n 2, 1) := by decide +kernel
theorem dX8_clashes_27 : decode cX8_clashes 27 = .ok (.iload_n 3, 1) := by decide +kernel
theorem dX8_clashes_28 : decode cX8_clashes 28 = .ok (.invokevirtual 62, 3) := by decide +kernel
theorem dX8_clashes_31 : decode cX8_clashes 31 = .ok (.ifCond .eq 31, 3) := by decide +kernel
theorem dX8_clashes_34 : decode cX8_clashes 34 = .ok (.aload_n 0, 1) := by decide +kernel
theorem dX8_clashes_35 : decode cX8_clashes 35 = .ok (.getfield 23, 3) := by decide +kernel
theorem dX8_clashes_38 : decode cX8_clashes 38 = .ok (.iload_n 2, 1) := by decide +kernel
theorem dX8_clashes_39 : decode cX8_clashes 39 = .ok (.iaload, 1) := by decide +kernel
theorem dX8_clashes_40 : decode cX8_clashes 40 = .ok (.ifCond .lt 22, 3) := by decide +kernel
theorem dX8_clashes_43 : decode cX8_clashes 43 = .ok (.aload_n 0, 1) := by decide +kernel
theorem dX8_clashes_44 : decode cX8_clashes 44 = .ok (.getfield 23, 3) := by decide +kernel
theorem dX8_clashes_47 : decode cX8_clashes 47 = .ok (.iload_n 2, 1) := by decide +kernel
theorem dX8_clashes_48 : decode cX8_clashes 48 = .ok (.iaload, 1) := by decide +kernel
theorem dX8_clashes_49 : decode cX8_clashes 49 = .ok (.aload_n 0, 1) := by decide +kernel
theorem dX8_clashes_50 : decode cX8_clashes 50 = .ok (.getfield 23, 3) := by decide +kernel
theorem dX8_clashes_53 : decode cX8_clashes 53 = .ok (.iload_n 3, 1) := by decide +kernel
theorem dX8_clashes_54 : decode cX8_clashes 54 = .ok (.iaload, 1) := by decide +kernel
theorem dX8_clashes_55 : decode cX8_clashes 55 = .ok (.if_icmp .ne 7, 3) := by decide +kernel
theorem dX8_clashes_58 : decode cX8_clashes 58 = .ok (.iconst 1, 1) := by decide +kernel
theorem dX8_clashes_59 : decode cX8_clashes 59 = .ok (.goto 4, 3) := by decide +kernel
theorem dX8_clashes_62 : decode cX8_clashes 62 = .ok (.iconst 0, 1) := by decide +kernel
theorem dX8_clashes_63 : decode cX8_clashes 63 = .ok (.iadd, 1) := by decide +kernel
theorem dX8_clashes_64 : decode cX8_clashes 64 = .ok (.istore_n 1, 1) := by decide +kernel
theorem dX8_clashes_65 : decode cX8_clashes 65 = .ok (.iinc 3 1, 3) := by decide +kernel
theorem dX8_clashes_68 : decode cX8_clashes 68 = .ok (.goto (-52), 3) := by decide +kernel
theorem dX8_clashes_71 : decode cX8_clashes 71 = .ok (.iinc 2 1, 3) := by decide +kernel
theorem dX8_clashes_74 : decode cX8_clashes 74 = .ok (.goto (-70), 3) := by decide +kernel
theorem dX8_clashes_77 : decode cX8_clashes 77 = .ok (.iload_n 1, 1) := by decide +kernel
theorem dX8_clashes_78 : decode cX8_clashes 78 = .ok (.ireturn, 1) := by decide +kernel
theorem dX8_used_0 : decode cX8_used 0 = .ok (.iconst 0, 1) := by decide +kernel
theorem dX8_used_1 : decode cX8_used 1 = .ok (.istore_n 1, 1) := by decide +kernel
theorem dX8_used_2 : decode cX8_used 2 = .ok (.iconst 0, 1) := by decide +kernel
theorem dX8_used_3 : decode cX8_used 3 = .ok (.istore_n 2, 1) := by decide +kernel
theorem dX8_used_4 : decode cX8_used 4 = .ok (.iload_n 2, 1) := by decide +kernel
theorem dX8_used_5 : decode cX8_used 5 = .ok (.bipush 30, 2) := by decide +kernel
theorem dX8_used_7 : decode cX8_used 7 = .ok (.if_icmp .ge 62, 3) := by decide +kernel
theorem dX8_used_10 : decode cX8_used 10 = .ok (.iconst 0, 1) := by decide +kernel
theorem dX8_used_11 : decode cX8_used 11 = .ok (.istore_n 3, 1) := by decide +kernel
theorem dX8_used_12 : decode cX8_used 12 = .ok (.iconst 0, 1) := by decide +kernel
theorem dX8_used_13 : decode cX8_used 13 = .ok (.istore 4, 2) := by decide +kernel
theorem dX8_used_15 : decode cX8_used 15 = .ok (.iload 4, 2) := by decide +kernel
theorem dX8_used_17 : decode cX8_used 17 = .ok (.aload_n 0, 1) := by decide +kernel
theorem dX8_used_18 : decode cX8_used 18 = .ok (.getfield 50, 3) := by decide +kernel
theorem dX8_used_21 : decode cX8_used 21 = .ok (.if_icmp .ge 30, 3) := by decide +kernel
theorem dX8_used_24 : decode cX8_used 24 = .ok (.iload_n 3, 1) := by decide +kernel
theorem dX8_used_25 : decode cX8_used 25 = .ok (.ifCond .ne 14, 3) := by decide +kernel
theorem dX8_used_28 : decode cX8_used 28 = .ok (.aload_n 0, 1) := by decide +kernel
theorem dX8_used_29 : decode cX8_used 29 = .ok (.getfield 23, 3) := by decide +kernel
theorem dX8_used_32 : decode cX8_used 32 = .ok (.iload 4, 2) := by decide +kernel
theorem dX8_used_34 : decode cX8_used 34 = .ok (.iaload, 1) := by decide +kernel
theorem dX8_used_35 : decode cX8_used 35 = .ok (.iload_n 2, 1) := by decide +kernel
theorem dX8_used_36 : decode cX8_used 36 = .ok (.if_icmp .ne 7, 3) := by decide +kernel
theorem dX8_used_39 : decode cX8_used 39 = .ok (.iconst 1, 1) := by decide +kernel
theorem dX8_used_40 : decode cX8_used 40 = .ok (.goto 4, 3) := by decide +kernel
theorem dX8_used_43 : decode cX8_used 43 = .ok (.iconst 0, 1) := by decide +kernel
theorem dX8_used_44 : decode cX8_used 44 = .ok (.istore_n 3, 1) := by decide +kernel
theorem dX8_used_45 : decode cX8_used 45 = .ok (.iinc 4 1, 3) := by decide +kernel
theorem dX8_used_48 : decode cX8_used 48 = .ok (.goto (-33), 3) := by decide +kernel
theorem dX8_used_51 : decode cX8_used 51 = .ok (.iload_n 1, 1) := by decide +kernel
theorem dX8_used_52 : decode cX8_used 52 = .ok (.iload_n 3, 1) := by decide +kernel
theorem dX8_used_53 : decode cX8_used 53 = .ok (.ifCond .eq 7, 3) := by decide +kernel
theorem dX8_used_56 : decode cX8_used 56 = .ok (.iconst 1, 1) := by decide +kernel
theorem dX8_used_57 : decode cX8_used 57 = .ok (.goto 4, 3) := by decide +kernel
theorem dX8_used_60 : decode cX8_used 60 = .ok (.iconst 0, 1) := by decide +kernel
theorem dX8_used_61 : decode cX8_used 61 = .ok (.iadd, 1) := by decide +kernel
theorem dX8_used_62 : decode cX8_used 62 = .ok (.istore_n 1, 1) := by decide +kernel
theorem dX8_used_63 : decode cX8_used 63 = .ok (.iinc 2 1, 3) := by decide +kernel
theorem dX8_used_66 : decode cX8_used 66 = .ok (.goto (-62), 3) := by decide +kernel
theorem dX8_used_69 : decode cX8_used 69 = .ok (.iload_n 1, 1) := by decide +kernel
theorem dX8_used_70 : decode cX8_used 70 = .ok (.ireturn, 1) := by decide +kernel
theorem dX8_chain_0 : decode cX8_chain 0 = .ok (.aload_n 0, 1) := by decide +kernel
theorem dX8_chain_1 : decode cX8_chain 1 = .ok (.iload_n 1, 1) := by decide +kernel
theorem dX8_chain_2 : decode cX8_chain 2 = .ok (.invokevirtual 58, 3) := by decide +kernel
theorem dX8_chain_5 : decode cX8_chain 5 = .ok (.ifCond .eq 33, 3) := by decide +kernel
theorem dX8_chain_8 : decode cX8_chain 8 = .ok (.aload_n 0, 1) := by decide +kernel
theorem dX8_chain_9 : decode cX8_chain 9 = .ok (.getfield 23, 3) := by decide +kernel
theorem dX8_chain_12 : decode cX8_chain 12 = .ok (.iload_n 1, 1) := by decide +kernel
theorem dX8_chain_13 : decode cX8_chain 13 = .ok (.iaload, 1) := by decide +kernel
theorem dX8_chain_14 : decode cX8_chain 14 = .ok (.iconst (-1), 1) := by decide +kernel
theorem dX8_chain_15 : decode cX8_chain 15 = .ok (.if_icmp .eq 23, 3) := by decide +kernel
theorem dX8_chain_18 : decode cX8_chain 18 = .ok (.aload_n 0, 1) := by decide +kernel
theorem dX8_chain_19 : decode cX8_chain 19 = .ok (.getfield 23, 3) := by decide +kernel
theorem dX8_chain_22 : decode cX8_chain 22 = .ok (.iload_n 1, 1) := by decide +kernel
theorem dX8_chain_23 : decode cX8_chain 23 = .ok (.iaload, 1) := by decide +kernel
theorem dX8_chain_24 : decode cX8_chain 24 = .ok (.iload_n 2, 1) := by decide +kernel
theorem dX8_chain_25 : decode cX8_chain 25 = .ok (.if_icmp .eq 13, 3) := by decide +kernel
theorem dX8_chain_28 : decode cX8_chain 28 = .ok (.iload_n 2, 1) := by decide +kernel
theorem dX8_chain_29 : decode cX8_chain 29 = .ok (.ifCond .lt 9, 3) := by decide +kernel
theorem dX8_chain_32 : decode cX8_chain 32 = .ok (.iload_n 2, 1) := by decide +kernel
theorem dX8_chain_33 : decode cX8_chain 33 = .ok (.bipush 29, 2) := by decide +kernel
theorem dX8_chain_35 : decode cX8_chain 35 = .ok (.if_icmp .le 5, 3) := by decide +kernel
theorem dX8_chain_38 : decode cX8_chain 38 = .ok (.iconst (-1), 1) := by decide +kernel
theorem dX8_chain_39 : decode cX8_chain 39 = .ok (.ireturn, 1) := by decide +kernel
theorem dX8_chain_40 : decode cX8_chain 40 = .ok (.aload_n 0, 1) := by decide +kernel
theorem dX8_chain_41 : decode cX8_chain 41 = .ok (.getfield 23, 3) := by decide +kernel
theorem dX8_chain_44 : decode cX8_chain 44 = .ok (.iload_n 1, 1) := by decide +kernel
theorem dX8_chain_45 : decode cX8_chain 45 = .ok (.iaload, 1) := by decide +kernel
theorem dX8_chain_46 : decode cX8_chain 46 = .ok (.istore_n 3, 1) := by decide +kernel
theorem dX8_chain_47 : decode cX8_chain 47 = .ok (.aload_n 0, 1) := by decide +kernel
theorem dX8_chain_48 : decode cX8_chain 48 = .ok (.invokevirtual 93, 3) := by decide +kernel
theorem dX8_chain_51 : decode cX8_chain 51 = .ok (.aload_n 0, 1) := by decide +kernel
theorem dX8_chain_52 : decode cX8_chain 52 = .ok (.getfield 47, 3) := by decide +kernel
theorem dX8_chain_55 : decode cX8_chain 55 = .ok (.iload_n 1, 1) := by decide +kernel
theorem dX8_chain_56 : decode cX8_chain 56 = .ok (.iconst 1, 1) := by decide +kernel
theorem dX8_chain_57 : decode cX8_chain 57 = .ok (.bastore, 1) := by decide +kernel
theorem dX8_chain_58 : decode cX8_chain 58 = .ok (.iconst 0, 1) := by decide +kernel
theorem dX8_chain_59 : decode cX8_chain 59 = .ok (.istore 4, 2) := by decide +kernel
theorem dX8_chain_61 : decode cX8_chain 61 = .ok (.iload 4, 2) := by decide +kernel
theorem dX8_chain_63 : decode cX8_chain 63 = .ok (.aload_n 0, 1) := by decide +kernel
theorem dX8_chain_64 : decode cX8_chain 64 = .ok (.getfield 50, 3) := by decide +kernel
theorem dX8_chain_67 : decode cX8_chain 67 = .ok (.if_icmp .ge 122, 3) := by decide +kernel
theorem dX8_chain_70 : decode cX8_chain 70 = .ok (.iconst 0, 1) := by decide +kernel
theorem dX8_chain_71 : decode cX8_chain 71 = .ok (.istore 5, 2) := by decide +kernel
theorem dX8_chain_73 : decode cX8_chain 73 = .ok (.iload 5, 2) := by decide +kernel
theorem dX8_chain_75 : decode cX8_chain 75 = .ok (.aload_n 0, 1) := by decide +kernel
theorem dX8_chain_76 : decode cX8_chain 76 = .ok (.getfield 50, 3) := by decide +kernel
theorem dX8_chain_79 : decode cX8_chain 79 = .ok (.if_icmp .ge 104, 3) := by decide +kernel
theorem dX8_chain_82 : decode cX8_chain 82 = .ok (.iconst 0, 1) := by decide +kernel
theorem dX8_chain_83 : decode cX8_chain 83 = .ok (.istore 6, 2) := by decide +kernel
theorem dX8_chain_85 : decode cX8_chain 85 = .ok (.iload 6, 2) := by decide +kernel
theorem dX8_chain_87 : decode cX8_chain 87 = .ok (.aload_n 0, 1) := by decide +kernel
theorem dX8_chain_88 : decode cX8_chain 88 = .ok (.getfield 50, 3) := by decide +kernel
theorem dX8_chain_91 : decode cX8_chain 91 = .ok (.if_icmp .ge 86, 3) := by decide +kernel
theorem dX8_chain_94 : decode cX8_chain 94 = .ok (.aload_n 0, 1) := by decide +kernel
theorem dX8_chain_95 : decode cX8_chain 95 = .ok (.getfield 47, 3) := by decide +kernel
theorem dX8_chain_98 : decode cX8_chain 98 = .ok (.iload 5, 2) := by decide +kernel
theorem dX8_chain_100 : decode cX8_chain 100 = .ok (.baload, 1) := by decide +kernel
theorem dX8_chain_101 : decode cX8_chain 101 = .ok (.ifCond .eq 40, 3) := by decide +kernel
theorem dX8_chain_104 : decode cX8_chain 104 = .ok (.aload_n 0, 1) := by decide +kernel
theorem dX8_chain_105 : decode cX8_chain 105 = .ok (.iload 5, 2) := by decide +kernel
theorem dX8_chain_107 : decode cX8_chain 107 = .ok (.iload 6, 2) := by decide +kernel
theorem dX8_chain_109 : decode cX8_chain 109 = .ok (.invokevirtual 62, 3) := by decide +kernel
theorem dX8_chain_112 : decode cX8_chain 112 = .ok (.ifCond .eq 29, 3) := by decide +kernel
theorem dX8_chain_115 : decode cX8_chain 115 = .ok (.aload_n 0, 1) := by decide +kernel
theorem dX8_chain_116 : decode cX8_chain 116 = .ok (.getfield 23, 3) := by decide +kernel
theorem dX8_chain_119 : decode cX8_chain 119 = .ok (.iload 6, 2) := by decide +kernel
theorem dX8_chain_121 : decode cX8_chain 121 = .ok (.iaload, 1) := by decide +kernel
theorem dX8_chain_122 : decode cX8_chain 122 = .ok (.iload_n 3, 1) := by decide +kernel
theorem dX8_chain_123 : decode cX8_chain 123 = .ok (.if_icmp .eq 14, 3) := by decide +kernel
theorem dX8_chain_126 : decode cX8_chain 126 = .ok (.aload_n 0, 1) := by decide +kernel
theorem dX8_chain_127 : decode cX8_chain 127 = .ok (.getfield 23, 3) := by decide +kernel
theorem dX8_chain_130 : decode cX8_chain 130 = .ok (.iload 6, 2) := by decide +kernel
theorem dX8_chain_132 : decode cX8_chain 132 = .ok (.iaload, 1) := by decide +kernel
theorem dX8_chain_133 : decode cX8_chain 133 = .ok (.iload_n 2, 1) := by decide +kernel
theorem dX8_chain_134 : decode cX8_chain 134 = .ok (.if_icmp .ne 7, 3) := by decide +kernel
theorem dX8_chain_137 : decode cX8_chain 137 = .ok (.iconst 1, 1) := by decide +kernel
theorem dX8_chain_138 : decode cX8_chain 138 = .ok (.goto 4, 3) := by decide +kernel
theorem dX8_chain_141 : decode cX8_chain 141 = .ok (.iconst 0, 1) := by decide +kernel
theorem dX8_chain_142 : decode cX8_chain 142 = .ok (.istore 7, 2) := by decide +kernel
theorem dX8_chain_144 : decode cX8_chain 144 = .ok (.aload_n 0, 1) := by decide +kernel
theorem dX8_chain_145 : decode cX8_chain 145 = .ok (.getfield 47, 3) := by decide +kernel
theorem dX8_chain_148 : decode cX8_chain 148 = .ok (.iload 6, 2) := by decide +kernel
theorem dX8_chain_150 : decode cX8_chain 150 = .ok (.aload_n 0, 1) := by decide +kernel
theorem dX8_chain_151 : decode cX8_chain 151 = .ok (.getfield 47, 3) := by decide +kernel
theorem dX8_chain_154 : decode cX8_chain 154 = .ok (.iload 6, 2) := by decide +kernel
theorem dX8_chain_156 : decode cX8_chain 156 = .ok (.baload, 1) := by decide +kernel
theorem dX8_chain_157 : decode cX8_chain 157 = .ok (.ifCond .ne 8, 3) := by decide +kernel
theorem dX8_chain_160 : decode cX8_chain 160 = .ok (.iload 7, 2) := by decide +kernel
theorem dX8_chain_162 : decode cX8_chain 162 = .ok (.ifCond .eq 7, 3) := by decide +kernel
theorem dX8_chain_165 : decode cX8_chain 165 = .ok (.iconst 1, 1) := by decide +kernel
theorem dX8_chain_166 : decode cX8_chain 166 = .ok (.goto 4, 3) := by decide +kernel
theorem dX8_chain_169 : decode cX8_chain 169 = .ok (.iconst 0, 1) := by decide +kernel
theorem dX8_chain_170 : decode cX8_chain 170 = .ok (.bastore, 1) := by decide +kernel
theorem dX8_chain_171 : decode cX8_chain 171 = .ok (.iinc 6 1, 3) := by decide +kernel
theorem dX8_chain_174 : decode cX8_chain 174 = .ok (.goto (-89), 3) := by decide +kernel
theorem dX8_chain_177 : decode cX8_chain 177 = .ok (.iinc 5 1, 3) := by decide +kernel
theorem dX8_chain_180 : decode cX8_chain 180 = .ok (.goto (-107), 3) := by decide +kernel
theorem dX8_chain_183 : decode cX8_chain 183 = .ok (.iinc 4 1, 3) := by decide +kernel
theorem dX8_chain_186 : decode cX8_chain 186 = .ok (.goto (-125), 3) := by decide +kernel
theorem dX8_chain_189 : decode cX8_chain 189 = .ok (.iconst 0, 1) := by decide +kernel
theorem dX8_chain_190 : decode cX8_chain 190 = .ok (.istore 4, 2) := by decide +kernel
theorem dX8_chain_192 : decode cX8_chain 192 = .ok (.iconst 0, 1) := by decide +kernel
theorem dX8_chain_193 : decode cX8_chain 193 = .ok (.istore 5, 2) := by decide +kernel
theorem dX8_chain_195 : decode cX8_chain 195 = .ok (.iload 5, 2) := by decide +kernel
theorem dX8_chain_197 : decode cX8_chain 197 = .ok (.aload_n 0, 1) := by decide +kernel
theorem dX8_chain_198 : decode cX8_chain 198 = .ok (.getfield 50, 3) := by decide +kernel
theorem dX8_chain_201 : decode cX8_chain 201 = .ok (.if_icmp .ge 45, 3) := by decide +kernel
theorem dX8_chain_204 : decode cX8_chain 204 = .ok (.aload_n 0, 1) := by decide +kernel
theorem dX8_chain_205 : decode cX8_chain 205 = .ok (.getfield 47, 3) := by decide +kernel
theorem dX8_chain_208 : decode cX8_chain 208 = .ok (.iload 5, 2) := by decide +kernel
theorem dX8_chain_210 : decode cX8_chain 210 = .ok (.baload, 1) := by decide +kernel
theorem dX8_chain_211 : decode cX8_chain 211 = .ok (.ifCond .eq 29, 3) := by decide +kernel
theorem dX8_chain_214 : decode cX8_chain 214 = .ok (.aload_n 0, 1) := by decide +kernel
theorem dX8_chain_215 : decode cX8_chain 215 = .ok (.getfield 23, 3) := by decide +kernel
theorem dX8_chain_218 : decode cX8_chain 218 = .ok (.iload 5, 2) := by decide +kernel
theorem dX8_chain_220 : decode cX8_chain 220 = .ok (.aload_n 0, 1) := by decide +kernel
theorem dX8_chain_221 : decode cX8_chain 221 = .ok (.getfield 23, 3) := by decide +kernel
theorem dX8_chain_224 : decode cX8_chain 224 = .ok (.iload 5, 2) := by decide +kernel
theorem dX8_chain_226 : decode cX8_chain 226 = .ok (.iaload, 1) := by decide +kernel
theorem dX8_chain_227 : decode cX8_chain 227 = .ok (.iload_n 3, 1) := by decide +kernel
theorem dX8_chain_228 : decode cX8_chain 228 = .ok (.if_icmp .ne 7, 3) := by decide +kernel
theorem dX8_chain_231 : decode cX8_chain 231 = .ok (.iload_n 2, 1) := by decide +kernel
theorem dX8_chain_232 : decode cX8_chain 232 = .ok (.goto 4, 3) := by decide +kernel
theorem dX8_chain_235 : decode cX8_chain 235 = .ok (.iload_n 3, 1) := by decide +kernel
theorem dX8_chain_236 : decode cX8_chain 236 = .ok (.iastore, 1) := by decide +kernel
theorem dX8_chain_237 : decode cX8_chain 237 = .ok (.iinc 4 1, 3) := by decide +kernel
theorem dX8_chain_240 : decode cX8_chain 240 = .ok (.iinc 5 1, 3) := by decide +kernel
theorem dX8_chain_243 : decode cX8_chain 243 = .ok (.goto (-48), 3) := by decide +kernel
theorem dX8_chain_246 : decode cX8_chain 246 = .ok (.iload 4, 2) := by decide +kernel
theorem dX8_chain_248 : decode cX8_chain 248 = .ok (.ireturn, 1) := by decide +kernel
theorem dX8_saturation_0 : decode cX8_saturation 0 = .ok (.aload_n 0, 1) := by decide +kernel
theorem dX8_saturation_1 : decode cX8_saturation 1 = .ok (.iload_n 1, 1) := by decide +kernel
theorem dX8_saturation_2 : decode cX8_saturation 2 = .ok (.invokevirtual 58, 3) := by decide +kernel
theorem dX8_saturation_5 : decode cX8_saturation 5 = .ok (.ifCond .ne 5, 3) := by decide +kernel
theorem dX8_saturation_8 : decode cX8_saturation 8 = .ok (.iconst (-1), 1) := by decide +kernel
theorem dX8_saturation_9 : decode cX8_saturation 9 = .ok (.ireturn, 1) := by decide +kernel
theorem dX8_saturation_10 : decode cX8_saturation 10 = .ok (.iconst 0, 1) := by decide +kernel
theorem dX8_saturation_11 : decode cX8_saturation 11 = .ok (.istore_n 2, 1) := by decide +kernel
theorem dX8_saturation_12 : decode cX8_saturation 12 = .ok (.iconst 0, 1) := by decide +kernel
theorem dX8_saturation_13 : decode cX8_saturation 13 = .ok (.istore_n 3, 1) := by decide +kernel
theorem dX8_saturation_14 : decode cX8_saturation 14 = .ok (.iload_n 3, 1) := by decide +kernel
theorem dX8_saturation_15 : decode cX8_saturation 15 = .ok (.bipush 30, 2) := by decide +kernel
theorem dX8_saturation_17 : decode cX8_saturation 17 = .ok (.if_icmp .ge 76, 3) := by decide +kernel
theorem dX8_saturation_20 : decode cX8_saturation 20 = .ok (.iconst 0, 1) := by decide +kernel
theorem dX8_saturation_21 : decode cX8_saturation 21 = .ok (.istore 4, 2) := by decide +kernel
theorem dX8_saturation_23 : decode cX8_saturation 23 = .ok (.iconst 0, 1) := by decide +kernel
theorem dX8_saturation_24 : decode cX8_saturation 24 = .ok (.istore 5, 2) := by decide +kernel
theorem dX8_saturation_26 : decode cX8_saturation 26 = .ok (.iload 5, 2) := by decide +kernel
theorem dX8_saturation_28 : decode cX8_saturation 28 = .ok (.aload_n 0, 1) := by decide +kernel
theorem dX8_saturation_29 : decode cX8_saturation 29 = .ok (.getfield 50, 3) := by decide +kernel
theorem dX8_saturation_32 : decode cX8_saturation 32 = .ok (.if_icmp .ge 42, 3) := by decide +kernel
theorem dX8_saturation_35 : decode cX8_saturation 35 = .ok (.iload 4, 2) := by decide +kernel
theorem dX8_saturation_37 : decode cX8_saturation 37 = .ok (.ifCond .ne 24, 3) := by decide +kernel
theorem dX8_saturation_40 : decode cX8_saturation 40 = .ok (.aload_n 0, 1) := by decide +kernel
theorem dX8_saturation_41 : decode cX8_saturation 41 = .ok (.iload_n 1, 1) := by decide +kernel
theorem dX8_saturation_42 : decode cX8_saturation 42 = .ok (.iload 5, 2) := by decide +kernel
theorem dX8_saturation_44 : decode cX8_saturation 44 = .ok (.invokevirtual 62, 3) := by decide +kernel
theorem dX8_saturation_47 : decode cX8_saturation 47 = .ok (.ifCond .eq 18, 3) := by decide +kernel
theorem dX8_saturation_50 : decode cX8_saturation 50 = .ok (.aload_n 0, 1) := by decide +kernel
theorem dX8_saturation_51 : decode cX8_saturation 51 = .ok (.getfield 23, 3) := by decide +kernel
theorem dX8_saturation_54 : decode cX8_saturation 54 = .ok (.iload 5, 2) := by decide +kernel
theorem dX8_saturation_56 : decode cX8_saturation 56 = .ok (.iaload, 1) := by decide +kernel
theorem dX8_saturation_57 : decode cX8_saturation 57 = .ok (.iload_n 3, 1) := by decide +kernel
theorem dX8_saturation_58 : decode cX8_saturation 58 = .ok (.if_icmp .ne 7, 3) := by decide +kernel
theorem dX8_saturation_61 : decode cX8_saturation 61 = .ok (.iconst 1, 1) := by decide +kernel
theorem dX8_saturation_62 : decode cX8_saturation 62 = .ok (.goto 4, 3) := by decide +kernel
theorem dX8_saturation_65 : decode cX8_saturation 65 = .ok (.iconst 0, 1) := by decide +kernel
theorem dX8_saturation_66 : decode cX8_saturation 66 = .ok (.istore 4, 2) := by decide +kernel
theorem dX8_saturation_68 : decode cX8_saturation 68 = .ok (.iinc 5 1, 3) := by decide +kernel
theorem dX8_saturation_71 : decode cX8_saturation 71 = .ok (.goto (-45), 3) := by decide +kernel
theorem dX8_saturation_74 : decode cX8_saturation 74 = .ok (.iload_n 2, 1) := by decide +kernel
theorem dX8_saturation_75 : decode cX8_saturation 75 = .ok (.iload 4, 2) := by decide +kernel
theorem dX8_saturation_77 : decode cX8_saturation 77 = .ok (.ifCond .eq 7, 3) := by decide +kernel
theorem dX8_saturation_80 : decode cX8_saturation 80 = .ok (.iconst 1, 1) := by decide +kernel
theorem dX8_saturation_81 : decode cX8_saturation 81 = .ok (.goto 4, 3) := by decide +kernel
theorem dX8_saturation_84 : decode cX8_saturation 84 = .ok (.iconst 0, 1) := by decide +kernel
theorem dX8_saturation_85 : decode cX8_saturation 85 = .ok (.iadd, 1) := by decide +kernel
theorem dX8_saturation_86 : decode cX8_saturation 86 = .ok (.istore_n 2, 1) := by decide +kernel
theorem dX8_saturation_87 : decode cX8_saturation 87 = .ok (.iinc 3 1, 3) := by decide +kernel
theorem dX8_saturation_90 : decode cX8_saturation 90 = .ok (.goto (-76), 3) := by decide +kernel
theorem dX8_saturation_93 : decode cX8_saturation 93 = .ok (.iload_n 2, 1) := by decide +kernel
theorem dX8_saturation_94 : decode cX8_saturation 94 = .ok (.ireturn, 1) := by decide +kernel
