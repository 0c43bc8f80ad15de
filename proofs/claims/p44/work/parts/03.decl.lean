theorem dL_cell_0 : decode cL_cell 0 = .ok (.iload_n 1, 1) := by decide +kernel
theorem dL_cell_1 : decode cL_cell 1 = .ok (.aload_n 0, 1) := by decide +kernel
theorem dL_cell_2 : decode cL_cell 2 = .ok (.arraylength, 1) := by decide +kernel
theorem dL_cell_3 : decode cL_cell 3 = .ok (.if_icmp .ge 9, 3) := by decide +kernel
theorem dL_cell_6 : decode cL_cell 6 = .ok (.aload_n 0, 1) := by decide +kernel
theorem dL_cell_7 : decode cL_cell 7 = .ok (.iload_n 1, 1) := by decide +kernel
theorem dL_cell_8 : decode cL_cell 8 = .ok (.iaload, 1) := by decide +kernel
theorem dL_cell_9 : decode cL_cell 9 = .ok (.goto 12, 3) := by decide +kernel
theorem dL_cell_12 : decode cL_cell 12 = .ok (.ldc 7, 2) := by decide +kernel
theorem dL_cell_14 : decode cL_cell 14 = .ok (.iload_n 1, 1) := by decide +kernel
theorem dL_cell_15 : decode cL_cell 15 = .ok (.iconst 1, 1) := by decide +kernel
theorem dL_cell_16 : decode cL_cell 16 = .ok (.iadd, 1) := by decide +kernel
theorem dL_cell_17 : decode cL_cell 17 = .ok (.imul, 1) := by decide +kernel
theorem dL_cell_18 : decode cL_cell 18 = .ok (.ldc 8, 2) := by decide +kernel
theorem dL_cell_20 : decode cL_cell 20 = .ok (.iadd, 1) := by decide +kernel
theorem dL_cell_21 : decode cL_cell 21 = .ok (.ireturn, 1) := by decide +kernel
theorem dL_low_0 : decode cL_low 0 = .ok (.iload_n 0, 1) := by decide +kernel
theorem dL_low_1 : decode cL_low 1 = .ok (.ldc 9, 2) := by decide +kernel
theorem dL_low_3 : decode cL_low 3 = .ok (.iand, 1) := by decide +kernel
theorem dL_low_4 : decode cL_low 4 = .ok (.iload_n 1, 1) := by decide +kernel
theorem dL_low_5 : decode cL_low 5 = .ok (.irem, 1) := by decide +kernel
theorem dL_low_6 : decode cL_low 6 = .ok (.ireturn, 1) := by decide +kernel
theorem dL_ones_0 : decode cL_ones 0 = .ok (.iconst 0, 1) := by decide +kernel
theorem dL_ones_1 : decode cL_ones 1 = .ok (.istore_n 1, 1) := by decide +kernel
theorem dL_ones_2 : decode cL_ones 2 = .ok (.iload_n 0, 1) := by decide +kernel
theorem dL_ones_3 : decode cL_ones 3 = .ok (.istore_n 2, 1) := by decide +kernel
theorem dL_ones_4 : decode cL_ones 4 = .ok (.iload_n 2, 1) := by decide +kernel
theorem dL_ones_5 : decode cL_ones 5 = .ok (.ifCond .eq 15, 3) := by decide +kernel
theorem dL_ones_8 : decode cL_ones 8 = .ok (.iinc 1 1, 3) := by decide +kernel
theorem dL_ones_11 : decode cL_ones 11 = .ok (.iload_n 2, 1) := by decide +kernel
theorem dL_ones_12 : decode cL_ones 12 = .ok (.iload_n 2, 1) := by decide +kernel
theorem dL_ones_13 : decode cL_ones 13 = .ok (.iconst 1, 1) := by decide +kernel
theorem dL_ones_14 : decode cL_ones 14 = .ok (.isub, 1) := by decide +kernel
theorem dL_ones_15 : decode cL_ones 15 = .ok (.iand, 1) := by decide +kernel
theorem dL_ones_16 : decode cL_ones 16 = .ok (.istore_n 2, 1) := by decide +kernel
theorem dL_ones_17 : decode cL_ones 17 = .ok (.goto (-13), 3) := by decide +kernel
theorem dL_ones_20 : decode cL_ones 20 = .ok (.iload_n 1, 1) := by decide +kernel
theorem dL_ones_21 : decode cL_ones 21 = .ok (.ireturn, 1) := by decide +kernel
theorem dL_column_0 : decode cL_column 0 = .ok (.iconst 0, 1) := by decide +kernel
theorem dL_column_1 : decode cL_column 1 = .ok (.istore_n 3, 1) := by decide +kernel
theorem dL_column_2 : decode cL_column 2 = .ok (.iconst 0, 1) := by decide +kernel
theorem dL_column_3 : decode cL_column 3 = .ok (.istore 4, 2) := by decide +kernel
theorem dL_column_5 : decode cL_column 5 = .ok (.iload 4, 2) := by decide +kernel
theorem dL_column_7 : decode cL_column 7 = .ok (.aload_n 1, 1) := by decide +kernel
theorem dL_column_8 : decode cL_column 8 = .ok (.iconst 0, 1) := by decide +kernel
theorem dL_column_9 : decode cL_column 9 = .ok (.iaload, 1) := by decide +kernel
theorem dL_column_10 : decode cL_column 10 = .ok (.if_icmp .ge 23, 3) := by decide +kernel
theorem dL_column_13 : decode cL_column 13 = .ok (.iload_n 3, 1) := by decide +kernel
theorem dL_column_14 : decode cL_column 14 = .ok (.iconst 1, 1) := by decide +kernel
theorem dL_column_15 : decode cL_column 15 = .ok (.aload_n 2, 1) := by decide +kernel
theorem dL_column_16 : decode cL_column 16 = .ok (.bipush 6, 2) := by decide +kernel
theorem dL_column_18 : decode cL_column 18 = .ok (.iload 4, 2) := by decide +kernel
theorem dL_column_20 : decode cL_column 20 = .ok (.imul, 1) := by decide +kernel
theorem dL_column_21 : decode cL_column 21 = .ok (.iload_n 0, 1) := by decide +kernel
theorem dL_column_22 : decode cL_column 22 = .ok (.iadd, 1) := by decide +kernel
theorem dL_column_23 : decode cL_column 23 = .ok (.iaload, 1) := by decide +kernel
theorem dL_column_24 : decode cL_column 24 = .ok (.ishl, 1) := by decide +kernel
theorem dL_column_25 : decode cL_column 25 = .ok (.ior, 1) := by decide +kernel
theorem dL_column_26 : decode cL_column 26 = .ok (.istore_n 3, 1) := by decide +kernel
theorem dL_column_27 : decode cL_column 27 = .ok (.iinc 4 1, 3) := by decide +kernel
theorem dL_column_30 : decode cL_column 30 = .ok (.goto (-25), 3) := by decide +kernel
theorem dL_column_33 : decode cL_column 33 = .ok (.iload_n 3, 1) := by decide +kernel
theorem dL_column_34 : decode cL_column 34 = .ok (.ireturn, 1) := by decide +kernel
theorem dL_violation_0 : decode cL_violation 0 = .ok (.aload_n 1, 1) := by decide +kernel
theorem dL_violation_1 : decode cL_violation 1 = .ok (.iconst 0, 1) := by decide +kernel
theorem dL_violation_2 : decode cL_violation 2 = .ok (.iaload, 1) := by decide +kernel
theorem dL_violation_3 : decode cL_violation 3 = .ok (.istore_n 3, 1) := by decide +kernel
theorem dL_violation_4 : decode cL_violation 4 = .ok (.iconst 0, 1) := by decide +kernel
theorem dL_violation_5 : decode cL_violation 5 = .ok (.istore 4, 2) := by decide +kernel
theorem dL_violation_7 : decode cL_violation 7 = .ok (.iload 4, 2) := by decide +kernel
theorem dL_violation_9 : decode cL_violation 9 = .ok (.iload_n 3, 1) := by decide +kernel
theorem dL_violation_10 : decode cL_violation 10 = .ok (.if_icmp .ge 51, 3) := by decide +kernel
theorem dL_violation_13 : decode cL_violation 13 = .ok (.iload_n 0, 1) := by decide +kernel
theorem dL_violation_14 : decode cL_violation 14 = .ok (.iconst 3, 1) := by decide +kernel
theorem dL_violation_15 : decode cL_violation 15 = .ok (.if_icmp .ge 46, 3) := by decide +kernel
theorem dL_violation_18 : decode cL_violation 18 = .ok (.iload_n 0, 1) := by decide +kernel
theorem dL_violation_19 : decode cL_violation 19 = .ok (.iconst 1, 1) := by decide +kernel
theorem dL_violation_20 : decode cL_violation 20 = .ok (.if_icmp .ne 18, 3) := by decide +kernel
theorem dL_violation_23 : decode cL_violation 23 = .ok (.aload_n 2, 1) := by decide +kernel
theorem dL_violation_24 : decode cL_violation 24 = .ok (.bipush 7, 2) := by decide +kernel
theorem dL_violation_26 : decode cL_violation 26 = .ok (.iload 4, 2) := by decide +kernel
theorem dL_violation_28 : decode cL_violation 28 = .ok (.imul, 1) := by decide +kernel
theorem dL_violation_29 : decode cL_violation 29 = .ok (.iaload, 1) := by decide +kernel
theorem dL_violation_30 : decode cL_violation 30 = .ok (.iload 4, 2) := by decide +kernel
theorem dL_violation_32 : decode cL_violation 32 = .ok (.if_icmp .eq 23, 3) := by decide +kernel
theorem dL_violation_35 : decode cL_violation 35 = .ok (.goto 17, 3) := by decide +kernel
theorem dL_violation_38 : decode cL_violation 38 = .ok (.iload 4, 2) := by decide +kernel
theorem dL_violation_40 : decode cL_violation 40 = .ok (.aload_n 1, 1) := by decide +kernel
theorem dL_violation_41 : decode cL_violation 41 = .ok (.aload_n 2, 1) := by decide +kernel
theorem dL_violation_42 : decode cL_violation 42 = .ok (.invokestatic 10, 3) := by decide +kernel
theorem dL_violation_45 : decode cL_violation 45 = .ok (.invokestatic 16, 3) := by decide +kernel
theorem dL_violation_48 : decode cL_violation 48 = .ok (.iload_n 3, 1) := by decide +kernel
theorem dL_violation_49 : decode cL_violation 49 = .ok (.if_icmp .ge 6, 3) := by decide +kernel
theorem dL_violation_52 : decode cL_violation 52 = .ok (.iload 4, 2) := by decide +kernel
theorem dL_violation_54 : decode cL_violation 54 = .ok (.ireturn, 1) := by decide +kernel
theorem dL_violation_55 : decode cL_violation 55 = .ok (.iinc 4 1, 3) := by decide +kernel
theorem dL_violation_58 : decode cL_violation 58 = .ok (.goto (-51), 3) := by decide +kernel
theorem dL_violation_61 : decode cL_violation 61 = .ok (.iconst 0, 1) := by decide +kernel
theorem dL_violation_62 : decode cL_violation 62 = .ok (.istore 4, 2) := by decide +kernel
theorem dL_violation_64 : decode cL_violation 64 = .ok (.iload 4, 2) := by decide +kernel
theorem dL_violation_66 : decode cL_violation 66 = .ok (.iload_n 3, 1) := by decide +kernel
theorem dL_violation_67 : decode cL_violation 67 = .ok (.iload_n 3, 1) := by decide +kernel
theorem dL_violation_68 : decode cL_violation 68 = .ok (.imul, 1) := by decide +kernel
theorem dL_violation_69 : decode cL_violation 69 = .ok (.iload_n 3, 1) := by decide +kernel
theorem dL_violation_70 : decode cL_violation 70 = .ok (.imul, 1) := by decide +kernel
theorem dL_violation_71 : decode cL_violation 71 = .ok (.if_icmp .ge 98, 3) := by decide +kernel
theorem dL_violation_74 : decode cL_violation 74 = .ok (.iload_n 0, 1) := by decide +kernel
theorem dL_violation_75 : decode cL_violation 75 = .ok (.iconst 3, 1) := by decide +kernel
theorem dL_violation_76 : decode cL_violation 76 = .ok (.if_icmp .ne 93, 3) := by decide +kernel
theorem dL_violation_79 : decode cL_violation 79 = .ok (.iload 4, 2) := by decide +kernel
theorem dL_violation_81 : decode cL_violation 81 = .ok (.iload_n 3, 1) := by decide +kernel
theorem dL_violation_82 : decode cL_violation 82 = .ok (.iload_n 3, 1) := by decide +kernel
theorem dL_violation_83 : decode cL_violation 83 = .ok (.imul, 1) := by decide +kernel
theorem dL_violation_84 : decode cL_violation 84 = .ok (.idiv, 1) := by decide +kernel
theorem dL_violation_85 : decode cL_violation 85 = .ok (.istore 5, 2) := by decide +kernel
theorem dL_violation_87 : decode cL_violation 87 = .ok (.iload 4, 2) := by decide +kernel
theorem dL_violation_89 : decode cL_violation 89 = .ok (.iload_n 3, 1) := by decide +kernel
theorem dL_violation_90 : decode cL_violation 90 = .ok (.idiv, 1) := by decide +kernel
theorem dL_violation_91 : decode cL_violation 91 = .ok (.iload_n 3, 1) := by decide +kernel
theorem dL_violation_92 : decode cL_violation 92 = .ok (.irem, 1) := by decide +kernel
theorem dL_violation_93 : decode cL_violation 93 = .ok (.istore 6, 2) := by decide +kernel
theorem dL_violation_95 : decode cL_violation 95 = .ok (.iload 4, 2) := by decide +kernel
theorem dL_violation_97 : decode cL_violation 97 = .ok (.iload_n 3, 1) := by decide +kernel
theorem dL_violation_98 : decode cL_violation 98 = .ok (.irem, 1) := by decide +kernel
theorem dL_violation_99 : decode cL_violation 99 = .ok (.istore 7, 2) := by decide +kernel
theorem dL_violation_101 : decode cL_violation 101 = .ok (.aload_n 2, 1) := by decide +kernel
theorem dL_violation_102 : decode cL_violation 102 = .ok (.bipush 6, 2) := by decide +kernel
theorem dL_violation_104 : decode cL_violation 104 = .ok (.aload_n 2, 1) := by decide +kernel
theorem dL_violation_105 : decode cL_violation 105 = .ok (.bipush 6, 2) := by decide +kernel
theorem dL_violation_107 : decode cL_violation 107 = .ok (.iload 5, 2) := by decide +kernel
theorem dL_violation_109 : decode cL_violation 109 = .ok (.imul, 1) := by decide +kernel
theorem dL_violation_110 : decode cL_violation 110 = .ok (.iload 6, 2) := by decide +kernel
theorem dL_violation_112 : decode cL_violation 112 = .ok (.iadd, 1) := by decide +kernel
theorem dL_violation_113 : decode cL_violation 113 = .ok (.iaload, 1) := by decide +kernel
theorem dL_violation_114 : decode cL_violation 114 = .ok (.imul, 1) := by decide +kernel
theorem dL_violation_115 : decode cL_violation 115 = .ok (.iload 7, 2) := by decide +kernel
theorem dL_violation_117 : decode cL_violation 117 = .ok (.iadd, 1) := by decide +kernel
theorem dL_violation_118 : decode cL_violation 118 = .ok (.iaload, 1) := by decide +kernel
theorem dL_violation_119 : decode cL_violation 119 = .ok (.aload_n 2, 1) := by decide +kernel
theorem dL_violation_120 : decode cL_violation 120 = .ok (.bipush 6, 2) := by decide +kernel
theorem dL_violation_122 : decode cL_violation 122 = .ok (.aload_n 2, 1) := by decide +kernel
theorem dL_violation_123 : decode cL_violation 123 = .ok (.bipush 6, 2) := by decide +kernel
theorem dL_violation_125 : decode cL_violation 125 = .ok (.iload 5, 2) := by decide +kernel
theorem dL_violation_127 : decode cL_violation 127 = .ok (.imul, 1) := by decide +kernel
theorem dL_violation_128 : decode cL_violation 128 = .ok (.iload 7, 2) := by decide +kernel
theorem dL_violation_130 : decode cL_violation 130 = .ok (.iadd, 1) := by decide +kernel
theorem dL_violation_131 : decode cL_violation 131 = .ok (.iaload, 1) := by decide +kernel
theorem dL_violation_132 : decode cL_violation 132 = .ok (.imul, 1) := by decide +kernel
theorem dL_violation_133 : decode cL_violation 133 = .ok (.aload_n 2, 1) := by decide +kernel
theorem dL_violation_134 : decode cL_violation 134 = .ok (.bipush 6, 2) := by decide +kernel
theorem dL_violation_136 : decode cL_violation 136 = .ok (.iload 6, 2) := by decide +kernel
theorem dL_violation_138 : decode cL_violation 138 = .ok (.imul, 1) := by decide +kernel
theorem dL_violation_139 : decode cL_violation 139 = .ok (.iload 7, 2) := by decide +kernel
theorem dL_violation_141 : decode cL_violation 141 = .ok (.iadd, 1) := by decide +kernel
theorem dL_violation_142 : decode cL_violation 142 = .ok (.iaload, 1) := by decide +kernel
theorem dL_violation_143 : decode cL_violation 143 = .ok (.iadd, 1) := by decide +kernel
theorem dL_violation_144 : decode cL_violation 144 = .ok (.iaload, 1) := by decide +kernel
theorem dL_violation_145 : decode cL_violation 145 = .ok (.if_icmp .eq 18, 3) := by decide +kernel
theorem dL_violation_148 : decode cL_violation 148 = .ok (.bipush 100, 2) := by decide +kernel
theorem dL_violation_150 : decode cL_violation 150 = .ok (.iload 5, 2) := by decide +kernel
theorem dL_violation_152 : decode cL_violation 152 = .ok (.imul, 1) := by decide +kernel
theorem dL_violation_153 : decode cL_violation 153 = .ok (.bipush 10, 2) := by decide +kernel
theorem dL_violation_155 : decode cL_violation 155 = .ok (.iload 6, 2) := by decide +kernel
theorem dL_violation_157 : decode cL_violation 157 = .ok (.imul, 1) := by decide +kernel
theorem dL_violation_158 : decode cL_violation 158 = .ok (.iadd, 1) := by decide +kernel
theorem dL_violation_159 : decode cL_violation 159 = .ok (.iload 7, 2) := by decide +kernel
theorem dL_violation_161 : decode cL_violation 161 = .ok (.iadd, 1) := by decide +kernel
theorem dL_violation_162 : decode cL_violation 162 = .ok (.ireturn, 1) := by decide +kernel
theorem dL_violation_163 : decode cL_violation 163 = .ok (.iinc 4 1, 3) := by decide +kernel
theorem dL_violation_166 : decode cL_violation 166 = .ok (.goto (-102), 3) := by decide +kernel
theorem dL_violation_169 : decode cL_violation 169 = .ok (.bipush (-6), 2) := by decide +kernel
theorem dL_violation_171 : decode cL_violation 171 = .ok (.ireturn, 1) := by decide +kernel
theorem dL_closure_0 : decode cL_closure 0 = .ok (.iload_n 0, 1) := by decide +kernel
theorem dL_closure_1 : decode cL_closure 1 = .ok (.istore_n 3, 1) := by decide +kernel
theorem dL_closure_2 : decode cL_closure 2 = .ok (.iconst (-1), 1) := by decide +kernel
theorem dL_closure_3 : decode cL_closure 3 = .ok (.istore 4, 2) := by decide +kernel
theorem dL_closure_5 : decode cL_closure 5 = .ok (.iload_n 3, 1) := by decide +kernel
theorem dL_closure_6 : decode cL_closure 6 = .ok (.iload 4, 2) := by decide +kernel
theorem dL_closure_8 : decode cL_closure 8 = .ok (.if_icmp .eq 55, 3) := by decide +kernel
theorem dL_closure_11 : decode cL_closure 11 = .ok (.iload_n 3, 1) := by decide +kernel
theorem dL_closure_12 : decode cL_closure 12 = .ok (.istore 4, 2) := by decide +kernel
theorem dL_closure_14 : decode cL_closure 14 = .ok (.iconst 0, 1) := by decide +kernel
theorem dL_closure_15 : decode cL_closure 15 = .ok (.istore 5, 2) := by decide +kernel
theorem dL_closure_17 : decode cL_closure 17 = .ok (.iload 5, 2) := by decide +kernel
theorem dL_closure_19 : decode cL_closure 19 = .ok (.bipush 36, 2) := by decide +kernel
theorem dL_closure_21 : decode cL_closure 21 = .ok (.if_icmp .ge 39, 3) := by decide +kernel
theorem dL_closure_24 : decode cL_closure 24 = .ok (.iload_n 3, 1) := by decide +kernel
theorem dL_closure_25 : decode cL_closure 25 = .ok (.iload 5, 2) := by decide +kernel
theorem dL_closure_27 : decode cL_closure 27 = .ok (.bipush 6, 2) := by decide +kernel
theorem dL_closure_29 : decode cL_closure 29 = .ok (.idiv, 1) := by decide +kernel
theorem dL_closure_30 : decode cL_closure 30 = .ok (.ishr, 1) := by decide +kernel
theorem dL_closure_31 : decode cL_closure 31 = .ok (.iload_n 3, 1) := by decide +kernel
theorem dL_closure_32 : decode cL_closure 32 = .ok (.iload 5, 2) := by decide +kernel
theorem dL_closure_34 : decode cL_closure 34 = .ok (.bipush 6, 2) := by decide +kernel
theorem dL_closure_36 : decode cL_closure 36 = .ok (.irem, 1) := by decide +kernel
theorem dL_closure_37 : decode cL_closure 37 = .ok (.ishr, 1) := by decide +kernel
theorem dL_closure_38 : decode cL_closure 38 = .ok (.iand, 1) := by decide +kernel
theorem dL_closure_39 : decode cL_closure 39 = .ok (.iconst 1, 1) := by decide +kernel
theorem dL_closure_40 : decode cL_closure 40 = .ok (.iand, 1) := by decide +kernel
theorem dL_closure_41 : decode cL_closure 41 = .ok (.iconst 1, 1) := by decide +kernel
theorem dL_closure_42 : decode cL_closure 42 = .ok (.if_icmp .ne 12, 3) := by decide +kernel
theorem dL_closure_45 : decode cL_closure 45 = .ok (.iload_n 3, 1) := by decide +kernel
theorem dL_closure_46 : decode cL_closure 46 = .ok (.iconst 1, 1) := by decide +kernel
theorem dL_closure_47 : decode cL_closure 47 = .ok (.aload_n 2, 1) := by decide +kernel
theorem dL_closure_48 : decode cL_closure 48 = .ok (.iload 5, 2) := by decide +kernel
theorem dL_closure_50 : decode cL_closure 50 = .ok (.iaload, 1) := by decide +kernel
theorem dL_closure_51 : decode cL_closure 51 = .ok (.ishl, 1) := by decide +kernel
theorem dL_closure_52 : decode cL_closure 52 = .ok (.ior, 1) := by decide +kernel
theorem dL_closure_53 : decode cL_closure 53 = .ok (.istore_n 3, 1) := by decide +kernel
theorem dL_closure_54 : decode cL_closure 54 = .ok (.iinc 5 1, 3) := by decide +kernel
theorem dL_closure_57 : decode cL_closure 57 = .ok (.goto (-40), 3) := by decide +kernel
theorem dL_closure_60 : decode cL_closure 60 = .ok (.goto (-55), 3) := by decide +kernel
theorem dL_closure_63 : decode cL_closure 63 = .ok (.iload_n 3, 1) := by decide +kernel
theorem dL_closure_64 : decode cL_closure 64 = .ok (.ireturn, 1) := by decide +kernel
theorem dL_reach_0 : decode cL_reach 0 = .ok (.iload_n 0, 1) := by decide +kernel
theorem dL_reach_1 : decode cL_reach 1 = .ok (.istore 4, 2) := by decide +kernel
theorem dL_reach_3 : decode cL_reach 3 = .ok (.iconst (-1), 1) := by decide +kernel
theorem dL_reach_4 : decode cL_reach 4 = .ok (.istore 5, 2) := by decide +kernel
theorem dL_reach_6 : decode cL_reach 6 = .ok (.iload 4, 2) := by decide +kernel
theorem dL_reach_8 : decode cL_reach 8 = .ok (.iload 5, 2) := by decide +kernel
theorem dL_reach_10 : decode cL_reach 10 = .ok (.if_icmp .eq 104, 3) := by decide +kernel
theorem dL_reach_13 : decode cL_reach 13 = .ok (.iload 4, 2) := by decide +kernel
theorem dL_reach_15 : decode cL_reach 15 = .ok (.istore 5, 2) := by decide +kernel
theorem dL_reach_17 : decode cL_reach 17 = .ok (.iconst 0, 1) := by decide +kernel
theorem dL_reach_18 : decode cL_reach 18 = .ok (.istore 6, 2) := by decide +kernel
theorem dL_reach_20 : decode cL_reach 20 = .ok (.iload 6, 2) := by decide +kernel
theorem dL_reach_22 : decode cL_reach 22 = .ok (.aload_n 2, 1) := by decide +kernel
theorem dL_reach_23 : decode cL_reach 23 = .ok (.iconst 0, 1) := by decide +kernel
theorem dL_reach_24 : decode cL_reach 24 = .ok (.iaload, 1) := by decide +kernel
theorem dL_reach_25 : decode cL_reach 25 = .ok (.if_icmp .ge 86, 3) := by decide +kernel
theorem dL_reach_28 : decode cL_reach 28 = .ok (.iconst 0, 1) := by decide +kernel
theorem dL_reach_29 : decode cL_reach 29 = .ok (.istore 7, 2) := by decide +kernel
theorem dL_reach_31 : decode cL_reach 31 = .ok (.iload 7, 2) := by decide +kernel
theorem dL_reach_33 : decode cL_reach 33 = .ok (.aload_n 2, 1) := by decide +kernel
theorem dL_reach_34 : decode cL_reach 34 = .ok (.iconst 0, 1) := by decide +kernel
theorem dL_reach_35 : decode cL_reach 35 = .ok (.iaload, 1) := by decide +kernel
theorem dL_reach_36 : decode cL_reach 36 = .ok (.if_icmp .ge 69, 3) := by decide +kernel
theorem dL_reach_39 : decode cL_reach 39 = .ok (.iload 4, 2) := by decide +kernel
theorem dL_reach_41 : decode cL_reach 41 = .ok (.iload 6, 2) := by decide +kernel
theorem dL_reach_43 : decode cL_reach 43 = .ok (.ishr, 1) := by decide +kernel
theorem dL_reach_44 : decode cL_reach 44 = .ok (.iconst 1, 1) := by decide +kernel
theorem dL_reach_45 : decode cL_reach 45 = .ok (.iand, 1) := by decide +kernel
theorem dL_reach_46 : decode cL_reach 46 = .ok (.iconst 1, 1) := by decide +kernel
theorem dL_reach_47 : decode cL_reach 47 = .ok (.if_icmp .ne 20, 3) := by decide +kernel
theorem dL_reach_50 : decode cL_reach 50 = .ok (.iload 4, 2) := by decide +kernel
theorem dL_reach_52 : decode cL_reach 52 = .ok (.iconst 1, 1) := by decide +kernel
theorem dL_reach_53 : decode cL_reach 53 = .ok (.aload_n 3, 1) := by decide +kernel
theorem dL_reach_54 : decode cL_reach 54 = .ok (.bipush 6, 2) := by decide +kernel
theorem dL_reach_56 : decode cL_reach 56 = .ok (.iload 6, 2) := by decide +kernel
theorem dL_reach_58 : decode cL_reach 58 = .ok (.imul, 1) := by decide +kernel
theorem dL_reach_59 : decode cL_reach 59 = .ok (.iload 7, 2) := by decide +kernel
theorem dL_reach_61 : decode cL_reach 61 = .ok (.iadd, 1) := by decide +kernel
theorem dL_reach_62 : decode cL_reach 62 = .ok (.iaload, 1) := by decide +kernel
theorem dL_reach_63 : decode cL_reach 63 = .ok (.ishl, 1) := by decide +kernel
theorem dL_reach_64 : decode cL_reach 64 = .ok (.ior, 1) := by decide +kernel
theorem dL_reach_65 : decode cL_reach 65 = .ok (.istore 4, 2) := by decide +kernel
theorem dL_reach_67 : decode cL_reach 67 = .ok (.iload_n 1, 1) := by decide +kernel
theorem dL_reach_68 : decode cL_reach 68 = .ok (.ifCond .eq 31, 3) := by decide +kernel
theorem dL_reach_71 : decode cL_reach 71 = .ok (.iload 4, 2) := by decide +kernel
theorem dL_reach_73 : decode cL_reach 73 = .ok (.aload_n 3, 1) := by decide +kernel
theorem dL_reach_74 : decode cL_reach 74 = .ok (.bipush 6, 2) := by decide +kernel
theorem dL_reach_76 : decode cL_reach 76 = .ok (.iload 6, 2) := by decide +kernel
theorem dL_reach_78 : decode cL_reach 78 = .ok (.imul, 1) := by decide +kernel
theorem dL_reach_79 : decode cL_reach 79 = .ok (.iload 7, 2) := by decide +kernel
theorem dL_reach_81 : decode cL_reach 81 = .ok (.iadd, 1) := by decide +kernel
theorem dL_reach_82 : decode cL_reach 82 = .ok (.iaload, 1) := by decide +kernel
theorem dL_reach_83 : decode cL_reach 83 = .ok (.ishr, 1) := by decide +kernel
theorem dL_reach_84 : decode cL_reach 84 = .ok (.iconst 1, 1) := by decide +kernel
theorem dL_reach_85 : decode cL_reach 85 = .ok (.iand, 1) := by decide +kernel
theorem dL_reach_86 : decode cL_reach 86 = .ok (.iconst 1, 1) := by decide +kernel
theorem dL_reach_87 : decode cL_reach 87 = .ok (.if_icmp .ne 12, 3) := by decide +kernel
theorem dL_reach_90 : decode cL_reach 90 = .ok (.iload 4, 2) := by decide +kernel
theorem dL_reach_92 : decode cL_reach 92 = .ok (.iconst 1, 1) := by decide +kernel
theorem dL_reach_93 : decode cL_reach 93 = .ok (.iload 6, 2) := by decide +kernel
theorem dL_reach_95 : decode cL_reach 95 = .ok (.ishl, 1) := by decide +kernel
theorem dL_reach_96 : decode cL_reach 96 = .ok (.ior, 1) := by decide +kernel
theorem dL_reach_97 : decode cL_reach 97 = .ok (.istore 4, 2) := by decide +kernel
theorem dL_reach_99 : decode cL_reach 99 = .ok (.iinc 7 1, 3) := by decide +kernel
theorem dL_reach_102 : decode cL_reach 102 = .ok (.goto (-71), 3) := by decide +kernel
theorem dL_reach_105 : decode cL_reach 105 = .ok (.iinc 6 1, 3) := by decide +kernel
theorem dL_reach_108 : decode cL_reach 108 = .ok (.goto (-88), 3) := by decide +kernel
theorem dL_reach_111 : decode cL_reach 111 = .ok (.goto (-105), 3) := by decide +kernel
theorem dL_reach_114 : decode cL_reach 114 = .ok (.iload 4, 2) := by decide +kernel
theorem dL_reach_116 : decode cL_reach 116 = .ok (.ireturn, 1) := by decide +kernel
theorem dL_order_0 : decode cL_order 0 = .ok (.iload_n 0, 1) := by decide +kernel
theorem dL_order_1 : decode cL_order 1 = .ok (.aload_n 1, 1) := by decide +kernel
theorem dL_order_2 : decode cL_order 2 = .ok (.aload_n 2, 1) := by decide +kernel
theorem dL_order_3 : decode cL_order 3 = .ok (.invokestatic 10, 3) := by decide +kernel
theorem dL_order_6 : decode cL_order 6 = .ok (.invokestatic 16, 3) := by decide +kernel
theorem dL_order_9 : decode cL_order 9 = .ok (.aload_n 1, 1) := by decide +kernel
theorem dL_order_10 : decode cL_order 10 = .ok (.iconst 0, 1) := by decide +kernel
theorem dL_order_11 : decode cL_order 11 = .ok (.iaload, 1) := by decide +kernel
theorem dL_order_12 : decode cL_order 12 = .ok (.if_icmp .ge 6, 3) := by decide +kernel
theorem dL_order_15 : decode cL_order 15 = .ok (.bipush (-6), 2) := by decide +kernel
theorem dL_order_17 : decode cL_order 17 = .ok (.ireturn, 1) := by decide +kernel
theorem dL_order_18 : decode cL_order 18 = .ok (.iconst 0, 1) := by decide +kernel
theorem dL_order_19 : decode cL_order 19 = .ok (.istore_n 3, 1) := by decide +kernel
theorem dL_order_20 : decode cL_order 20 = .ok (.iinc 3 1, 3) := by decide +kernel
theorem dL_order_23 : decode cL_order 23 = .ok (.iconst 1, 1) := by decide +kernel
theorem dL_order_24 : decode cL_order 24 = .ok (.istore 4, 2) := by decide +kernel
theorem dL_order_26 : decode cL_order 26 = .ok (.iconst 0, 1) := by decide +kernel
theorem dL_order_27 : decode cL_order 27 = .ok (.istore 5, 2) := by decide +kernel
theorem dL_order_29 : decode cL_order 29 = .ok (.iload 5, 2) := by decide +kernel
theorem dL_order_31 : decode cL_order 31 = .ok (.aload_n 1, 1) := by decide +kernel
theorem dL_order_32 : decode cL_order 32 = .ok (.iconst 0, 1) := by decide +kernel
theorem dL_order_33 : decode cL_order 33 = .ok (.iaload, 1) := by decide +kernel
theorem dL_order_34 : decode cL_order 34 = .ok (.if_icmp .ge 58, 3) := by decide +kernel
theorem dL_order_37 : decode cL_order 37 = .ok (.iload 5, 2) := by decide +kernel
theorem dL_order_39 : decode cL_order 39 = .ok (.istore 6, 2) := by decide +kernel
theorem dL_order_41 : decode cL_order 41 = .ok (.iconst 0, 1) := by decide +kernel
theorem dL_order_42 : decode cL_order 42 = .ok (.istore 7, 2) := by decide +kernel
theorem dL_order_44 : decode cL_order 44 = .ok (.iload 7, 2) := by decide +kernel
theorem dL_order_46 : decode cL_order 46 = .ok (.iload_n 3, 1) := by decide +kernel
theorem dL_order_47 : decode cL_order 47 = .ok (.if_icmp .ge 20, 3) := by decide +kernel
theorem dL_order_50 : decode cL_order 50 = .ok (.aload_n 2, 1) := by decide +kernel
theorem dL_order_51 : decode cL_order 51 = .ok (.bipush 6, 2) := by decide +kernel
theorem dL_order_53 : decode cL_order 53 = .ok (.iload 6, 2) := by decide +kernel
theorem dL_order_55 : decode cL_order 55 = .ok (.imul, 1) := by decide +kernel
theorem dL_order_56 : decode cL_order 56 = .ok (.iload_n 0, 1) := by decide +kernel
theorem dL_order_57 : decode cL_order 57 = .ok (.iadd, 1) := by decide +kernel
theorem dL_order_58 : decode cL_order 58 = .ok (.iaload, 1) := by decide +kernel
theorem dL_order_59 : decode cL_order 59 = .ok (.istore 6, 2) := by decide +kernel
theorem dL_order_61 : decode cL_order 61 = .ok (.iinc 7 1, 3) := by decide +kernel
theorem dL_order_64 : decode cL_order 64 = .ok (.goto (-20), 3) := by decide +kernel
theorem dL_order_67 : decode cL_order 67 = .ok (.iload 4, 2) := by decide +kernel
theorem dL_order_69 : decode cL_order 69 = .ok (.ifCond .eq 14, 3) := by decide +kernel
theorem dL_order_72 : decode cL_order 72 = .ok (.iload 6, 2) := by decide +kernel
theorem dL_order_74 : decode cL_order 74 = .ok (.iload 5, 2) := by decide +kernel
theorem dL_order_76 : decode cL_order 76 = .ok (.if_icmp .ne 7, 3) := by decide +kernel
theorem dL_order_79 : decode cL_order 79 = .ok (.iconst 1, 1) := by decide +kernel
theorem dL_order_80 : decode cL_order 80 = .ok (.goto 4, 3) := by decide +kernel
theorem dL_order_83 : decode cL_order 83 = .ok (.iconst 0, 1) := by decide +kernel
theorem dL_order_84 : decode cL_order 84 = .ok (.istore 4, 2) := by decide +kernel
theorem dL_order_86 : decode cL_order 86 = .ok (.iinc 5 1, 3) := by decide +kernel
theorem dL_order_89 : decode cL_order 89 = .ok (.goto (-60), 3) := by decide +kernel
theorem dL_order_92 : decode cL_order 92 = .ok (.iload 4, 2) := by decide +kernel
theorem dL_order_94 : decode cL_order 94 = .ok (.ifCond .eq 5, 3) := by decide +kernel
theorem dL_order_97 : decode cL_order 97 = .ok (.iload_n 3, 1) := by decide +kernel
theorem dL_order_98 : decode cL_order 98 = .ok (.ireturn, 1) := by decide +kernel
theorem dL_order_99 : decode cL_order 99 = .ok (.goto (-79), 3) := by decide +kernel
theorem dL_different_0 : decode cL_different 0 = .ok (.iconst 0, 1) := by decide +kernel
theorem dL_different_1 : decode cL_different 1 = .ok (.istore_n 2, 1) := by decide +kernel
theorem dL_different_2 : decode cL_different 2 = .ok (.iconst 0, 1) := by decide +kernel
theorem dL_different_3 : decode cL_different 3 = .ok (.istore_n 3, 1) := by decide +kernel
theorem dL_different_4 : decode cL_different 4 = .ok (.iload_n 3, 1) := by decide +kernel
theorem dL_different_5 : decode cL_different 5 = .ok (.aload_n 0, 1) := by decide +kernel
theorem dL_different_6 : decode cL_different 6 = .ok (.iconst 0, 1) := by decide +kernel
theorem dL_different_7 : decode cL_different 7 = .ok (.iaload, 1) := by decide +kernel
theorem dL_different_8 : decode cL_different 8 = .ok (.if_icmp .ge 110, 3) := by decide +kernel
theorem dL_different_11 : decode cL_different 11 = .ok (.iconst 0, 1) := by decide +kernel
theorem dL_different_12 : decode cL_different 12 = .ok (.istore 4, 2) := by decide +kernel
theorem dL_different_14 : decode cL_different 14 = .ok (.iconst 0, 1) := by decide +kernel
theorem dL_different_15 : decode cL_different 15 = .ok (.istore 5, 2) := by decide +kernel
theorem dL_different_17 : decode cL_different 17 = .ok (.iload 5, 2) := by decide +kernel
theorem dL_different_19 : decode cL_different 19 = .ok (.iload_n 3, 1) := by decide +kernel
theorem dL_different_20 : decode cL_different 20 = .ok (.if_icmp .ge 79, 3) := by decide +kernel
theorem dL_different_23 : decode cL_different 23 = .ok (.iconst 0, 1) := by decide +kernel
theorem dL_different_24 : decode cL_different 24 = .ok (.istore 6, 2) := by decide +kernel
theorem dL_different_26 : decode cL_different 26 = .ok (.iconst 0, 1) := by decide +kernel
theorem dL_different_27 : decode cL_different 27 = .ok (.istore 7, 2) := by decide +kernel
theorem dL_different_29 : decode cL_different 29 = .ok (.iload 7, 2) := by decide +kernel
theorem dL_different_31 : decode cL_different 31 = .ok (.aload_n 0, 1) := by decide +kernel
theorem dL_different_32 : decode cL_different 32 = .ok (.iconst 0, 1) := by decide +kernel
theorem dL_different_33 : decode cL_different 33 = .ok (.iaload, 1) := by decide +kernel
theorem dL_different_34 : decode cL_different 34 = .ok (.if_icmp .ge 41, 3) := by decide +kernel
theorem dL_different_37 : decode cL_different 37 = .ok (.iload 6, 2) := by decide +kernel
theorem dL_different_39 : decode cL_different 39 = .ok (.aload_n 1, 1) := by decide +kernel
theorem dL_different_40 : decode cL_different 40 = .ok (.bipush 6, 2) := by decide +kernel
theorem dL_different_42 : decode cL_different 42 = .ok (.iload 7, 2) := by decide +kernel
theorem dL_different_44 : decode cL_different 44 = .ok (.imul, 1) := by decide +kernel
theorem dL_different_45 : decode cL_different 45 = .ok (.iload 5, 2) := by decide +kernel
theorem dL_different_47 : decode cL_different 47 = .ok (.iadd, 1) := by decide +kernel
theorem dL_different_48 : decode cL_different 48 = .ok (.iaload, 1) := by decide +kernel
theorem dL_different_49 : decode cL_different 49 = .ok (.aload_n 1, 1) := by decide +kernel
theorem dL_different_50 : decode cL_different 50 = .ok (.bipush 6, 2) := by decide +kernel
theorem dL_different_52 : decode cL_different 52 = .ok (.iload 7, 2) := by decide +kernel
theorem dL_different_54 : decode cL_different 54 = .ok (.imul, 1) := by decide +kernel
theorem dL_different_55 : decode cL_different 55 = .ok (.iload_n 3, 1) := by decide +kernel
theorem dL_different_56 : decode cL_different 56 = .ok (.iadd, 1) := by decide +kernel
theorem dL_different_57 : decode cL_different 57 = .ok (.iaload, 1) := by decide +kernel
theorem dL_different_58 : decode cL_different 58 = .ok (.if_icmp .ne 7, 3) := by decide +kernel
theorem dL_different_61 : decode cL_different 61 = .ok (.iconst 1, 1) := by decide +kernel
theorem dL_different_62 : decode cL_different 62 = .ok (.goto 4, 3) := by decide +kernel
theorem dL_different_65 : decode cL_different 65 = .ok (.iconst 0, 1) := by decide +kernel
theorem dL_different_66 : decode cL_different 66 = .ok (.iadd, 1) := by decide +kernel
theorem dL_different_67 : decode cL_different 67 = .ok (.istore 6, 2) := by decide +kernel
theorem dL_different_69 : decode cL_different 69 = .ok (.iinc 7 1, 3) := by decide +kernel
theorem dL_different_72 : decode cL_different 72 = .ok (.goto (-43), 3) := by decide +kernel
theorem dL_different_75 : decode cL_different 75 = .ok (.iload 4, 2) := by decide +kernel
theorem dL_different_77 : decode cL_different 77 = .ok (.iload 6, 2) := by decide +kernel
theorem dL_different_79 : decode cL_different 79 = .ok (.aload_n 0, 1) := by decide +kernel
theorem dL_different_80 : decode cL_different 80 = .ok (.iconst 0, 1) := by decide +kernel
theorem dL_different_81 : decode cL_different 81 = .ok (.iaload, 1) := by decide +kernel
theorem dL_different_82 : decode cL_different 82 = .ok (.if_icmp .ne 7, 3) := by decide +kernel
theorem dL_different_85 : decode cL_different 85 = .ok (.iconst 1, 1) := by decide +kernel
theorem dL_different_86 : decode cL_different 86 = .ok (.goto 4, 3) := by decide +kernel
theorem dL_different_89 : decode cL_different 89 = .ok (.iconst 0, 1) := by decide +kernel
theorem dL_different_90 : decode cL_different 90 = .ok (.iadd, 1) := by decide +kernel
theorem dL_different_91 : decode cL_different 91 = .ok (.istore 4, 2) := by decide +kernel
theorem dL_different_93 : decode cL_different 93 = .ok (.iinc 5 1, 3) := by decide +kernel
theorem dL_different_96 : decode cL_different 96 = .ok (.goto (-79), 3) := by decide +kernel
theorem dL_different_99 : decode cL_different 99 = .ok (.iload_n 2, 1) := by decide +kernel
theorem dL_different_100 : decode cL_different 100 = .ok (.iload 4, 2) := by decide +kernel
theorem dL_different_102 : decode cL_different 102 = .ok (.ifCond .ne 7, 3) := by decide +kernel
theorem dL_different_105 : decode cL_different 105 = .ok (.iconst 1, 1) := by decide +kernel
theorem dL_different_106 : decode cL_different 106 = .ok (.goto 4, 3) := by decide +kernel
theorem dL_different_109 : decode cL_different 109 = .ok (.iconst 0, 1) := by decide +kernel
theorem dL_different_110 : decode cL_different 110 = .ok (.iadd, 1) := by decide +kernel
theorem dL_different_111 : decode cL_different 111 = .ok (.istore_n 2, 1) := by decide +kernel
theorem dL_different_112 : decode cL_different 112 = .ok (.iinc 3 1, 3) := by decide +kernel
theorem dL_different_115 : decode cL_different 115 = .ok (.goto (-111), 3) := by decide +kernel
theorem dL_different_118 : decode cL_different 118 = .ok (.iload_n 2, 1) := by decide +kernel
theorem dL_different_119 : decode cL_different 119 = .ok (.ireturn, 1) := by decide +kernel
theorem dL_group_0 : decode cL_group 0 = .ok (.iconst 2, 1) := by decide +kernel
theorem dL_group_1 : decode cL_group 1 = .ok (.aload_n 0, 1) := by decide +kernel
theorem dL_group_2 : decode cL_group 2 = .ok (.aload_n 1, 1) := by decide +kernel
theorem dL_group_3 : decode cL_group 3 = .ok (.invokestatic 22, 3) := by decide +kernel
theorem dL_group_6 : decode cL_group 6 = .ok (.bipush (-6), 2) := by decide +kernel
theorem dL_group_8 : decode cL_group 8 = .ok (.if_icmp .eq 6, 3) := by decide +kernel
theorem dL_group_11 : decode cL_group 11 = .ok (.bipush (-6), 2) := by decide +kernel
theorem dL_group_13 : decode cL_group 13 = .ok (.ireturn, 1) := by decide +kernel
theorem dL_group_14 : decode cL_group 14 = .ok (.bipush 64, 2) := by decide +kernel
theorem dL_group_16 : decode cL_group 16 = .ok (.newarray .int, 2) := by decide +kernel
theorem dL_group_18 : decode cL_group 18 = .ok (.astore_n 2, 1) := by decide +kernel
theorem dL_group_19 : decode cL_group 19 = .ok (.iconst 1, 1) := by decide +kernel
theorem dL_group_20 : decode cL_group 20 = .ok (.istore_n 3, 1) := by decide +kernel
theorem dL_group_21 : decode cL_group 21 = .ok (.iconst 0, 1) := by decide +kernel
theorem dL_group_22 : decode cL_group 22 = .ok (.istore 4, 2) := by decide +kernel
theorem dL_group_24 : decode cL_group 24 = .ok (.iload 4, 2) := by decide +kernel
theorem dL_group_26 : decode cL_group 26 = .ok (.aload_n 0, 1) := by decide +kernel
theorem dL_group_27 : decode cL_group 27 = .ok (.iconst 0, 1) := by decide +kernel
theorem dL_group_28 : decode cL_group 28 = .ok (.iaload, 1) := by decide +kernel
theorem dL_group_29 : decode cL_group 29 = .ok (.if_icmp .ge 22, 3) := by decide +kernel
theorem dL_group_32 : decode cL_group 32 = .ok (.aload_n 2, 1) := by decide +kernel
theorem dL_group_33 : decode cL_group 33 = .ok (.iconst 0, 1) := by decide +kernel
theorem dL_group_34 : decode cL_group 34 = .ok (.dup2, 1) := by decide +kernel
theorem dL_group_35 : decode cL_group 35 = .ok (.iaload, 1) := by decide +kernel
theorem dL_group_36 : decode cL_group 36 = .ok (.iload 4, 2) := by decide +kernel
theorem dL_group_38 : decode cL_group 38 = .ok (.iconst 3, 1) := by decide +kernel
theorem dL_group_39 : decode cL_group 39 = .ok (.iload 4, 2) := by decide +kernel
theorem dL_group_41 : decode cL_group 41 = .ok (.imul, 1) := by decide +kernel
theorem dL_group_42 : decode cL_group 42 = .ok (.ishl, 1) := by decide +kernel
theorem dL_group_43 : decode cL_group 43 = .ok (.ior, 1) := by decide +kernel
theorem dL_group_44 : decode cL_group 44 = .ok (.iastore, 1) := by decide +kernel
theorem dL_group_45 : decode cL_group 45 = .ok (.iinc 4 1, 3) := by decide +kernel
theorem dL_group_48 : decode cL_group 48 = .ok (.goto (-24), 3) := by decide +kernel
theorem dL_group_51 : decode cL_group 51 = .ok (.iconst 0, 1) := by decide +kernel
theorem dL_group_52 : decode cL_group 52 = .ok (.istore 4, 2) := by decide +kernel
theorem dL_group_54 : decode cL_group 54 = .ok (.iload 4, 2) := by decide +kernel
theorem dL_group_56 : decode cL_group 56 = .ok (.iload_n 3, 1) := by decide +kernel
theorem dL_group_57 : decode cL_group 57 = .ok (.if_icmp .ge 140, 3) := by decide +kernel
theorem dL_group_60 : decode cL_group 60 = .ok (.iconst 0, 1) := by decide +kernel
theorem dL_group_61 : decode cL_group 61 = .ok (.istore 5, 2) := by decide +kernel
theorem dL_group_63 : decode cL_group 63 = .ok (.iload 5, 2) := by decide +kernel
theorem dL_group_65 : decode cL_group 65 = .ok (.aload_n 0, 1) := by decide +kernel
theorem dL_group_66 : decode cL_group 66 = .ok (.iconst 0, 1) := by decide +kernel
theorem dL_group_67 : decode cL_group 67 = .ok (.iaload, 1) := by decide +kernel
theorem dL_group_68 : decode cL_group 68 = .ok (.if_icmp .ge 123, 3) := by decide +kernel
theorem dL_group_71 : decode cL_group 71 = .ok (.iconst 0, 1) := by decide +kernel
theorem dL_group_72 : decode cL_group 72 = .ok (.istore 6, 2) := by decide +kernel
theorem dL_group_74 : decode cL_group 74 = .ok (.iconst 0, 1) := by decide +kernel
theorem dL_group_75 : decode cL_group 75 = .ok (.istore 7, 2) := by decide +kernel
theorem dL_group_77 : decode cL_group 77 = .ok (.iload 7, 2) := by decide +kernel
theorem dL_group_79 : decode cL_group 79 = .ok (.aload_n 0, 1) := by decide +kernel
theorem dL_group_80 : decode cL_group 80 = .ok (.iconst 0, 1) := by decide +kernel
theorem dL_group_81 : decode cL_group 81 = .ok (.iaload, 1) := by decide +kernel
theorem dL_group_82 : decode cL_group 82 = .ok (.if_icmp .ge 39, 3) := by decide +kernel
theorem dL_group_85 : decode cL_group 85 = .ok (.iload 6, 2) := by decide +kernel
theorem dL_group_87 : decode cL_group 87 = .ok (.aload_n 1, 1) := by decide +kernel
theorem dL_group_88 : decode cL_group 88 = .ok (.bipush 6, 2) := by decide +kernel
theorem dL_group_90 : decode cL_group 90 = .ok (.aload_n 2, 1) := by decide +kernel
theorem dL_group_91 : decode cL_group 91 = .ok (.iload 4, 2) := by decide +kernel
theorem dL_group_93 : decode cL_group 93 = .ok (.iaload, 1) := by decide +kernel
theorem dL_group_94 : decode cL_group 94 = .ok (.iconst 3, 1) := by decide +kernel
theorem dL_group_95 : decode cL_group 95 = .ok (.iload 7, 2) := by decide +kernel
theorem dL_group_97 : decode cL_group 97 = .ok (.imul, 1) := by decide +kernel
theorem dL_group_98 : decode cL_group 98 = .ok (.ishr, 1) := by decide +kernel
theorem dL_group_99 : decode cL_group 99 = .ok (.bipush 7, 2) := by decide +kernel
theorem dL_group_101 : decode cL_group 101 = .ok (.iand, 1) := by decide +kernel
theorem dL_group_102 : decode cL_group 102 = .ok (.imul, 1) := by decide +kernel
theorem dL_group_103 : decode cL_group 103 = .ok (.iload 5, 2) := by decide +kernel
theorem dL_group_105 : decode cL_group 105 = .ok (.iadd, 1) := by decide +kernel
theorem dL_group_106 : decode cL_group 106 = .ok (.iaload, 1) := by decide +kernel
theorem dL_group_107 : decode cL_group 107 = .ok (.iconst 3, 1) := by decide +kernel
theorem dL_group_108 : decode cL_group 108 = .ok (.iload 7, 2) := by decide +kernel
theorem dL_group_110 : decode cL_group 110 = .ok (.imul, 1) := by decide +kernel
theorem dL_group_111 : decode cL_group 111 = .ok (.ishl, 1) := by decide +kernel
theorem dL_group_112 : decode cL_group 112 = .ok (.ior, 1) := by decide +kernel
theorem dL_group_113 : decode cL_group 113 = .ok (.istore 6, 2) := by decide +kernel
theorem dL_group_115 : decode cL_group 115 = .ok (.iinc 7 1, 3) := by decide +kernel
theorem dL_group_118 : decode cL_group 118 = .ok (.goto (-41), 3) := by decide +kernel
theorem dL_group_121 : decode cL_group 121 = .ok (.iconst 0, 1) := by decide +kernel
theorem dL_group_122 : decode cL_group 122 = .ok (.istore 7, 2) := by decide +kernel
theorem dL_group_124 : decode cL_group 124 = .ok (.iconst 0, 1) := by decide +kernel
theorem dL_group_125 : decode cL_group 125 = .ok (.istore 8, 2) := by decide +kernel
theorem dL_group_127 : decode cL_group 127 = .ok (.iload 8, 2) := by decide +kernel
theorem dL_group_129 : decode cL_group 129 = .ok (.iload_n 3, 1) := by decide +kernel
theorem dL_group_130 : decode cL_group 130 = .ok (.if_icmp .ge 30, 3) := by decide +kernel
theorem dL_group_133 : decode cL_group 133 = .ok (.iload 7, 2) := by decide +kernel
theorem dL_group_135 : decode cL_group 135 = .ok (.ifCond .ne 12, 3) := by decide +kernel
theorem dL_group_138 : decode cL_group 138 = .ok (.aload_n 2, 1) := by decide +kernel
theorem dL_group_139 : decode cL_group 139 = .ok (.iload 8, 2) := by decide +kernel
theorem dL_group_141 : decode cL_group 141 = .ok (.iaload, 1) := by decide +kernel
theorem dL_group_142 : decode cL_group 142 = .ok (.iload 6, 2) := by decide +kernel
theorem dL_group_144 : decode cL_group 144 = .ok (.if_icmp .ne 7, 3) := by decide +kernel
theorem dL_group_147 : decode cL_group 147 = .ok (.iconst 1, 1) := by decide +kernel
theorem dL_group_148 : decode cL_group 148 = .ok (.goto 4, 3) := by decide +kernel
theorem dL_group_151 : decode cL_group 151 = .ok (.iconst 0, 1) := by decide +kernel
theorem dL_group_152 : decode cL_group 152 = .ok (.istore 7, 2) := by decide +kernel
theorem dL_group_154 : decode cL_group 154 = .ok (.iinc 8 1, 3) := by decide +kernel
theorem dL_group_157 : decode cL_group 157 = .ok (.goto (-30), 3) := by decide +kernel
theorem dL_group_160 : decode cL_group 160 = .ok (.iload 7, 2) := by decide +kernel
theorem dL_group_162 : decode cL_group 162 = .ok (.ifCond .eq 6, 3) := by decide +kernel
theorem dL_group_165 : decode cL_group 165 = .ok (.goto 20, 3) := by decide +kernel
theorem dL_group_168 : decode cL_group 168 = .ok (.iload_n 3, 1) := by decide +kernel
theorem dL_group_169 : decode cL_group 169 = .ok (.bipush 60, 2) := by decide +kernel
theorem dL_group_171 : decode cL_group 171 = .ok (.if_icmp .ne 6, 3) := by decide +kernel
theorem dL_group_174 : decode cL_group 174 = .ok (.bipush 99, 2) := by decide +kernel
theorem dL_group_176 : decode cL_group 176 = .ok (.ireturn, 1) := by decide +kernel
theorem dL_group_177 : decode cL_group 177 = .ok (.aload_n 2, 1) := by decide +kernel
theorem dL_group_178 : decode cL_group 178 = .ok (.iload_n 3, 1) := by decide +kernel
theorem dL_group_179 : decode cL_group 179 = .ok (.iinc 3 1, 3) := by decide +kernel
theorem dL_group_182 : decode cL_group 182 = .ok (.iload 6, 2) := by decide +kernel
theorem dL_group_184 : decode cL_group 184 = .ok (.iastore, 1) := by decide +kernel
theorem dL_group_185 : decode cL_group 185 = .ok (.iinc 5 1, 3) := by decide +kernel
theorem dL_group_188 : decode cL_group 188 = .ok (.goto (-125), 3) := by decide +kernel
theorem dL_group_191 : decode cL_group 191 = .ok (.iinc 4 1, 3) := by decide +kernel
theorem dL_group_194 : decode cL_group 194 = .ok (.goto (-140), 3) := by decide +kernel
theorem dL_group_197 : decode cL_group 197 = .ok (.iload_n 3, 1) := by decide +kernel
theorem dL_group_198 : decode cL_group 198 = .ok (.ireturn, 1) := by decide +kernel
theorem dL_automorphisms_0 : decode cL_automorphisms 0 = .ok (.aload_n 0, 1) := by decide +kernel
theorem dL_automorphisms_1 : decode cL_automorphisms 1 = .ok (.iconst 0, 1) := by decide +kernel
theorem dL_automorphisms_2 : decode cL_automorphisms 2 = .ok (.iaload, 1) := by decide +kernel
theorem dL_automorphisms_3 : decode cL_automorphisms 3 = .ok (.istore_n 2, 1) := by decide +kernel
theorem dL_automorphisms_4 : decode cL_automorphisms 4 = .ok (.bipush 6, 2) := by decide +kernel
theorem dL_automorphisms_6 : decode cL_automorphisms 6 = .ok (.newarray .int, 2) := by decide +kernel
theorem dL_automorphisms_8 : decode cL_automorphisms 8 = .ok (.astore_n 3, 1) := by decide +kernel
theorem dL_automorphisms_9 : decode cL_automorphisms 9 = .ok (.iconst 0, 1) := by decide +kernel
theorem dL_automorphisms_10 : decode cL_automorphisms 10 = .ok (.istore 4, 2) := by decide +kernel
theorem dL_automorphisms_12 : decode cL_automorphisms 12 = .ok (.iconst 0, 1) := by decide +kernel
theorem dL_automorphisms_13 : decode cL_automorphisms 13 = .ok (.istore 5, 2) := by decide +kernel
theorem dL_automorphisms_15 : decode cL_automorphisms 15 = .ok (.iload 5, 2) := by decide +kernel
theorem dL_automorphisms_17 : decode cL_automorphisms 17 = .ok (.bipush 6, 2) := by decide +kernel
theorem dL_automorphisms_19 : decode cL_automorphisms 19 = .ok (.if_icmp .ge 15, 3) := by decide +kernel
theorem dL_automorphisms_22 : decode cL_automorphisms 22 = .ok (.aload_n 3, 1) := by decide +kernel
theorem dL_automorphisms_23 : decode cL_automorphisms 23 = .ok (.iload 5, 2) := by decide +kernel
theorem dL_automorphisms_25 : decode cL_automorphisms 25 = .ok (.iload 5, 2) := by decide +kernel
theorem dL_automorphisms_27 : decode cL_automorphisms 27 = .ok (.iastore, 1) := by decide +kernel
theorem dL_automorphisms_28 : decode cL_automorphisms 28 = .ok (.iinc 5 1, 3) := by decide +kernel
theorem dL_automorphisms_31 : decode cL_automorphisms 31 = .ok (.goto (-16), 3) := by decide +kernel
theorem dL_automorphisms_34 : decode cL_automorphisms 34 = .ok (.iconst 1, 1) := by decide +kernel
theorem dL_automorphisms_35 : decode cL_automorphisms 35 = .ok (.istore 5, 2) := by decide +kernel
theorem dL_automorphisms_37 : decode cL_automorphisms 37 = .ok (.iconst 0, 1) := by decide +kernel
theorem dL_automorphisms_38 : decode cL_automorphisms 38 = .ok (.istore 6, 2) := by decide +kernel
theorem dL_automorphisms_40 : decode cL_automorphisms 40 = .ok (.iload 6, 2) := by decide +kernel
theorem dL_automorphisms_42 : decode cL_automorphisms 42 = .ok (.iload_n 2, 1) := by decide +kernel
theorem dL_automorphisms_43 : decode cL_automorphisms 43 = .ok (.iload_n 2, 1) := by decide +kernel
theorem dL_automorphisms_44 : decode cL_automorphisms 44 = .ok (.imul, 1) := by decide +kernel
theorem dL_automorphisms_45 : decode cL_automorphisms 45 = .ok (.if_icmp .ge 58, 3) := by decide +kernel
theorem dL_automorphisms_48 : decode cL_automorphisms 48 = .ok (.iload 5, 2) := by decide +kernel
theorem dL_automorphisms_50 : decode cL_automorphisms 50 = .ok (.ifCond .eq 44, 3) := by decide +kernel
theorem dL_automorphisms_53 : decode cL_automorphisms 53 = .ok (.aload_n 3, 1) := by decide +kernel
theorem dL_automorphisms_54 : decode cL_automorphisms 54 = .ok (.aload_n 1, 1) := by decide +kernel
theorem dL_automorphisms_55 : decode cL_automorphisms 55 = .ok (.bipush 6, 2) := by decide +kernel
theorem dL_automorphisms_57 : decode cL_automorphisms 57 = .ok (.iload 6, 2) := by decide +kernel
theorem dL_automorphisms_59 : decode cL_automorphisms 59 = .ok (.iload_n 2, 1) := by decide +kernel
theorem dL_automorphisms_60 : decode cL_automorphisms 60 = .ok (.idiv, 1) := by decide +kernel
theorem dL_automorphisms_61 : decode cL_automorphisms 61 = .ok (.imul, 1) := by decide +kernel
theorem dL_automorphisms_62 : decode cL_automorphisms 62 = .ok (.iload 6, 2) := by decide +kernel
theorem dL_automorphisms_64 : decode cL_automorphisms 64 = .ok (.iload_n 2, 1) := by decide +kernel
theorem dL_automorphisms_65 : decode cL_automorphisms 65 = .ok (.irem, 1) := by decide +kernel
theorem dL_automorphisms_66 : decode cL_automorphisms 66 = .ok (.iadd, 1) := by decide +kernel
theorem dL_automorphisms_67 : decode cL_automorphisms 67 = .ok (.iaload, 1) := by decide +kernel
theorem dL_automorphisms_68 : decode cL_automorphisms 68 = .ok (.iaload, 1) := by decide +kernel
theorem dL_automorphisms_69 : decode cL_automorphisms 69 = .ok (.aload_n 1, 1) := by decide +kernel
theorem dL_automorphisms_70 : decode cL_automorphisms 70 = .ok (.bipush 6, 2) := by decide +kernel
theorem dL_automorphisms_72 : decode cL_automorphisms 72 = .ok (.aload_n 3, 1) := by decide +kernel
theorem dL_automorphisms_73 : decode cL_automorphisms 73 = .ok (.iload 6, 2) := by decide +kernel
theorem dL_automorphisms_75 : decode cL_automorphisms 75 = .ok (.iload_n 2, 1) := by decide +kernel
theorem dL_automorphisms_76 : decode cL_automorphisms 76 = .ok (.idiv, 1) := by decide +kernel
theorem dL_automorphisms_77 : decode cL_automorphisms 77 = .ok (.iaload, 1) := by decide +kernel
theorem dL_automorphisms_78 : decode cL_automorphisms 78 = .ok (.imul, 1) := by decide +kernel
theorem dL_automorphisms_79 : decode cL_automorphisms 79 = .ok (.aload_n 3, 1) := by decide +kernel
theorem dL_automorphisms_80 : decode cL_automorphisms 80 = .ok (.iload 6, 2) := by decide +kernel
theorem dL_automorphisms_82 : decode cL_automorphisms 82 = .ok (.iload_n 2, 1) := by decide +kernel
theorem dL_automorphisms_83 : decode cL_automorphisms 83 = .ok (.irem, 1) := by decide +kernel
theorem dL_automorphisms_84 : decode cL_automorphisms 84 = .ok (.iaload, 1) := by decide +kernel
theorem dL_automorphisms_85 : decode cL_automorphisms 85 = .ok (.iadd, 1) := by decide +kernel
theorem dL_automorphisms_86 : decode cL_automorphisms 86 = .ok (.iaload, 1) := by decide +kernel
theorem dL_automorphisms_87 : decode cL_automorphisms 87 = .ok (.if_icmp .ne 7, 3) := by decide +kernel
theorem dL_automorphisms_90 : decode cL_automorphisms 90 = .ok (.iconst 1, 1) := by decide +kernel
theorem dL_automorphisms_91 : decode cL_automorphisms 91 = .ok (.goto 4, 3) := by decide +kernel
theorem dL_automorphisms_94 : decode cL_automorphisms 94 = .ok (.iconst 0, 1) := by decide +kernel
theorem dL_automorphisms_95 : decode cL_automorphisms 95 = .ok (.istore 5, 2) := by decide +kernel
theorem dL_automorphisms_97 : decode cL_automorphisms 97 = .ok (.iinc 6 1, 3) := by decide +kernel
theorem dL_automorphisms_100 : decode cL_automorphisms 100 = .ok (.goto (-60), 3) := by decide +kernel
theorem dL_automorphisms_103 : decode cL_automorphisms 103 = .ok (.iload 4, 2) := by decide +kernel
theorem dL_automorphisms_105 : decode cL_automorphisms 105 = .ok (.iload 5, 2) := by decide +kernel
theorem dL_automorphisms_107 : decode cL_automorphisms 107 = .ok (.ifCond .eq 7, 3) := by decide +kernel
theorem dL_automorphisms_110 : decode cL_automorphisms 110 = .ok (.iconst 1, 1) := by decide +kernel
theorem dL_automorphisms_111 : decode cL_automorphisms 111 = .ok (.goto 4, 3) := by decide +kernel
theorem dL_automorphisms_114 : decode cL_automorphisms 114 = .ok (.iconst 0, 1) := by decide +kernel
theorem dL_automorphisms_115 : decode cL_automorphisms 115 = .ok (.iadd, 1) := by decide +kernel
theorem dL_automorphisms_116 : decode cL_automorphisms 116 = .ok (.istore 4, 2) := by decide +kernel
theorem dL_automorphisms_118 : decode cL_automorphisms 118 = .ok (.iload_n 2, 1) := by decide +kernel
theorem dL_automorphisms_119 : decode cL_automorphisms 119 = .ok (.iconst 2, 1) := by decide +kernel
theorem dL_automorphisms_120 : decode cL_automorphisms 120 = .ok (.isub, 1) := by decide +kernel
theorem dL_automorphisms_121 : decode cL_automorphisms 121 = .ok (.istore 6, 2) := by decide +kernel
theorem dL_automorphisms_123 : decode cL_automorphisms 123 = .ok (.iload 6, 2) := by decide +kernel
theorem dL_automorphisms_125 : decode cL_automorphisms 125 = .ok (.ifCond .lt 22, 3) := by decide +kernel
theorem dL_automorphisms_128 : decode cL_automorphisms 128 = .ok (.aload_n 3, 1) := by decide +kernel
theorem dL_automorphisms_129 : decode cL_automorphisms 129 = .ok (.iload 6, 2) := by decide +kernel
theorem dL_automorphisms_131 : decode cL_automorphisms 131 = .ok (.iaload, 1) := by decide +kernel
theorem dL_automorphisms_132 : decode cL_automorphisms 132 = .ok (.aload_n 3, 1) := by decide +kernel
theorem dL_automorphisms_133 : decode cL_automorphisms 133 = .ok (.iload 6, 2) := by decide +kernel
theorem dL_automorphisms_135 : decode cL_automorphisms 135 = .ok (.iconst 1, 1) := by decide +kernel
theorem dL_automorphisms_136 : decode cL_automorphisms 136 = .ok (.iadd, 1) := by decide +kernel
theorem dL_automorphisms_137 : decode cL_automorphisms 137 = .ok (.iaload, 1) := by decide +kernel
theorem dL_automorphisms_138 : decode cL_automorphisms 138 = .ok (.if_icmp .le 9, 3) := by decide +kernel
theorem dL_automorphisms_141 : decode cL_automorphisms 141 = .ok (.iinc 6 (-1), 3) := by decide +kernel
theorem dL_automorphisms_144 : decode cL_automorphisms 144 = .ok (.goto (-21), 3) := by decide +kernel
theorem dL_automorphisms_147 : decode cL_automorphisms 147 = .ok (.iload 6, 2) := by decide +kernel
theorem dL_automorphisms_149 : decode cL_automorphisms 149 = .ok (.ifCond .ge 6, 3) := by decide +kernel
theorem dL_automorphisms_152 : decode cL_automorphisms 152 = .ok (.iload 4, 2) := by decide +kernel
theorem dL_automorphisms_154 : decode cL_automorphisms 154 = .ok (.ireturn, 1) := by decide +kernel
theorem dL_automorphisms_155 : decode cL_automorphisms 155 = .ok (.iload_n 2, 1) := by decide +kernel
theorem dL_automorphisms_156 : decode cL_automorphisms 156 = .ok (.iconst 1, 1) := by decide +kernel
theorem dL_automorphisms_157 : decode cL_automorphisms 157 = .ok (.isub, 1) := by decide +kernel
theorem dL_automorphisms_158 : decode cL_automorphisms 158 = .ok (.istore 7, 2) := by decide +kernel
theorem dL_automorphisms_160 : decode cL_automorphisms 160 = .ok (.aload_n 3, 1) := by decide +kernel
theorem dL_automorphisms_161 : decode cL_automorphisms 161 = .ok (.iload 7, 2) := by decide +kernel
theorem dL_automorphisms_163 : decode cL_automorphisms 163 = .ok (.iaload, 1) := by decide +kernel
theorem dL_automorphisms_164 : decode cL_automorphisms 164 = .ok (.aload_n 3, 1) := by decide +kernel
theorem dL_automorphisms_165 : decode cL_automorphisms 165 = .ok (.iload 6, 2) := by decide +kernel
theorem dL_automorphisms_167 : decode cL_automorphisms 167 = .ok (.iaload, 1) := by decide +kernel
theorem dL_automorphisms_168 : decode cL_automorphisms 168 = .ok (.if_icmp .ge 9, 3) := by decide +kernel
theorem dL_automorphisms_171 : decode cL_automorphisms 171 = .ok (.iinc 7 (-1), 3) := by decide +kernel
theorem dL_automorphisms_174 : decode cL_automorphisms 174 = .ok (.goto (-14), 3) := by decide +kernel
theorem dL_automorphisms_177 : decode cL_automorphisms 177 = .ok (.aload_n 3, 1) := by decide +kernel
theorem dL_automorphisms_178 : decode cL_automorphisms 178 = .ok (.iload 6, 2) := by decide +kernel
theorem dL_automorphisms_180 : decode cL_automorphisms 180 = .ok (.iaload, 1) := by decide +kernel
theorem dL_automorphisms_181 : decode cL_automorphisms 181 = .ok (.istore 8, 2) := by decide +kernel
theorem dL_automorphisms_183 : decode cL_automorphisms 183 = .ok (.aload_n 3, 1) := by decide +kernel
theorem dL_automorphisms_184 : decode cL_automorphisms 184 = .ok (.iload 6, 2) := by decide +kernel
theorem dL_automorphisms_186 : decode cL_automorphisms 186 = .ok (.aload_n 3, 1) := by decide +kernel
theorem dL_automorphisms_187 : decode cL_automorphisms 187 = .ok (.iload 7, 2) := by decide +kernel
theorem dL_automorphisms_189 : decode cL_automorphisms 189 = .ok (.iaload, 1) := by decide +kernel
theorem dL_automorphisms_190 : decode cL_automorphisms 190 = .ok (.iastore, 1) := by decide +kernel
theorem dL_automorphisms_191 : decode cL_automorphisms 191 = .ok (.aload_n 3, 1) := by decide +kernel
theorem dL_automorphisms_192 : decode cL_automorphisms 192 = .ok (.iload 7, 2) := by decide +kernel
theorem dL_automorphisms_194 : decode cL_automorphisms 194 = .ok (.iload 8, 2) := by decide +kernel
theorem dL_automorphisms_196 : decode cL_automorphisms 196 = .ok (.iastore, 1) := by decide +kernel
theorem dL_automorphisms_197 : decode cL_automorphisms 197 = .ok (.iconst 1, 1) := by decide +kernel
theorem dL_automorphisms_198 : decode cL_automorphisms 198 = .ok (.istore 9, 2) := by decide +kernel
theorem dL_automorphisms_200 : decode cL_automorphisms 200 = .ok (.iload 6, 2) := by decide +kernel
theorem dL_automorphisms_202 : decode cL_automorphisms 202 = .ok (.iload 9, 2) := by decide +kernel
theorem dL_automorphisms_204 : decode cL_automorphisms 204 = .ok (.iadd, 1) := by decide +kernel
theorem dL_automorphisms_205 : decode cL_automorphisms 205 = .ok (.iload_n 2, 1) := by decide +kernel
theorem dL_automorphisms_206 : decode cL_automorphisms 206 = .ok (.iload 9, 2) := by decide +kernel
theorem dL_automorphisms_208 : decode cL_automorphisms 208 = .ok (.isub, 1) := by decide +kernel
theorem dL_automorphisms_209 : decode cL_automorphisms 209 = .ok (.if_icmp .ge 39, 3) := by decide +kernel
theorem dL_automorphisms_212 : decode cL_automorphisms 212 = .ok (.aload_n 3, 1) := by decide +kernel
theorem dL_automorphisms_213 : decode cL_automorphisms 213 = .ok (.iload 6, 2) := by decide +kernel
theorem dL_automorphisms_215 : decode cL_automorphisms 215 = .ok (.iload 9, 2) := by decide +kernel
theorem dL_automorphisms_217 : decode cL_automorphisms 217 = .ok (.iadd, 1) := by decide +kernel
theorem dL_automorphisms_218 : decode cL_automorphisms 218 = .ok (.iaload, 1) := by decide +kernel
theorem dL_automorphisms_219 : decode cL_automorphisms 219 = .ok (.istore 8, 2) := by decide +kernel
theorem dL_automorphisms_221 : decode cL_automorphisms 221 = .ok (.aload_n 3, 1) := by decide +kernel
theorem dL_automorphisms_222 : decode cL_automorphisms 222 = .ok (.iload 6, 2) := by decide +kernel
theorem dL_automorphisms_224 : decode cL_automorphisms 224 = .ok (.iload 9, 2) := by decide +kernel
theorem dL_automorphisms_226 : decode cL_automorphisms 226 = .ok (.iadd, 1) := by decide +kernel
theorem dL_automorphisms_227 : decode cL_automorphisms 227 = .ok (.aload_n 3, 1) := by decide +kernel
theorem dL_automorphisms_228 : decode cL_automorphisms 228 = .ok (.iload_n 2, 1) := by decide +kernel
theorem dL_automorphisms_229 : decode cL_automorphisms 229 = .ok (.iload 9, 2) := by decide +kernel
theorem dL_automorphisms_231 : decode cL_automorphisms 231 = .ok (.isub, 1) := by decide +kernel
theorem dL_automorphisms_232 : decode cL_automorphisms 232 = .ok (.iaload, 1) := by decide +kernel
theorem dL_automorphisms_233 : decode cL_automorphisms 233 = .ok (.iastore, 1) := by decide +kernel
theorem dL_automorphisms_234 : decode cL_automorphisms 234 = .ok (.aload_n 3, 1) := by decide +kernel
theorem dL_automorphisms_235 : decode cL_automorphisms 235 = .ok (.iload_n 2, 1) := by decide +kernel
theorem dL_automorphisms_236 : decode cL_automorphisms 236 = .ok (.iload 9, 2) := by decide +kernel
theorem dL_automorphisms_238 : decode cL_automorphisms 238 = .ok (.isub, 1) := by decide +kernel
theorem dL_automorphisms_239 : decode cL_automorphisms 239 = .ok (.iload 8, 2) := by decide +kernel
theorem dL_automorphisms_241 : decode cL_automorphisms 241 = .ok (.iastore, 1) := by decide +kernel
theorem dL_automorphisms_242 : decode cL_automorphisms 242 = .ok (.iinc 9 1, 3) := by decide +kernel
theorem dL_automorphisms_245 : decode cL_automorphisms 245 = .ok (.goto (-45), 3) := by decide +kernel
theorem dL_automorphisms_248 : decode cL_automorphisms 248 = .ok (.goto (-214), 3) := by decide +kernel
theorem dL_closed_0 : decode cL_closed 0 = .ok (.iconst 0, 1) := by decide +kernel
theorem dL_closed_1 : decode cL_closed 1 = .ok (.istore_n 2, 1) := by decide +kernel
theorem dL_closed_2 : decode cL_closed 2 = .ok (.iconst 0, 1) := by decide +kernel
theorem dL_closed_3 : decode cL_closed 3 = .ok (.istore_n 3, 1) := by decide +kernel
theorem dL_closed_4 : decode cL_closed 4 = .ok (.iconst 0, 1) := by decide +kernel
theorem dL_closed_5 : decode cL_closed 5 = .ok (.istore 4, 2) := by decide +kernel
theorem dL_closed_7 : decode cL_closed 7 = .ok (.iload 4, 2) := by decide +kernel
theorem dL_closed_9 : decode cL_closed 9 = .ok (.aload_n 0, 1) := by decide +kernel
theorem dL_closed_10 : decode cL_closed 10 = .ok (.iconst 2, 1) := by decide +kernel
theorem dL_closed_11 : decode cL_closed 11 = .ok (.iaload, 1) := by decide +kernel
theorem dL_closed_12 : decode cL_closed 12 = .ok (.if_icmp .ge 69, 3) := by decide +kernel
theorem dL_closed_15 : decode cL_closed 15 = .ok (.iload_n 2, 1) := by decide +kernel
theorem dL_closed_16 : decode cL_closed 16 = .ok (.aload_n 1, 1) := by decide +kernel
theorem dL_closed_17 : decode cL_closed 17 = .ok (.iconst 4, 1) := by decide +kernel
theorem dL_closed_18 : decode cL_closed 18 = .ok (.iload 4, 2) := by decide +kernel
theorem dL_closed_20 : decode cL_closed 20 = .ok (.imul, 1) := by decide +kernel
theorem dL_closed_21 : decode cL_closed 21 = .ok (.iconst 1, 1) := by decide +kernel
theorem dL_closed_22 : decode cL_closed 22 = .ok (.iadd, 1) := by decide +kernel
theorem dL_closed_23 : decode cL_closed 23 = .ok (.iaload, 1) := by decide +kernel
theorem dL_closed_24 : decode cL_closed 24 = .ok (.ishr, 1) := by decide +kernel
theorem dL_closed_25 : decode cL_closed 25 = .ok (.iconst 1, 1) := by decide +kernel
theorem dL_closed_26 : decode cL_closed 26 = .ok (.iand, 1) := by decide +kernel
theorem dL_closed_27 : decode cL_closed 27 = .ok (.iconst 1, 1) := by decide +kernel
theorem dL_closed_28 : decode cL_closed 28 = .ok (.if_icmp .eq 19, 3) := by decide +kernel
theorem dL_closed_31 : decode cL_closed 31 = .ok (.iload_n 3, 1) := by decide +kernel
theorem dL_closed_32 : decode cL_closed 32 = .ok (.aload_n 1, 1) := by decide +kernel
theorem dL_closed_33 : decode cL_closed 33 = .ok (.iconst 4, 1) := by decide +kernel
theorem dL_closed_34 : decode cL_closed 34 = .ok (.iload 4, 2) := by decide +kernel
theorem dL_closed_36 : decode cL_closed 36 = .ok (.imul, 1) := by decide +kernel
theorem dL_closed_37 : decode cL_closed 37 = .ok (.iconst 2, 1) := by decide +kernel
theorem dL_closed_38 : decode cL_closed 38 = .ok (.iadd, 1) := by decide +kernel
theorem dL_closed_39 : decode cL_closed 39 = .ok (.iaload, 1) := by decide +kernel
theorem dL_closed_40 : decode cL_closed 40 = .ok (.ishr, 1) := by decide +kernel
theorem dL_closed_41 : decode cL_closed 41 = .ok (.iconst 1, 1) := by decide +kernel
theorem dL_closed_42 : decode cL_closed 42 = .ok (.iand, 1) := by decide +kernel
theorem dL_closed_43 : decode cL_closed 43 = .ok (.iconst 1, 1) := by decide +kernel
theorem dL_closed_44 : decode cL_closed 44 = .ok (.if_icmp .ne 5, 3) := by decide +kernel
theorem dL_closed_47 : decode cL_closed 47 = .ok (.iconst 0, 1) := by decide +kernel
theorem dL_closed_48 : decode cL_closed 48 = .ok (.ireturn, 1) := by decide +kernel
theorem dL_closed_49 : decode cL_closed 49 = .ok (.iload_n 2, 1) := by decide +kernel
theorem dL_closed_50 : decode cL_closed 50 = .ok (.iconst 1, 1) := by decide +kernel
theorem dL_closed_51 : decode cL_closed 51 = .ok (.aload_n 1, 1) := by decide +kernel
theorem dL_closed_52 : decode cL_closed 52 = .ok (.iconst 4, 1) := by decide +kernel
theorem dL_closed_53 : decode cL_closed 53 = .ok (.iload 4, 2) := by decide +kernel
theorem dL_closed_55 : decode cL_closed 55 = .ok (.imul, 1) := by decide +kernel
theorem dL_closed_56 : decode cL_closed 56 = .ok (.iconst 1, 1) := by decide +kernel
theorem dL_closed_57 : decode cL_closed 57 = .ok (.iadd, 1) := by decide +kernel
theorem dL_closed_58 : decode cL_closed 58 = .ok (.iaload, 1) := by decide +kernel
theorem dL_closed_59 : decode cL_closed 59 = .ok (.ishl, 1) := by decide +kernel
theorem dL_closed_60 : decode cL_closed 60 = .ok (.ior, 1) := by decide +kernel
theorem dL_closed_61 : decode cL_closed 61 = .ok (.istore_n 2, 1) := by decide +kernel
theorem dL_closed_62 : decode cL_closed 62 = .ok (.iload_n 3, 1) := by decide +kernel
theorem dL_closed_63 : decode cL_closed 63 = .ok (.iconst 1, 1) := by decide +kernel
theorem dL_closed_64 : decode cL_closed 64 = .ok (.aload_n 1, 1) := by decide +kernel
theorem dL_closed_65 : decode cL_closed 65 = .ok (.iconst 4, 1) := by decide +kernel
theorem dL_closed_66 : decode cL_closed 66 = .ok (.iload 4, 2) := by decide +kernel
theorem dL_closed_68 : decode cL_closed 68 = .ok (.imul, 1) := by decide +kernel
theorem dL_closed_69 : decode cL_closed 69 = .ok (.iconst 2, 1) := by decide +kernel
theorem dL_closed_70 : decode cL_closed 70 = .ok (.iadd, 1) := by decide +kernel
theorem dL_closed_71 : decode cL_closed 71 = .ok (.iaload, 1) := by decide +kernel
theorem dL_closed_72 : decode cL_closed 72 = .ok (.ishl, 1) := by decide +kernel
theorem dL_closed_73 : decode cL_closed 73 = .ok (.ior, 1) := by decide +kernel
theorem dL_closed_74 : decode cL_closed 74 = .ok (.istore_n 3, 1) := by decide +kernel
theorem dL_closed_75 : decode cL_closed 75 = .ok (.iinc 4 1, 3) := by decide +kernel
theorem dL_closed_78 : decode cL_closed 78 = .ok (.goto (-71), 3) := by decide +kernel
theorem dL_closed_81 : decode cL_closed 81 = .ok (.iload_n 2, 1) := by decide +kernel
theorem dL_closed_82 : decode cL_closed 82 = .ok (.iload_n 3, 1) := by decide +kernel
theorem dL_closed_83 : decode cL_closed 83 = .ok (.if_icmp .ne 7, 3) := by decide +kernel
theorem dL_closed_86 : decode cL_closed 86 = .ok (.iconst 1, 1) := by decide +kernel
theorem dL_closed_87 : decode cL_closed 87 = .ok (.goto 4, 3) := by decide +kernel
theorem dL_closed_90 : decode cL_closed 90 = .ok (.iconst 0, 1) := by decide +kernel
theorem dL_closed_91 : decode cL_closed 91 = .ok (.ireturn, 1) := by decide +kernel
theorem dL_component_0 : decode cL_component 0 = .ok (.iconst 1, 1) := by decide +kernel
theorem dL_component_1 : decode cL_component 1 = .ok (.iload_n 0, 1) := by decide +kernel
theorem dL_component_2 : decode cL_component 2 = .ok (.ishl, 1) := by decide +kernel
theorem dL_component_3 : decode cL_component 3 = .ok (.istore_n 3, 1) := by decide +kernel
theorem dL_component_4 : decode cL_component 4 = .ok (.iconst 0, 1) := by decide +kernel
theorem dL_component_5 : decode cL_component 5 = .ok (.istore 4, 2) := by decide +kernel
theorem dL_component_7 : decode cL_component 7 = .ok (.iload 4, 2) := by decide +kernel
theorem dL_component_9 : decode cL_component 9 = .ok (.bipush 7, 2) := by decide +kernel
theorem dL_component_11 : decode cL_component 11 = .ok (.if_icmp .ge 78, 3) := by decide +kernel
theorem dL_component_14 : decode cL_component 14 = .ok (.iconst 0, 1) := by decide +kernel
theorem dL_component_15 : decode cL_component 15 = .ok (.istore 5, 2) := by decide +kernel
theorem dL_component_17 : decode cL_component 17 = .ok (.iload 5, 2) := by decide +kernel
theorem dL_component_19 : decode cL_component 19 = .ok (.aload_n 1, 1) := by decide +kernel
theorem dL_component_20 : decode cL_component 20 = .ok (.iconst 2, 1) := by decide +kernel
theorem dL_component_21 : decode cL_component 21 = .ok (.iaload, 1) := by decide +kernel
theorem dL_component_22 : decode cL_component 22 = .ok (.if_icmp .ge 61, 3) := by decide +kernel
theorem dL_component_25 : decode cL_component 25 = .ok (.iload_n 3, 1) := by decide +kernel
theorem dL_component_26 : decode cL_component 26 = .ok (.aload_n 2, 1) := by decide +kernel
theorem dL_component_27 : decode cL_component 27 = .ok (.iconst 4, 1) := by decide +kernel
theorem dL_component_28 : decode cL_component 28 = .ok (.iload 5, 2) := by decide +kernel
theorem dL_component_30 : decode cL_component 30 = .ok (.imul, 1) := by decide +kernel
theorem dL_component_31 : decode cL_component 31 = .ok (.iconst 1, 1) := by decide +kernel
theorem dL_component_32 : decode cL_component 32 = .ok (.iadd, 1) := by decide +kernel
theorem dL_component_33 : decode cL_component 33 = .ok (.iaload, 1) := by decide +kernel
theorem dL_component_34 : decode cL_component 34 = .ok (.ishr, 1) := by decide +kernel
theorem dL_component_35 : decode cL_component 35 = .ok (.iconst 1, 1) := by decide +kernel
theorem dL_component_36 : decode cL_component 36 = .ok (.iand, 1) := by decide +kernel
theorem dL_component_37 : decode cL_component 37 = .ok (.iload_n 3, 1) := by decide +kernel
theorem dL_component_38 : decode cL_component 38 = .ok (.aload_n 2, 1) := by decide +kernel
theorem dL_component_39 : decode cL_component 39 = .ok (.iconst 4, 1) := by decide +kernel
theorem dL_component_40 : decode cL_component 40 = .ok (.iload 5, 2) := by decide +kernel
theorem dL_component_42 : decode cL_component 42 = .ok (.imul, 1) := by decide +kernel
theorem dL_component_43 : decode cL_component 43 = .ok (.iconst 2, 1) := by decide +kernel
theorem dL_component_44 : decode cL_component 44 = .ok (.iadd, 1) := by decide +kernel
theorem dL_component_45 : decode cL_component 45 = .ok (.iaload, 1) := by decide +kernel
theorem dL_component_46 : decode cL_component 46 = .ok (.ishr, 1) := by decide +kernel
theorem dL_component_47 : decode cL_component 47 = .ok (.iconst 1, 1) := by decide +kernel
theorem dL_component_48 : decode cL_component 48 = .ok (.iand, 1) := by decide +kernel
theorem dL_component_49 : decode cL_component 49 = .ok (.iadd, 1) := by decide +kernel
theorem dL_component_50 : decode cL_component 50 = .ok (.ifCond .le 27, 3) := by decide +kernel
theorem dL_component_53 : decode cL_component 53 = .ok (.iload_n 3, 1) := by decide +kernel
theorem dL_component_54 : decode cL_component 54 = .ok (.iconst 1, 1) := by decide +kernel
theorem dL_component_55 : decode cL_component 55 = .ok (.aload_n 2, 1) := by decide +kernel
theorem dL_component_56 : decode cL_component 56 = .ok (.iconst 4, 1) := by decide +kernel
theorem dL_component_57 : decode cL_component 57 = .ok (.iload 5, 2) := by decide +kernel
theorem dL_component_59 : decode cL_component 59 = .ok (.imul, 1) := by decide +kernel
theorem dL_component_60 : decode cL_component 60 = .ok (.iconst 1, 1) := by decide +kernel
theorem dL_component_61 : decode cL_component 61 = .ok (.iadd, 1) := by decide +kernel
theorem dL_component_62 : decode cL_component 62 = .ok (.iaload, 1) := by decide +kernel
theorem dL_component_63 : decode cL_component 63 = .ok (.ishl, 1) := by decide +kernel
theorem dL_component_64 : decode cL_component 64 = .ok (.iconst 1, 1) := by decide +kernel
theorem dL_component_65 : decode cL_component 65 = .ok (.aload_n 2, 1) := by decide +kernel
theorem dL_component_66 : decode cL_component 66 = .ok (.iconst 4, 1) := by decide +kernel
theorem dL_component_67 : decode cL_component 67 = .ok (.iload 5, 2) := by decide +kernel
theorem dL_component_69 : decode cL_component 69 = .ok (.imul, 1) := by decide +kernel
theorem dL_component_70 : decode cL_component 70 = .ok (.iconst 2, 1) := by decide +kernel
theorem dL_component_71 : decode cL_component 71 = .ok (.iadd, 1) := by decide +kernel
theorem dL_component_72 : decode cL_component 72 = .ok (.iaload, 1) := by decide +kernel
theorem dL_component_73 : decode cL_component 73 = .ok (.ishl, 1) := by decide +kernel
theorem dL_component_74 : decode cL_component 74 = .ok (.ior, 1) := by decide +kernel
theorem dL_component_75 : decode cL_component 75 = .ok (.ior, 1) := by decide +kernel
theorem dL_component_76 : decode cL_component 76 = .ok (.istore_n 3, 1) := by decide +kernel
theorem dL_component_77 : decode cL_component 77 = .ok (.iinc 5 1, 3) := by decide +kernel
theorem dL_component_80 : decode cL_component 80 = .ok (.goto (-63), 3) := by decide +kernel
theorem dL_component_83 : decode cL_component 83 = .ok (.iinc 4 1, 3) := by decide +kernel
theorem dL_component_86 : decode cL_component 86 = .ok (.goto (-79), 3) := by decide +kernel
theorem dL_component_89 : decode cL_component 89 = .ok (.iload_n 3, 1) := by decide +kernel
theorem dL_component_90 : decode cL_component 90 = .ok (.ireturn, 1) := by decide +kernel
theorem dL_digit_0 : decode cL_digit 0 = .ok (.iload_n 0, 1) := by decide +kernel
theorem dL_digit_1 : decode cL_digit 1 = .ok (.istore_n 3, 1) := by decide +kernel
theorem dL_digit_2 : decode cL_digit 2 = .ok (.aload_n 2, 1) := by decide +kernel
theorem dL_digit_3 : decode cL_digit 3 = .ok (.iconst 1, 1) := by decide +kernel
theorem dL_digit_4 : decode cL_digit 4 = .ok (.iaload, 1) := by decide +kernel
theorem dL_digit_5 : decode cL_digit 5 = .ok (.iconst 1, 1) := by decide +kernel
theorem dL_digit_6 : decode cL_digit 6 = .ok (.isub, 1) := by decide +kernel
theorem dL_digit_7 : decode cL_digit 7 = .ok (.istore 4, 2) := by decide +kernel
theorem dL_digit_9 : decode cL_digit 9 = .ok (.iload 4, 2) := by decide +kernel
theorem dL_digit_11 : decode cL_digit 11 = .ok (.iload_n 1, 1) := by decide +kernel
theorem dL_digit_12 : decode cL_digit 12 = .ok (.if_icmp .le 15, 3) := by decide +kernel
theorem dL_digit_15 : decode cL_digit 15 = .ok (.iload_n 3, 1) := by decide +kernel
theorem dL_digit_16 : decode cL_digit 16 = .ok (.aload_n 2, 1) := by decide +kernel
theorem dL_digit_17 : decode cL_digit 17 = .ok (.iconst 0, 1) := by decide +kernel
theorem dL_digit_18 : decode cL_digit 18 = .ok (.iaload, 1) := by decide +kernel
theorem dL_digit_19 : decode cL_digit 19 = .ok (.idiv, 1) := by decide +kernel
theorem dL_digit_20 : decode cL_digit 20 = .ok (.istore_n 3, 1) := by decide +kernel
theorem dL_digit_21 : decode cL_digit 21 = .ok (.iinc 4 (-1), 3) := by decide +kernel
theorem dL_digit_24 : decode cL_digit 24 = .ok (.goto (-15), 3) := by decide +kernel
theorem dL_digit_27 : decode cL_digit 27 = .ok (.iload_n 3, 1) := by decide +kernel
theorem dL_digit_28 : decode cL_digit 28 = .ok (.aload_n 2, 1) := by decide +kernel
theorem dL_digit_29 : decode cL_digit 29 = .ok (.iconst 0, 1) := by decide +kernel
theorem dL_digit_30 : decode cL_digit 30 = .ok (.iaload, 1) := by decide +kernel
theorem dL_digit_31 : decode cL_digit 31 = .ok (.irem, 1) := by decide +kernel
theorem dL_digit_32 : decode cL_digit 32 = .ok (.ireturn, 1) := by decide +kernel
theorem dL_good_0 : decode cL_good 0 = .ok (.iconst 0, 1) := by decide +kernel
theorem dL_good_1 : decode cL_good 1 = .ok (.istore 4, 2) := by decide +kernel
theorem dL_good_3 : decode cL_good 3 = .ok (.iload 4, 2) := by decide +kernel
theorem dL_good_5 : decode cL_good 5 = .ok (.aload_n 1, 1) := by decide +kernel
theorem dL_good_6 : decode cL_good 6 = .ok (.iconst 2, 1) := by decide +kernel
theorem dL_good_7 : decode cL_good 7 = .ok (.iaload, 1) := by decide +kernel
theorem dL_good_8 : decode cL_good 8 = .ok (.if_icmp .ge 99, 3) := by decide +kernel
theorem dL_good_11 : decode cL_good 11 = .ok (.iload_n 0, 1) := by decide +kernel
theorem dL_good_12 : decode cL_good 12 = .ok (.aload_n 3, 1) := by decide +kernel
theorem dL_good_13 : decode cL_good 13 = .ok (.iconst 4, 1) := by decide +kernel
theorem dL_good_14 : decode cL_good 14 = .ok (.iload 4, 2) := by decide +kernel
theorem dL_good_16 : decode cL_good 16 = .ok (.imul, 1) := by decide +kernel
theorem dL_good_17 : decode cL_good 17 = .ok (.iaload, 1) := by decide +kernel
theorem dL_good_18 : decode cL_good 18 = .ok (.aload_n 1, 1) := by decide +kernel
theorem dL_good_19 : decode cL_good 19 = .ok (.invokestatic 25, 3) := by decide +kernel
theorem dL_good_22 : decode cL_good 22 = .ok (.istore 5, 2) := by decide +kernel
theorem dL_good_24 : decode cL_good 24 = .ok (.iload_n 0, 1) := by decide +kernel
theorem dL_good_25 : decode cL_good 25 = .ok (.aload_n 3, 1) := by decide +kernel
theorem dL_good_26 : decode cL_good 26 = .ok (.iconst 4, 1) := by decide +kernel
theorem dL_good_27 : decode cL_good 27 = .ok (.iload 4, 2) := by decide +kernel
theorem dL_good_29 : decode cL_good 29 = .ok (.imul, 1) := by decide +kernel
theorem dL_good_30 : decode cL_good 30 = .ok (.iconst 1, 1) := by decide +kernel
theorem dL_good_31 : decode cL_good 31 = .ok (.iadd, 1) := by decide +kernel
theorem dL_good_32 : decode cL_good 32 = .ok (.iaload, 1) := by decide +kernel
theorem dL_good_33 : decode cL_good 33 = .ok (.aload_n 1, 1) := by decide +kernel
theorem dL_good_34 : decode cL_good 34 = .ok (.invokestatic 25, 3) := by decide +kernel
theorem dL_good_37 : decode cL_good 37 = .ok (.istore 6, 2) := by decide +kernel
theorem dL_good_39 : decode cL_good 39 = .ok (.iload_n 0, 1) := by decide +kernel
theorem dL_good_40 : decode cL_good 40 = .ok (.aload_n 3, 1) := by decide +kernel
theorem dL_good_41 : decode cL_good 41 = .ok (.iconst 4, 1) := by decide +kernel
theorem dL_good_42 : decode cL_good 42 = .ok (.iload 4, 2) := by decide +kernel
theorem dL_good_44 : decode cL_good 44 = .ok (.imul, 1) := by decide +kernel
theorem dL_good_45 : decode cL_good 45 = .ok (.iconst 2, 1) := by decide +kernel
theorem dL_good_46 : decode cL_good 46 = .ok (.iadd, 1) := by decide +kernel
theorem dL_good_47 : decode cL_good 47 = .ok (.iaload, 1) := by decide +kernel
theorem dL_good_48 : decode cL_good 48 = .ok (.aload_n 1, 1) := by decide +kernel
theorem dL_good_49 : decode cL_good 49 = .ok (.invokestatic 25, 3) := by decide +kernel
theorem dL_good_52 : decode cL_good 52 = .ok (.istore 7, 2) := by decide +kernel
theorem dL_good_54 : decode cL_good 54 = .ok (.aload_n 3, 1) := by decide +kernel
theorem dL_good_55 : decode cL_good 55 = .ok (.iconst 4, 1) := by decide +kernel
theorem dL_good_56 : decode cL_good 56 = .ok (.iload 4, 2) := by decide +kernel
theorem dL_good_58 : decode cL_good 58 = .ok (.imul, 1) := by decide +kernel
theorem dL_good_59 : decode cL_good 59 = .ok (.iconst 3, 1) := by decide +kernel
theorem dL_good_60 : decode cL_good 60 = .ok (.iadd, 1) := by decide +kernel
theorem dL_good_61 : decode cL_good 61 = .ok (.iaload, 1) := by decide +kernel
theorem dL_good_62 : decode cL_good 62 = .ok (.iconst 1, 1) := by decide +kernel
theorem dL_good_63 : decode cL_good 63 = .ok (.if_icmp .ne 21, 3) := by decide +kernel
theorem dL_good_66 : decode cL_good 66 = .ok (.iload 7, 2) := by decide +kernel
theorem dL_good_68 : decode cL_good 68 = .ok (.aload_n 2, 1) := by decide +kernel
theorem dL_good_69 : decode cL_good 69 = .ok (.bipush 6, 2) := by decide +kernel
theorem dL_good_71 : decode cL_good 71 = .ok (.iload 6, 2) := by decide +kernel
theorem dL_good_73 : decode cL_good 73 = .ok (.imul, 1) := by decide +kernel
theorem dL_good_74 : decode cL_good 74 = .ok (.iload 5, 2) := by decide +kernel
theorem dL_good_76 : decode cL_good 76 = .ok (.iadd, 1) := by decide +kernel
theorem dL_good_77 : decode cL_good 77 = .ok (.iaload, 1) := by decide +kernel
theorem dL_good_78 : decode cL_good 78 = .ok (.if_icmp .eq 23, 3) := by decide +kernel
theorem dL_good_81 : decode cL_good 81 = .ok (.goto 18, 3) := by decide +kernel
theorem dL_good_84 : decode cL_good 84 = .ok (.iload 6, 2) := by decide +kernel
theorem dL_good_86 : decode cL_good 86 = .ok (.aload_n 2, 1) := by decide +kernel
theorem dL_good_87 : decode cL_good 87 = .ok (.bipush 6, 2) := by decide +kernel
theorem dL_good_89 : decode cL_good 89 = .ok (.iload 7, 2) := by decide +kernel
theorem dL_good_91 : decode cL_good 91 = .ok (.imul, 1) := by decide +kernel
theorem dL_good_92 : decode cL_good 92 = .ok (.iload 5, 2) := by decide +kernel
theorem dL_good_94 : decode cL_good 94 = .ok (.iadd, 1) := by decide +kernel
theorem dL_good_95 : decode cL_good 95 = .ok (.iaload, 1) := by decide +kernel
theorem dL_good_96 : decode cL_good 96 = .ok (.if_icmp .eq 5, 3) := by decide +kernel
theorem dL_good_99 : decode cL_good 99 = .ok (.iconst 0, 1) := by decide +kernel
theorem dL_good_100 : decode cL_good 100 = .ok (.ireturn, 1) := by decide +kernel
theorem dL_good_101 : decode cL_good 101 = .ok (.iinc 4 1, 3) := by decide +kernel
theorem dL_good_104 : decode cL_good 104 = .ok (.goto (-101), 3) := by decide +kernel
theorem dL_good_107 : decode cL_good 107 = .ok (.iconst 1, 1) := by decide +kernel
theorem dL_good_108 : decode cL_good 108 = .ok (.ireturn, 1) := by decide +kernel
theorem dL_colourings_0 : decode cL_colourings 0 = .ok (.iconst 1, 1) := by decide +kernel
theorem dL_colourings_1 : decode cL_colourings 1 = .ok (.istore 5, 2) := by decide +kernel
theorem dL_colourings_3 : decode cL_colourings 3 = .ok (.iconst 0, 1) := by decide +kernel
theorem dL_colourings_4 : decode cL_colourings 4 = .ok (.istore 6, 2) := by decide +kernel
theorem dL_colourings_6 : decode cL_colourings 6 = .ok (.iload 6, 2) := by decide +kernel
theorem dL_colourings_8 : decode cL_colourings 8 = .ok (.aload_n 2, 1) := by decide +kernel
theorem dL_colourings_9 : decode cL_colourings 9 = .ok (.iconst 1, 1) := by decide +kernel
theorem dL_colourings_10 : decode cL_colourings 10 = .ok (.iaload, 1) := by decide +kernel
theorem dL_colourings_11 : decode cL_colourings 11 = .ok (.if_icmp .ge 17, 3) := by decide +kernel
theorem dL_colourings_14 : decode cL_colourings 14 = .ok (.iload 5, 2) := by decide +kernel
theorem dL_colourings_16 : decode cL_colourings 16 = .ok (.aload_n 2, 1) := by decide +kernel
theorem dL_colourings_17 : decode cL_colourings 17 = .ok (.iconst 0, 1) := by decide +kernel
theorem dL_colourings_18 : decode cL_colourings 18 = .ok (.iaload, 1) := by decide +kernel
theorem dL_colourings_19 : decode cL_colourings 19 = .ok (.imul, 1) := by decide +kernel
theorem dL_colourings_20 : decode cL_colourings 20 = .ok (.istore 5, 2) := by decide +kernel
theorem dL_colourings_22 : decode cL_colourings 22 = .ok (.iinc 6 1, 3) := by decide +kernel
theorem dL_colourings_25 : decode cL_colourings 25 = .ok (.goto (-19), 3) := by decide +kernel
theorem dL_colourings_28 : decode cL_colourings 28 = .ok (.iload_n 1, 1) := by decide +kernel
theorem dL_colourings_29 : decode cL_colourings 29 = .ok (.aload_n 2, 1) := by decide +kernel
theorem dL_colourings_30 : decode cL_colourings 30 = .ok (.iconst 1, 1) := by decide +kernel
theorem dL_colourings_31 : decode cL_colourings 31 = .ok (.iaload, 1) := by decide +kernel
theorem dL_colourings_32 : decode cL_colourings 32 = .ok (.invokestatic 29, 3) := by decide +kernel
theorem dL_colourings_35 : decode cL_colourings 35 = .ok (.istore 6, 2) := by decide +kernel
theorem dL_colourings_37 : decode cL_colourings 37 = .ok (.iload_n 1, 1) := by decide +kernel
theorem dL_colourings_38 : decode cL_colourings 38 = .ok (.iconst 3, 1) := by decide +kernel
theorem dL_colourings_39 : decode cL_colourings 39 = .ok (.ishr, 1) := by decide +kernel
theorem dL_colourings_40 : decode cL_colourings 40 = .ok (.aload_n 2, 1) := by decide +kernel
theorem dL_colourings_41 : decode cL_colourings 41 = .ok (.iconst 1, 1) := by decide +kernel
theorem dL_colourings_42 : decode cL_colourings 42 = .ok (.iaload, 1) := by decide +kernel
theorem dL_colourings_43 : decode cL_colourings 43 = .ok (.invokestatic 29, 3) := by decide +kernel
theorem dL_colourings_46 : decode cL_colourings 46 = .ok (.istore 7, 2) := by decide +kernel
theorem dL_colourings_48 : decode cL_colourings 48 = .ok (.iload_n 1, 1) := by decide +kernel
theorem dL_colourings_49 : decode cL_colourings 49 = .ok (.bipush 6, 2) := by decide +kernel
theorem dL_colourings_51 : decode cL_colourings 51 = .ok (.ishr, 1) := by decide +kernel
theorem dL_colourings_52 : decode cL_colourings 52 = .ok (.aload_n 2, 1) := by decide +kernel
theorem dL_colourings_53 : decode cL_colourings 53 = .ok (.iconst 0, 1) := by decide +kernel
theorem dL_colourings_54 : decode cL_colourings 54 = .ok (.iaload, 1) := by decide +kernel
theorem dL_colourings_55 : decode cL_colourings 55 = .ok (.invokestatic 29, 3) := by decide +kernel
theorem dL_colourings_58 : decode cL_colourings 58 = .ok (.istore 8, 2) := by decide +kernel
theorem dL_colourings_60 : decode cL_colourings 60 = .ok (.iconst 0, 1) := by decide +kernel
theorem dL_colourings_61 : decode cL_colourings 61 = .ok (.istore 9, 2) := by decide +kernel
theorem dL_colourings_63 : decode cL_colourings 63 = .ok (.iconst 0, 1) := by decide +kernel
theorem dL_colourings_64 : decode cL_colourings 64 = .ok (.istore 10, 2) := by decide +kernel
theorem dL_colourings_66 : decode cL_colourings 66 = .ok (.iconst 0, 1) := by decide +kernel
theorem dL_colourings_67 : decode cL_colourings 67 = .ok (.istore 11, 2) := by decide +kernel
theorem dL_colourings_69 : decode cL_colourings 69 = .ok (.bipush 7, 2) := by decide +kernel
theorem dL_colourings_71 : decode cL_colourings 71 = .ok (.newarray .int, 2) := by decide +kernel
theorem dL_colourings_73 : decode cL_colourings 73 = .ok (.astore 12, 2) := by decide +kernel
theorem dL_colourings_75 : decode cL_colourings 75 = .ok (.iload_n 1, 1) := by decide +kernel
theorem dL_colourings_76 : decode cL_colourings 76 = .ok (.bipush 8, 2) := by decide +kernel
theorem dL_colourings_78 : decode cL_colourings 78 = .ok (.ishr, 1) := by decide +kernel
theorem dL_colourings_79 : decode cL_colourings 79 = .ok (.bipush 40, 2) := by decide +kernel
theorem dL_colourings_81 : decode cL_colourings 81 = .ok (.invokestatic 29, 3) := by decide +kernel
theorem dL_colourings_84 : decode cL_colourings 84 = .ok (.istore 13, 2) := by decide +kernel
theorem dL_colourings_86 : decode cL_colourings 86 = .ok (.iconst 0, 1) := by decide +kernel
theorem dL_colourings_87 : decode cL_colourings 87 = .ok (.istore 14, 2) := by decide +kernel
theorem dL_colourings_89 : decode cL_colourings 89 = .ok (.iload 14, 2) := by decide +kernel
theorem dL_colourings_91 : decode cL_colourings 91 = .ok (.iload 5, 2) := by decide +kernel
theorem dL_colourings_93 : decode cL_colourings 93 = .ok (.if_icmp .ge 171, 3) := by decide +kernel
theorem dL_colourings_96 : decode cL_colourings 96 = .ok (.iload 14, 2) := by decide +kernel
theorem dL_colourings_98 : decode cL_colourings 98 = .ok (.aload_n 2, 1) := by decide +kernel
theorem dL_colourings_99 : decode cL_colourings 99 = .ok (.aload_n 3, 1) := by decide +kernel
theorem dL_colourings_100 : decode cL_colourings 100 = .ok (.aload 4, 2) := by decide +kernel
theorem dL_colourings_102 : decode cL_colourings 102 = .ok (.invokestatic 33, 3) := by decide +kernel
theorem dL_colourings_105 : decode cL_colourings 105 = .ok (.ifCond .ne 6, 3) := by decide +kernel
theorem dL_colourings_108 : decode cL_colourings 108 = .ok (.goto 150, 3) := by decide +kernel
theorem dL_colourings_111 : decode cL_colourings 111 = .ok (.iconst 0, 1) := by decide +kernel
theorem dL_colourings_112 : decode cL_colourings 112 = .ok (.istore 15, 2) := by decide +kernel
theorem dL_colourings_114 : decode cL_colourings 114 = .ok (.iconst 0, 1) := by decide +kernel
theorem dL_colourings_115 : decode cL_colourings 115 = .ok (.istore 16, 2) := by decide +kernel
theorem dL_colourings_117 : decode cL_colourings 117 = .ok (.iload 16, 2) := by decide +kernel
theorem dL_colourings_119 : decode cL_colourings 119 = .ok (.aload_n 2, 1) := by decide +kernel
theorem dL_colourings_120 : decode cL_colourings 120 = .ok (.iconst 1, 1) := by decide +kernel
theorem dL_colourings_121 : decode cL_colourings 121 = .ok (.iaload, 1) := by decide +kernel
theorem dL_colourings_122 : decode cL_colourings 122 = .ok (.if_icmp .ge 24, 3) := by decide +kernel
theorem dL_colourings_125 : decode cL_colourings 125 = .ok (.iload 15, 2) := by decide +kernel
theorem dL_colourings_127 : decode cL_colourings 127 = .ok (.iconst 1, 1) := by decide +kernel
theorem dL_colourings_128 : decode cL_colourings 128 = .ok (.iload 14, 2) := by decide +kernel
theorem dL_colourings_130 : decode cL_colourings 130 = .ok (.iload 16, 2) := by decide +kernel
theorem dL_colourings_132 : decode cL_colourings 132 = .ok (.aload_n 2, 1) := by decide +kernel
theorem dL_colourings_133 : decode cL_colourings 133 = .ok (.invokestatic 25, 3) := by decide +kernel
theorem dL_colourings_136 : decode cL_colourings 136 = .ok (.ishl, 1) := by decide +kernel
theorem dL_colourings_137 : decode cL_colourings 137 = .ok (.ior, 1) := by decide +kernel
theorem dL_colourings_138 : decode cL_colourings 138 = .ok (.istore 15, 2) := by decide +kernel
theorem dL_colourings_140 : decode cL_colourings 140 = .ok (.iinc 16 1, 3) := by decide +kernel
theorem dL_colourings_143 : decode cL_colourings 143 = .ok (.goto (-26), 3) := by decide +kernel
theorem dL_colourings_146 : decode cL_colourings 146 = .ok (.iload 9, 2) := by decide +kernel
theorem dL_colourings_148 : decode cL_colourings 148 = .ok (.iload 13, 2) := by decide +kernel
theorem dL_colourings_150 : decode cL_colourings 150 = .ok (.if_icmp .ne 41, 3) := by decide +kernel
theorem dL_colourings_153 : decode cL_colourings 153 = .ok (.iconst 0, 1) := by decide +kernel
theorem dL_colourings_154 : decode cL_colourings 154 = .ok (.istore 16, 2) := by decide +kernel
theorem dL_colourings_156 : decode cL_colourings 156 = .ok (.iload 16, 2) := by decide +kernel
theorem dL_colourings_158 : decode cL_colourings 158 = .ok (.aload_n 2, 1) := by decide +kernel
theorem dL_colourings_159 : decode cL_colourings 159 = .ok (.iconst 1, 1) := by decide +kernel
theorem dL_colourings_160 : decode cL_colourings 160 = .ok (.iaload, 1) := by decide +kernel
theorem dL_colourings_161 : decode cL_colourings 161 = .ok (.if_icmp .ge 30, 3) := by decide +kernel
theorem dL_colourings_164 : decode cL_colourings 164 = .ok (.aload_n 0, 1) := by decide +kernel
theorem dL_colourings_165 : decode cL_colourings 165 = .ok (.iload 13, 2) := by decide +kernel
theorem dL_colourings_167 : decode cL_colourings 167 = .ok (.iload 16, 2) := by decide +kernel
theorem dL_colourings_169 : decode cL_colourings 169 = .ok (.invokevirtual 37, 3) := by decide +kernel
theorem dL_colourings_172 : decode cL_colourings 172 = .ok (.iload 14, 2) := by decide +kernel
theorem dL_colourings_174 : decode cL_colourings 174 = .ok (.iload 16, 2) := by decide +kernel
theorem dL_colourings_176 : decode cL_colourings 176 = .ok (.aload_n 2, 1) := by decide +kernel
theorem dL_colourings_177 : decode cL_colourings 177 = .ok (.invokestatic 25, 3) := by decide +kernel
theorem dL_colourings_180 : decode cL_colourings 180 = .ok (.if_icmp .eq 5, 3) := by decide +kernel
theorem dL_colourings_183 : decode cL_colourings 183 = .ok (.iconst 0, 1) := by decide +kernel
theorem dL_colourings_184 : decode cL_colourings 184 = .ok (.ireturn, 1) := by decide +kernel
theorem dL_colourings_185 : decode cL_colourings 185 = .ok (.iinc 16 1, 3) := by decide +kernel
theorem dL_colourings_188 : decode cL_colourings 188 = .ok (.goto (-32), 3) := by decide +kernel
theorem dL_colourings_191 : decode cL_colourings 191 = .ok (.iinc 9 1, 3) := by decide +kernel
theorem dL_colourings_194 : decode cL_colourings 194 = .ok (.iload 10, 2) := by decide +kernel
theorem dL_colourings_196 : decode cL_colourings 196 = .ok (.iload 14, 2) := by decide +kernel
theorem dL_colourings_198 : decode cL_colourings 198 = .ok (.iload 6, 2) := by decide +kernel
theorem dL_colourings_200 : decode cL_colourings 200 = .ok (.aload_n 2, 1) := by decide +kernel
theorem dL_colourings_201 : decode cL_colourings 201 = .ok (.invokestatic 25, 3) := by decide +kernel
theorem dL_colourings_204 : decode cL_colourings 204 = .ok (.iload 8, 2) := by decide +kernel
theorem dL_colourings_206 : decode cL_colourings 206 = .ok (.if_icmp .ne 7, 3) := by decide +kernel
theorem dL_colourings_209 : decode cL_colourings 209 = .ok (.iconst 1, 1) := by decide +kernel
theorem dL_colourings_210 : decode cL_colourings 210 = .ok (.goto 4, 3) := by decide +kernel
theorem dL_colourings_213 : decode cL_colourings 213 = .ok (.iconst 0, 1) := by decide +kernel
theorem dL_colourings_214 : decode cL_colourings 214 = .ok (.iadd, 1) := by decide +kernel
theorem dL_colourings_215 : decode cL_colourings 215 = .ok (.istore 10, 2) := by decide +kernel
theorem dL_colourings_217 : decode cL_colourings 217 = .ok (.iload 11, 2) := by decide +kernel
theorem dL_colourings_219 : decode cL_colourings 219 = .ok (.iload 14, 2) := by decide +kernel
theorem dL_colourings_221 : decode cL_colourings 221 = .ok (.iload 6, 2) := by decide +kernel
theorem dL_colourings_223 : decode cL_colourings 223 = .ok (.aload_n 2, 1) := by decide +kernel
theorem dL_colourings_224 : decode cL_colourings 224 = .ok (.invokestatic 25, 3) := by decide +kernel
theorem dL_colourings_227 : decode cL_colourings 227 = .ok (.iload 14, 2) := by decide +kernel
theorem dL_colourings_229 : decode cL_colourings 229 = .ok (.iload 7, 2) := by decide +kernel
theorem dL_colourings_231 : decode cL_colourings 231 = .ok (.aload_n 2, 1) := by decide +kernel
theorem dL_colourings_232 : decode cL_colourings 232 = .ok (.invokestatic 25, 3) := by decide +kernel
theorem dL_colourings_235 : decode cL_colourings 235 = .ok (.if_icmp .ne 7, 3) := by decide +kernel
theorem dL_colourings_238 : decode cL_colourings 238 = .ok (.iconst 1, 1) := by decide +kernel
theorem dL_colourings_239 : decode cL_colourings 239 = .ok (.goto 4, 3) := by decide +kernel
theorem dL_colourings_242 : decode cL_colourings 242 = .ok (.iconst 0, 1) := by decide +kernel
theorem dL_colourings_243 : decode cL_colourings 243 = .ok (.iadd, 1) := by decide +kernel
theorem dL_colourings_244 : decode cL_colourings 244 = .ok (.istore 11, 2) := by decide +kernel
theorem dL_colourings_246 : decode cL_colourings 246 = .ok (.aload 12, 2) := by decide +kernel
theorem dL_colourings_248 : decode cL_colourings 248 = .ok (.iload 15, 2) := by decide +kernel
theorem dL_colourings_250 : decode cL_colourings 250 = .ok (.invokestatic 16, 3) := by decide +kernel
theorem dL_colourings_253 : decode cL_colourings 253 = .ok (.dup2, 1) := by decide +kernel
theorem dL_colourings_254 : decode cL_colourings 254 = .ok (.iaload, 1) := by decide +kernel
theorem dL_colourings_255 : decode cL_colourings 255 = .ok (.iconst 1, 1) := by decide +kernel
theorem dL_colourings_256 : decode cL_colourings 256 = .ok (.iadd, 1) := by decide +kernel
theorem dL_colourings_257 : decode cL_colourings 257 = .ok (.iastore, 1) := by decide +kernel
theorem dL_colourings_258 : decode cL_colourings 258 = .ok (.iinc 14 1, 3) := by decide +kernel
theorem dL_colourings_261 : decode cL_colourings 261 = .ok (.goto (-172), 3) := by decide +kernel
theorem dL_colourings_264 : decode cL_colourings 264 = .ok (.iconst 1, 1) := by decide +kernel
theorem dL_colourings_265 : decode cL_colourings 265 = .ok (.istore 14, 2) := by decide +kernel
theorem dL_colourings_267 : decode cL_colourings 267 = .ok (.iload 14, 2) := by decide +kernel
theorem dL_colourings_269 : decode cL_colourings 269 = .ok (.bipush 7, 2) := by decide +kernel
theorem dL_colourings_271 : decode cL_colourings 271 = .ok (.if_icmp .ge 25, 3) := by decide +kernel
theorem dL_colourings_274 : decode cL_colourings 274 = .ok (.aload_n 0, 1) := by decide +kernel
theorem dL_colourings_275 : decode cL_colourings 275 = .ok (.iload 14, 2) := by decide +kernel
theorem dL_colourings_277 : decode cL_colourings 277 = .ok (.invokevirtual 40, 3) := by decide +kernel
theorem dL_colourings_280 : decode cL_colourings 280 = .ok (.aload 12, 2) := by decide +kernel
theorem dL_colourings_282 : decode cL_colourings 282 = .ok (.iload 14, 2) := by decide +kernel
theorem dL_colourings_284 : decode cL_colourings 284 = .ok (.iaload, 1) := by decide +kernel
theorem dL_colourings_285 : decode cL_colourings 285 = .ok (.if_icmp .eq 5, 3) := by decide +kernel
theorem dL_colourings_288 : decode cL_colourings 288 = .ok (.iconst 0, 1) := by decide +kernel
theorem dL_colourings_289 : decode cL_colourings 289 = .ok (.ireturn, 1) := by decide +kernel
theorem dL_colourings_290 : decode cL_colourings 290 = .ok (.iinc 14 1, 3) := by decide +kernel
theorem dL_colourings_293 : decode cL_colourings 293 = .ok (.goto (-26), 3) := by decide +kernel
theorem dL_colourings_296 : decode cL_colourings 296 = .ok (.aload_n 0, 1) := by decide +kernel
theorem dL_colourings_297 : decode cL_colourings 297 = .ok (.invokevirtual 43, 3) := by decide +kernel
theorem dL_colourings_300 : decode cL_colourings 300 = .ok (.iload 9, 2) := by decide +kernel
theorem dL_colourings_302 : decode cL_colourings 302 = .ok (.if_icmp .ne 45, 3) := by decide +kernel
theorem dL_colourings_305 : decode cL_colourings 305 = .ok (.aload_n 0, 1) := by decide +kernel
theorem dL_colourings_306 : decode cL_colourings 306 = .ok (.iload 6, 2) := by decide +kernel
theorem dL_colourings_308 : decode cL_colourings 308 = .ok (.iload 8, 2) := by decide +kernel
theorem dL_colourings_310 : decode cL_colourings 310 = .ok (.invokevirtual 47, 3) := by decide +kernel
theorem dL_colourings_313 : decode cL_colourings 313 = .ok (.iload 10, 2) := by decide +kernel
theorem dL_colourings_315 : decode cL_colourings 315 = .ok (.if_icmp .ne 32, 3) := by decide +kernel
theorem dL_colourings_318 : decode cL_colourings 318 = .ok (.aload_n 0, 1) := by decide +kernel
theorem dL_colourings_319 : decode cL_colourings 319 = .ok (.iload 6, 2) := by decide +kernel
theorem dL_colourings_321 : decode cL_colourings 321 = .ok (.iload 7, 2) := by decide +kernel
theorem dL_colourings_323 : decode cL_colourings 323 = .ok (.invokevirtual 50, 3) := by decide +kernel
theorem dL_colourings_326 : decode cL_colourings 326 = .ok (.iload 11, 2) := by decide +kernel
theorem dL_colourings_328 : decode cL_colourings 328 = .ok (.if_icmp .ne 19, 3) := by decide +kernel
theorem dL_colourings_331 : decode cL_colourings 331 = .ok (.aload_n 0, 1) := by decide +kernel
theorem dL_colourings_332 : decode cL_colourings 332 = .ok (.iload 9, 2) := by decide +kernel
theorem dL_colourings_334 : decode cL_colourings 334 = .ok (.iload 6, 2) := by decide +kernel
theorem dL_colourings_336 : decode cL_colourings 336 = .ok (.invokevirtual 37, 3) := by decide +kernel
theorem dL_colourings_339 : decode cL_colourings 339 = .ok (.iconst (-1), 1) := by decide +kernel
theorem dL_colourings_340 : decode cL_colourings 340 = .ok (.if_icmp .ne 7, 3) := by decide +kernel
theorem dL_colourings_343 : decode cL_colourings 343 = .ok (.iconst 1, 1) := by decide +kernel
theorem dL_colourings_344 : decode cL_colourings 344 = .ok (.goto 4, 3) := by decide +kernel
theorem dL_colourings_347 : decode cL_colourings 347 = .ok (.iconst 0, 1) := by decide +kernel
theorem dL_colourings_348 : decode cL_colourings 348 = .ok (.ireturn, 1) := by decide +kernel
theorem dL_same_0 : decode cL_same 0 = .ok (.aload_n 2, 1) := by decide +kernel
theorem dL_same_1 : decode cL_same 1 = .ok (.iconst 0, 1) := by decide +kernel
theorem dL_same_2 : decode cL_same 2 = .ok (.iaload, 1) := by decide +kernel
theorem dL_same_3 : decode cL_same 3 = .ok (.istore 5, 2) := by decide +kernel
theorem dL_same_5 : decode cL_same 5 = .ok (.iconst 0, 1) := by decide +kernel
theorem dL_same_6 : decode cL_same 6 = .ok (.istore 6, 2) := by decide +kernel
theorem dL_same_8 : decode cL_same 8 = .ok (.iconst 0, 1) := by decide +kernel
theorem dL_same_9 : decode cL_same 9 = .ok (.istore 7, 2) := by decide +kernel
theorem dL_same_11 : decode cL_same 11 = .ok (.iload 5, 2) := by decide +kernel
theorem dL_same_13 : decode cL_same 13 = .ok (.istore 8, 2) := by decide +kernel
theorem dL_same_15 : decode cL_same 15 = .ok (.iconst 0, 1) := by decide +kernel
theorem dL_same_16 : decode cL_same 16 = .ok (.istore 9, 2) := by decide +kernel
theorem dL_same_18 : decode cL_same 18 = .ok (.iload 9, 2) := by decide +kernel
theorem dL_same_20 : decode cL_same 20 = .ok (.iload 5, 2) := by decide +kernel
theorem dL_same_22 : decode cL_same 22 = .ok (.if_icmp .ge 171, 3) := by decide +kernel
theorem dL_same_25 : decode cL_same 25 = .ok (.iload 7, 2) := by decide +kernel
theorem dL_same_27 : decode cL_same 27 = .ok (.iload 9, 2) := by decide +kernel
theorem dL_same_29 : decode cL_same 29 = .ok (.ishr, 1) := by decide +kernel
theorem dL_same_30 : decode cL_same 30 = .ok (.iconst 1, 1) := by decide +kernel
theorem dL_same_31 : decode cL_same 31 = .ok (.iand, 1) := by decide +kernel
theorem dL_same_32 : decode cL_same 32 = .ok (.ifCond .ne 21, 3) := by decide +kernel
theorem dL_same_35 : decode cL_same 35 = .ok (.iload 7, 2) := by decide +kernel
theorem dL_same_37 : decode cL_same 37 = .ok (.iconst 1, 1) := by decide +kernel
theorem dL_same_38 : decode cL_same 38 = .ok (.iload 9, 2) := by decide +kernel
theorem dL_same_40 : decode cL_same 40 = .ok (.ishl, 1) := by decide +kernel
theorem dL_same_41 : decode cL_same 41 = .ok (.iconst 1, 1) := by decide +kernel
theorem dL_same_42 : decode cL_same 42 = .ok (.aload_n 2, 1) := by decide +kernel
theorem dL_same_43 : decode cL_same 43 = .ok (.aload_n 3, 1) := by decide +kernel
theorem dL_same_44 : decode cL_same 44 = .ok (.invokestatic 53, 3) := by decide +kernel
theorem dL_same_47 : decode cL_same 47 = .ok (.ior, 1) := by decide +kernel
theorem dL_same_48 : decode cL_same 48 = .ok (.istore 7, 2) := by decide +kernel
theorem dL_same_50 : decode cL_same 50 = .ok (.iinc 6 1, 3) := by decide +kernel
theorem dL_same_53 : decode cL_same 53 = .ok (.iconst 0, 1) := by decide +kernel
theorem dL_same_54 : decode cL_same 54 = .ok (.istore 10, 2) := by decide +kernel
theorem dL_same_56 : decode cL_same 56 = .ok (.iload 10, 2) := by decide +kernel
theorem dL_same_58 : decode cL_same 58 = .ok (.iload 5, 2) := by decide +kernel
theorem dL_same_60 : decode cL_same 60 = .ok (.if_icmp .ge 90, 3) := by decide +kernel
theorem dL_same_63 : decode cL_same 63 = .ok (.bipush (-6), 2) := by decide +kernel
theorem dL_same_65 : decode cL_same 65 = .ok (.istore 11, 2) := by decide +kernel
theorem dL_same_67 : decode cL_same 67 = .ok (.iload 5, 2) := by decide +kernel
theorem dL_same_69 : decode cL_same 69 = .ok (.iconst 1, 1) := by decide +kernel
theorem dL_same_70 : decode cL_same 70 = .ok (.isub, 1) := by decide +kernel
theorem dL_same_71 : decode cL_same 71 = .ok (.istore 12, 2) := by decide +kernel
theorem dL_same_73 : decode cL_same 73 = .ok (.iload 12, 2) := by decide +kernel
theorem dL_same_75 : decode cL_same 75 = .ok (.ifCond .lt 33, 3) := by decide +kernel
theorem dL_same_78 : decode cL_same 78 = .ok (.aload_n 3, 1) := by decide +kernel
theorem dL_same_79 : decode cL_same 79 = .ok (.bipush 6, 2) := by decide +kernel
theorem dL_same_81 : decode cL_same 81 = .ok (.iload 12, 2) := by decide +kernel
theorem dL_same_83 : decode cL_same 83 = .ok (.imul, 1) := by decide +kernel
theorem dL_same_84 : decode cL_same 84 = .ok (.iload 9, 2) := by decide +kernel
theorem dL_same_86 : decode cL_same 86 = .ok (.iadd, 1) := by decide +kernel
theorem dL_same_87 : decode cL_same 87 = .ok (.iaload, 1) := by decide +kernel
theorem dL_same_88 : decode cL_same 88 = .ok (.iload 10, 2) := by decide +kernel
theorem dL_same_90 : decode cL_same 90 = .ok (.if_icmp .ne 8, 3) := by decide +kernel
theorem dL_same_93 : decode cL_same 93 = .ok (.iload 12, 2) := by decide +kernel
theorem dL_same_95 : decode cL_same 95 = .ok (.goto 5, 3) := by decide +kernel
theorem dL_same_98 : decode cL_same 98 = .ok (.iload 11, 2) := by decide +kernel
theorem dL_same_100 : decode cL_same 100 = .ok (.istore 11, 2) := by decide +kernel
theorem dL_same_102 : decode cL_same 102 = .ok (.iinc 12 (-1), 3) := by decide +kernel
theorem dL_same_105 : decode cL_same 105 = .ok (.goto (-32), 3) := by decide +kernel
theorem dL_same_108 : decode cL_same 108 = .ok (.aload_n 0, 1) := by decide +kernel
theorem dL_same_109 : decode cL_same 109 = .ok (.iload 10, 2) := by decide +kernel
theorem dL_same_111 : decode cL_same 111 = .ok (.iload 9, 2) := by decide +kernel
theorem dL_same_113 : decode cL_same 113 = .ok (.invokevirtual 57, 3) := by decide +kernel
theorem dL_same_116 : decode cL_same 116 = .ok (.aload_n 3, 1) := by decide +kernel
theorem dL_same_117 : decode cL_same 117 = .ok (.bipush 6, 2) := by decide +kernel
theorem dL_same_119 : decode cL_same 119 = .ok (.iload 10, 2) := by decide +kernel
theorem dL_same_121 : decode cL_same 121 = .ok (.imul, 1) := by decide +kernel
theorem dL_same_122 : decode cL_same 122 = .ok (.iload 9, 2) := by decide +kernel
theorem dL_same_124 : decode cL_same 124 = .ok (.iadd, 1) := by decide +kernel
theorem dL_same_125 : decode cL_same 125 = .ok (.iaload, 1) := by decide +kernel
theorem dL_same_126 : decode cL_same 126 = .ok (.if_icmp .ne 16, 3) := by decide +kernel
theorem dL_same_129 : decode cL_same 129 = .ok (.aload_n 0, 1) := by decide +kernel
theorem dL_same_130 : decode cL_same 130 = .ok (.iload 10, 2) := by decide +kernel
theorem dL_same_132 : decode cL_same 132 = .ok (.iload 9, 2) := by decide +kernel
theorem dL_same_134 : decode cL_same 134 = .ok (.invokevirtual 60, 3) := by decide +kernel
theorem dL_same_137 : decode cL_same 137 = .ok (.iload 11, 2) := by decide +kernel
theorem dL_same_139 : decode cL_same 139 = .ok (.if_icmp .eq 5, 3) := by decide +kernel
theorem dL_same_142 : decode cL_same 142 = .ok (.iconst 0, 1) := by decide +kernel
theorem dL_same_143 : decode cL_same 143 = .ok (.ireturn, 1) := by decide +kernel
theorem dL_same_144 : decode cL_same 144 = .ok (.iinc 10 1, 3) := by decide +kernel
theorem dL_same_147 : decode cL_same 147 = .ok (.goto (-91), 3) := by decide +kernel
theorem dL_same_150 : decode cL_same 150 = .ok (.aload_n 0, 1) := by decide +kernel
theorem dL_same_151 : decode cL_same 151 = .ok (.iload 9, 2) := by decide +kernel
theorem dL_same_153 : decode cL_same 153 = .ok (.invokevirtual 63, 3) := by decide +kernel
theorem dL_same_156 : decode cL_same 156 = .ok (.iconst 1, 1) := by decide +kernel
theorem dL_same_157 : decode cL_same 157 = .ok (.iload 9, 2) := by decide +kernel
theorem dL_same_159 : decode cL_same 159 = .ok (.ishl, 1) := by decide +kernel
theorem dL_same_160 : decode cL_same 160 = .ok (.iconst 0, 1) := by decide +kernel
theorem dL_same_161 : decode cL_same 161 = .ok (.aload_n 2, 1) := by decide +kernel
theorem dL_same_162 : decode cL_same 162 = .ok (.aload_n 3, 1) := by decide +kernel
theorem dL_same_163 : decode cL_same 163 = .ok (.invokestatic 53, 3) := by decide +kernel
theorem dL_same_166 : decode cL_same 166 = .ok (.if_icmp .ne 19, 3) := by decide +kernel
theorem dL_same_169 : decode cL_same 169 = .ok (.aload_n 0, 1) := by decide +kernel
theorem dL_same_170 : decode cL_same 170 = .ok (.iload 9, 2) := by decide +kernel
theorem dL_same_172 : decode cL_same 172 = .ok (.invokevirtual 65, 3) := by decide +kernel
theorem dL_same_175 : decode cL_same 175 = .ok (.iload 9, 2) := by decide +kernel
theorem dL_same_177 : decode cL_same 177 = .ok (.aload_n 2, 1) := by decide +kernel
theorem dL_same_178 : decode cL_same 178 = .ok (.aload_n 3, 1) := by decide +kernel
theorem dL_same_179 : decode cL_same 179 = .ok (.invokestatic 68, 3) := by decide +kernel
theorem dL_same_182 : decode cL_same 182 = .ok (.if_icmp .eq 5, 3) := by decide +kernel
theorem dL_same_185 : decode cL_same 185 = .ok (.iconst 0, 1) := by decide +kernel
theorem dL_same_186 : decode cL_same 186 = .ok (.ireturn, 1) := by decide +kernel
theorem dL_same_187 : decode cL_same 187 = .ok (.iinc 9 1, 3) := by decide +kernel
theorem dL_same_190 : decode cL_same 190 = .ok (.goto (-172), 3) := by decide +kernel
theorem dL_same_193 : decode cL_same 193 = .ok (.iconst 1, 1) := by decide +kernel
theorem dL_same_194 : decode cL_same 194 = .ok (.istore 9, 2) := by decide +kernel
theorem dL_same_196 : decode cL_same 196 = .ok (.iload 9, 2) := by decide +kernel
theorem dL_same_198 : decode cL_same 198 = .ok (.iconst 1, 1) := by decide +kernel
theorem dL_same_199 : decode cL_same 199 = .ok (.iload 5, 2) := by decide +kernel
theorem dL_same_201 : decode cL_same 201 = .ok (.ishl, 1) := by decide +kernel
theorem dL_same_202 : decode cL_same 202 = .ok (.if_icmp .ge 47, 3) := by decide +kernel
theorem dL_same_205 : decode cL_same 205 = .ok (.iload 9, 2) := by decide +kernel
theorem dL_same_207 : decode cL_same 207 = .ok (.aload_n 2, 1) := by decide +kernel
theorem dL_same_208 : decode cL_same 208 = .ok (.aload_n 3, 1) := by decide +kernel
theorem dL_same_209 : decode cL_same 209 = .ok (.invokestatic 71, 3) := by decide +kernel
theorem dL_same_212 : decode cL_same 212 = .ok (.iconst 1, 1) := by decide +kernel
theorem dL_same_213 : decode cL_same 213 = .ok (.iload 5, 2) := by decide +kernel
theorem dL_same_215 : decode cL_same 215 = .ok (.ishl, 1) := by decide +kernel
theorem dL_same_216 : decode cL_same 216 = .ok (.iconst 1, 1) := by decide +kernel
theorem dL_same_217 : decode cL_same 217 = .ok (.isub, 1) := by decide +kernel
theorem dL_same_218 : decode cL_same 218 = .ok (.if_icmp .ne 21, 3) := by decide +kernel
theorem dL_same_221 : decode cL_same 221 = .ok (.iload 9, 2) := by decide +kernel
theorem dL_same_223 : decode cL_same 223 = .ok (.invokestatic 16, 3) := by decide +kernel
theorem dL_same_226 : decode cL_same 226 = .ok (.iload 8, 2) := by decide +kernel
theorem dL_same_228 : decode cL_same 228 = .ok (.if_icmp .ge 11, 3) := by decide +kernel
theorem dL_same_231 : decode cL_same 231 = .ok (.iload 9, 2) := by decide +kernel
theorem dL_same_233 : decode cL_same 233 = .ok (.invokestatic 16, 3) := by decide +kernel
theorem dL_same_236 : decode cL_same 236 = .ok (.goto 5, 3) := by decide +kernel
theorem dL_same_239 : decode cL_same 239 = .ok (.iload 8, 2) := by decide +kernel
theorem dL_same_241 : decode cL_same 241 = .ok (.istore 8, 2) := by decide +kernel
theorem dL_same_243 : decode cL_same 243 = .ok (.iinc 9 1, 3) := by decide +kernel
theorem dL_same_246 : decode cL_same 246 = .ok (.goto (-50), 3) := by decide +kernel
theorem dL_same_249 : decode cL_same 249 = .ok (.iload_n 1, 1) := by decide +kernel
theorem dL_same_250 : decode cL_same 250 = .ok (.iconst 1, 1) := by decide +kernel
theorem dL_same_251 : decode cL_same 251 = .ok (.iload 5, 2) := by decide +kernel
theorem dL_same_253 : decode cL_same 253 = .ok (.ishl, 1) := by decide +kernel
theorem dL_same_254 : decode cL_same 254 = .ok (.invokestatic 29, 3) := by decide +kernel
theorem dL_same_257 : decode cL_same 257 = .ok (.istore 9, 2) := by decide +kernel
theorem dL_same_259 : decode cL_same 259 = .ok (.aload_n 2, 1) := by decide +kernel
theorem dL_same_260 : decode cL_same 260 = .ok (.aload_n 3, 1) := by decide +kernel
theorem dL_same_261 : decode cL_same 261 = .ok (.invokestatic 74, 3) := by decide +kernel
theorem dL_same_264 : decode cL_same 264 = .ok (.istore 10, 2) := by decide +kernel
theorem dL_same_266 : decode cL_same 266 = .ok (.aload_n 0, 1) := by decide +kernel
theorem dL_same_267 : decode cL_same 267 = .ok (.invokevirtual 78, 3) := by decide +kernel
theorem dL_same_270 : decode cL_same 270 = .ok (.iload 5, 2) := by decide +kernel
theorem dL_same_272 : decode cL_same 272 = .ok (.if_icmp .ne 131, 3) := by decide +kernel
theorem dL_same_275 : decode cL_same 275 = .ok (.aload_n 0, 1) := by decide +kernel
theorem dL_same_276 : decode cL_same 276 = .ok (.iconst 1, 1) := by decide +kernel
theorem dL_same_277 : decode cL_same 277 = .ok (.invokevirtual 81, 3) := by decide +kernel
theorem dL_same_280 : decode cL_same 280 = .ok (.iconst 1, 1) := by decide +kernel
theorem dL_same_281 : decode cL_same 281 = .ok (.aload_n 2, 1) := by decide +kernel
theorem dL_same_282 : decode cL_same 282 = .ok (.aload_n 3, 1) := by decide +kernel
theorem dL_same_283 : decode cL_same 283 = .ok (.invokestatic 22, 3) := by decide +kernel
theorem dL_same_286 : decode cL_same 286 = .ok (.if_icmp .ne 117, 3) := by decide +kernel
theorem dL_same_289 : decode cL_same 289 = .ok (.aload_n 0, 1) := by decide +kernel
theorem dL_same_290 : decode cL_same 290 = .ok (.iconst 2, 1) := by decide +kernel
theorem dL_same_291 : decode cL_same 291 = .ok (.invokevirtual 81, 3) := by decide +kernel
theorem dL_same_294 : decode cL_same 294 = .ok (.iconst 2, 1) := by decide +kernel
theorem dL_same_295 : decode cL_same 295 = .ok (.aload_n 2, 1) := by decide +kernel
theorem dL_same_296 : decode cL_same 296 = .ok (.aload_n 3, 1) := by decide +kernel
theorem dL_same_297 : decode cL_same 297 = .ok (.invokestatic 22, 3) := by decide +kernel
theorem dL_same_300 : decode cL_same 300 = .ok (.if_icmp .ne 103, 3) := by decide +kernel
theorem dL_same_303 : decode cL_same 303 = .ok (.aload_n 0, 1) := by decide +kernel
theorem dL_same_304 : decode cL_same 304 = .ok (.iconst 3, 1) := by decide +kernel
theorem dL_same_305 : decode cL_same 305 = .ok (.invokevirtual 81, 3) := by decide +kernel
theorem dL_same_308 : decode cL_same 308 = .ok (.iconst 3, 1) := by decide +kernel
theorem dL_same_309 : decode cL_same 309 = .ok (.aload_n 2, 1) := by decide +kernel
theorem dL_same_310 : decode cL_same 310 = .ok (.aload_n 3, 1) := by decide +kernel
theorem dL_same_311 : decode cL_same 311 = .ok (.invokestatic 22, 3) := by decide +kernel
theorem dL_same_314 : decode cL_same 314 = .ok (.if_icmp .ne 89, 3) := by decide +kernel
theorem dL_same_317 : decode cL_same 317 = .ok (.aload_n 0, 1) := by decide +kernel
theorem dL_same_318 : decode cL_same 318 = .ok (.invokevirtual 83, 3) := by decide +kernel
theorem dL_same_321 : decode cL_same 321 = .ok (.iload 6, 2) := by decide +kernel
theorem dL_same_323 : decode cL_same 323 = .ok (.if_icmp .ne 80, 3) := by decide +kernel
theorem dL_same_326 : decode cL_same 326 = .ok (.aload_n 0, 1) := by decide +kernel
theorem dL_same_327 : decode cL_same 327 = .ok (.iload 9, 2) := by decide +kernel
theorem dL_same_329 : decode cL_same 329 = .ok (.invokevirtual 86, 3) := by decide +kernel
theorem dL_same_332 : decode cL_same 332 = .ok (.iload 9, 2) := by decide +kernel
theorem dL_same_334 : decode cL_same 334 = .ok (.aload_n 2, 1) := by decide +kernel
theorem dL_same_335 : decode cL_same 335 = .ok (.aload_n 3, 1) := by decide +kernel
theorem dL_same_336 : decode cL_same 336 = .ok (.invokestatic 71, 3) := by decide +kernel
theorem dL_same_339 : decode cL_same 339 = .ok (.if_icmp .ne 64, 3) := by decide +kernel
theorem dL_same_342 : decode cL_same 342 = .ok (.aload_n 0, 1) := by decide +kernel
theorem dL_same_343 : decode cL_same 343 = .ok (.invokevirtual 88, 3) := by decide +kernel
theorem dL_same_346 : decode cL_same 346 = .ok (.iload 8, 2) := by decide +kernel
theorem dL_same_348 : decode cL_same 348 = .ok (.if_icmp .ne 55, 3) := by decide +kernel
theorem dL_same_351 : decode cL_same 351 = .ok (.aload_n 0, 1) := by decide +kernel
theorem dL_same_352 : decode cL_same 352 = .ok (.invokevirtual 91, 3) := by decide +kernel
theorem dL_same_355 : decode cL_same 355 = .ok (.aload_n 2, 1) := by decide +kernel
theorem dL_same_356 : decode cL_same 356 = .ok (.aload_n 3, 1) := by decide +kernel
theorem dL_same_357 : decode cL_same 357 = .ok (.invokestatic 94, 3) := by decide +kernel
theorem dL_same_360 : decode cL_same 360 = .ok (.if_icmp .ne 43, 3) := by decide +kernel
theorem dL_same_363 : decode cL_same 363 = .ok (.iload 10, 2) := by decide +kernel
theorem dL_same_365 : decode cL_same 365 = .ok (.bipush 99, 2) := by decide +kernel
theorem dL_same_367 : decode cL_same 367 = .ok (.if_icmp .ne 15, 3) := by decide +kernel
theorem dL_same_370 : decode cL_same 370 = .ok (.aload_n 0, 1) := by decide +kernel
theorem dL_same_371 : decode cL_same 371 = .ok (.invokevirtual 97, 3) := by decide +kernel
theorem dL_same_374 : decode cL_same 374 = .ok (.bipush 60, 2) := by decide +kernel
theorem dL_same_376 : decode cL_same 376 = .ok (.if_icmp .gt 15, 3) := by decide +kernel
theorem dL_same_379 : decode cL_same 379 = .ok (.goto 24, 3) := by decide +kernel
theorem dL_same_382 : decode cL_same 382 = .ok (.aload_n 0, 1) := by decide +kernel
theorem dL_same_383 : decode cL_same 383 = .ok (.invokevirtual 97, 3) := by decide +kernel
theorem dL_same_386 : decode cL_same 386 = .ok (.iload 10, 2) := by decide +kernel
theorem dL_same_388 : decode cL_same 388 = .ok (.if_icmp .ne 15, 3) := by decide +kernel
theorem dL_same_391 : decode cL_same 391 = .ok (.aload_n 0, 1) := by decide +kernel
theorem dL_same_392 : decode cL_same 392 = .ok (.invokevirtual 100, 3) := by decide +kernel
theorem dL_same_395 : decode cL_same 395 = .ok (.aload_n 2, 1) := by decide +kernel
theorem dL_same_396 : decode cL_same 396 = .ok (.aload_n 3, 1) := by decide +kernel
theorem dL_same_397 : decode cL_same 397 = .ok (.invokestatic 103, 3) := by decide +kernel
theorem dL_same_400 : decode cL_same 400 = .ok (.if_icmp .eq 5, 3) := by decide +kernel
theorem dL_same_403 : decode cL_same 403 = .ok (.iconst 0, 1) := by decide +kernel
theorem dL_same_404 : decode cL_same 404 = .ok (.ireturn, 1) := by decide +kernel
theorem dL_same_405 : decode cL_same 405 = .ok (.bipush 100, 2) := by decide +kernel
theorem dL_same_407 : decode cL_same 407 = .ok (.istore 11, 2) := by decide +kernel
theorem dL_same_409 : decode cL_same 409 = .ok (.iconst 0, 1) := by decide +kernel
theorem dL_same_410 : decode cL_same 410 = .ok (.istore 12, 2) := by decide +kernel
theorem dL_same_412 : decode cL_same 412 = .ok (.iconst 0, 1) := by decide +kernel
theorem dL_same_413 : decode cL_same 413 = .ok (.istore 13, 2) := by decide +kernel
theorem dL_same_415 : decode cL_same 415 = .ok (.iconst 0, 1) := by decide +kernel
theorem dL_same_416 : decode cL_same 416 = .ok (.istore 14, 2) := by decide +kernel
theorem dL_same_418 : decode cL_same 418 = .ok (.iload 14, 2) := by decide +kernel
theorem dL_same_420 : decode cL_same 420 = .ok (.aload_n 2, 1) := by decide +kernel
theorem dL_same_421 : decode cL_same 421 = .ok (.iconst 2, 1) := by decide +kernel
theorem dL_same_422 : decode cL_same 422 = .ok (.iaload, 1) := by decide +kernel
theorem dL_same_423 : decode cL_same 423 = .ok (.if_icmp .ge 61, 3) := by decide +kernel
theorem dL_same_426 : decode cL_same 426 = .ok (.iload 11, 2) := by decide +kernel
theorem dL_same_428 : decode cL_same 428 = .ok (.aload 4, 2) := by decide +kernel
theorem dL_same_430 : decode cL_same 430 = .ok (.iconst 4, 1) := by decide +kernel
theorem dL_same_431 : decode cL_same 431 = .ok (.iload 14, 2) := by decide +kernel
theorem dL_same_433 : decode cL_same 433 = .ok (.imul, 1) := by decide +kernel
theorem dL_same_434 : decode cL_same 434 = .ok (.iconst 3, 1) := by decide +kernel
theorem dL_same_435 : decode cL_same 435 = .ok (.iadd, 1) := by decide +kernel
theorem dL_same_436 : decode cL_same 436 = .ok (.iaload, 1) := by decide +kernel
theorem dL_same_437 : decode cL_same 437 = .ok (.iadd, 1) := by decide +kernel
theorem dL_same_438 : decode cL_same 438 = .ok (.istore 11, 2) := by decide +kernel
theorem dL_same_440 : decode cL_same 440 = .ok (.iconst 0, 1) := by decide +kernel
theorem dL_same_441 : decode cL_same 441 = .ok (.istore 15, 2) := by decide +kernel
theorem dL_same_443 : decode cL_same 443 = .ok (.iload 15, 2) := by decide +kernel
theorem dL_same_445 : decode cL_same 445 = .ok (.iconst 4, 1) := by decide +kernel
theorem dL_same_446 : decode cL_same 446 = .ok (.if_icmp .ge 32, 3) := by decide +kernel
theorem dL_same_449 : decode cL_same 449 = .ok (.aload_n 0, 1) := by decide +kernel
theorem dL_same_450 : decode cL_same 450 = .ok (.iload 14, 2) := by decide +kernel
theorem dL_same_452 : decode cL_same 452 = .ok (.iload 15, 2) := by decide +kernel
theorem dL_same_454 : decode cL_same 454 = .ok (.invokevirtual 105, 3) := by decide +kernel
theorem dL_same_457 : decode cL_same 457 = .ok (.aload 4, 2) := by decide +kernel
theorem dL_same_459 : decode cL_same 459 = .ok (.iconst 4, 1) := by decide +kernel
theorem dL_same_460 : decode cL_same 460 = .ok (.iload 14, 2) := by decide +kernel
theorem dL_same_462 : decode cL_same 462 = .ok (.imul, 1) := by decide +kernel
theorem dL_same_463 : decode cL_same 463 = .ok (.iload 15, 2) := by decide +kernel
theorem dL_same_465 : decode cL_same 465 = .ok (.iadd, 1) := by decide +kernel
theorem dL_same_466 : decode cL_same 466 = .ok (.iaload, 1) := by decide +kernel
theorem dL_same_467 : decode cL_same 467 = .ok (.if_icmp .eq 5, 3) := by decide +kernel
theorem dL_same_470 : decode cL_same 470 = .ok (.iconst 0, 1) := by decide +kernel
theorem dL_same_471 : decode cL_same 471 = .ok (.ireturn, 1) := by decide +kernel
theorem dL_same_472 : decode cL_same 472 = .ok (.iinc 15 1, 3) := by decide +kernel
theorem dL_same_475 : decode cL_same 475 = .ok (.goto (-32), 3) := by decide +kernel
theorem dL_same_478 : decode cL_same 478 = .ok (.iinc 14 1, 3) := by decide +kernel
theorem dL_same_481 : decode cL_same 481 = .ok (.goto (-63), 3) := by decide +kernel
theorem dL_same_484 : decode cL_same 484 = .ok (.iconst 0, 1) := by decide +kernel
theorem dL_same_485 : decode cL_same 485 = .ok (.istore 14, 2) := by decide +kernel
theorem dL_same_487 : decode cL_same 487 = .ok (.iload 14, 2) := by decide +kernel
theorem dL_same_489 : decode cL_same 489 = .ok (.aload_n 2, 1) := by decide +kernel
theorem dL_same_490 : decode cL_same 490 = .ok (.iconst 1, 1) := by decide +kernel
theorem dL_same_491 : decode cL_same 491 = .ok (.iaload, 1) := by decide +kernel
theorem dL_same_492 : decode cL_same 492 = .ok (.if_icmp .ge 42, 3) := by decide +kernel
theorem dL_same_495 : decode cL_same 495 = .ok (.iload 12, 2) := by decide +kernel
theorem dL_same_497 : decode cL_same 497 = .ok (.iload 13, 2) := by decide +kernel
theorem dL_same_499 : decode cL_same 499 = .ok (.iload 14, 2) := by decide +kernel
theorem dL_same_501 : decode cL_same 501 = .ok (.ishr, 1) := by decide +kernel
theorem dL_same_502 : decode cL_same 502 = .ok (.iconst 1, 1) := by decide +kernel
theorem dL_same_503 : decode cL_same 503 = .ok (.iand, 1) := by decide +kernel
theorem dL_same_504 : decode cL_same 504 = .ok (.ifCond .ne 7, 3) := by decide +kernel
theorem dL_same_507 : decode cL_same 507 = .ok (.iconst 1, 1) := by decide +kernel
theorem dL_same_508 : decode cL_same 508 = .ok (.goto 4, 3) := by decide +kernel
theorem dL_same_511 : decode cL_same 511 = .ok (.iconst 0, 1) := by decide +kernel
theorem dL_same_512 : decode cL_same 512 = .ok (.iadd, 1) := by decide +kernel
theorem dL_same_513 : decode cL_same 513 = .ok (.istore 12, 2) := by decide +kernel
theorem dL_same_515 : decode cL_same 515 = .ok (.iload 13, 2) := by decide +kernel
theorem dL_same_517 : decode cL_same 517 = .ok (.iload 14, 2) := by decide +kernel
theorem dL_same_519 : decode cL_same 519 = .ok (.aload_n 2, 1) := by decide +kernel
theorem dL_same_520 : decode cL_same 520 = .ok (.aload 4, 2) := by decide +kernel
theorem dL_same_522 : decode cL_same 522 = .ok (.invokestatic 108, 3) := by decide +kernel
theorem dL_same_525 : decode cL_same 525 = .ok (.ior, 1) := by decide +kernel
theorem dL_same_526 : decode cL_same 526 = .ok (.istore 13, 2) := by decide +kernel
theorem dL_same_528 : decode cL_same 528 = .ok (.iinc 14 1, 3) := by decide +kernel
theorem dL_same_531 : decode cL_same 531 = .ok (.goto (-44), 3) := by decide +kernel
theorem dL_same_534 : decode cL_same 534 = .ok (.iload_n 1, 1) := by decide +kernel
theorem dL_same_535 : decode cL_same 535 = .ok (.iconst 5, 1) := by decide +kernel
theorem dL_same_536 : decode cL_same 536 = .ok (.ishr, 1) := by decide +kernel
theorem dL_same_537 : decode cL_same 537 = .ok (.aload_n 2, 1) := by decide +kernel
theorem dL_same_538 : decode cL_same 538 = .ok (.iconst 1, 1) := by decide +kernel
theorem dL_same_539 : decode cL_same 539 = .ok (.iaload, 1) := by decide +kernel
theorem dL_same_540 : decode cL_same 540 = .ok (.invokestatic 29, 3) := by decide +kernel
theorem dL_same_543 : decode cL_same 543 = .ok (.istore 14, 2) := by decide +kernel
theorem dL_same_545 : decode cL_same 545 = .ok (.iload_n 1, 1) := by decide +kernel
theorem dL_same_546 : decode cL_same 546 = .ok (.bipush 9, 2) := by decide +kernel
theorem dL_same_548 : decode cL_same 548 = .ok (.ishr, 1) := by decide +kernel
theorem dL_same_549 : decode cL_same 549 = .ok (.aload_n 2, 1) := by decide +kernel
theorem dL_same_550 : decode cL_same 550 = .ok (.iconst 1, 1) := by decide +kernel
theorem dL_same_551 : decode cL_same 551 = .ok (.iaload, 1) := by decide +kernel
theorem dL_same_552 : decode cL_same 552 = .ok (.invokestatic 29, 3) := by decide +kernel
theorem dL_same_555 : decode cL_same 555 = .ok (.istore 15, 2) := by decide +kernel
theorem dL_same_557 : decode cL_same 557 = .ok (.bipush 100, 2) := by decide +kernel
theorem dL_same_559 : decode cL_same 559 = .ok (.istore 16, 2) := by decide +kernel
theorem dL_same_561 : decode cL_same 561 = .ok (.iconst 0, 1) := by decide +kernel
theorem dL_same_562 : decode cL_same 562 = .ok (.istore 17, 2) := by decide +kernel
theorem dL_same_564 : decode cL_same 564 = .ok (.iload 17, 2) := by decide +kernel
theorem dL_same_566 : decode cL_same 566 = .ok (.aload_n 2, 1) := by decide +kernel
theorem dL_same_567 : decode cL_same 567 = .ok (.iconst 2, 1) := by decide +kernel
theorem dL_same_568 : decode cL_same 568 = .ok (.iaload, 1) := by decide +kernel
theorem dL_same_569 : decode cL_same 569 = .ok (.if_icmp .ge 68, 3) := by decide +kernel
theorem dL_same_572 : decode cL_same 572 = .ok (.iload 16, 2) := by decide +kernel
theorem dL_same_574 : decode cL_same 574 = .ok (.iload 14, 2) := by decide +kernel
theorem dL_same_576 : decode cL_same 576 = .ok (.aload_n 2, 1) := by decide +kernel
theorem dL_same_577 : decode cL_same 577 = .ok (.aload 4, 2) := by decide +kernel
theorem dL_same_579 : decode cL_same 579 = .ok (.invokestatic 108, 3) := by decide +kernel
theorem dL_same_582 : decode cL_same 582 = .ok (.aload 4, 2) := by decide +kernel
theorem dL_same_584 : decode cL_same 584 = .ok (.iconst 4, 1) := by decide +kernel
theorem dL_same_585 : decode cL_same 585 = .ok (.iload 17, 2) := by decide +kernel
theorem dL_same_587 : decode cL_same 587 = .ok (.imul, 1) := by decide +kernel
theorem dL_same_588 : decode cL_same 588 = .ok (.iaload, 1) := by decide +kernel
theorem dL_same_589 : decode cL_same 589 = .ok (.ishr, 1) := by decide +kernel
theorem dL_same_590 : decode cL_same 590 = .ok (.iload 15, 2) := by decide +kernel
theorem dL_same_592 : decode cL_same 592 = .ok (.aload_n 2, 1) := by decide +kernel
theorem dL_same_593 : decode cL_same 593 = .ok (.aload 4, 2) := by decide +kernel
theorem dL_same_595 : decode cL_same 595 = .ok (.invokestatic 108, 3) := by decide +kernel
theorem dL_same_598 : decode cL_same 598 = .ok (.aload 4, 2) := by decide +kernel
theorem dL_same_600 : decode cL_same 600 = .ok (.iconst 4, 1) := by decide +kernel
theorem dL_same_601 : decode cL_same 601 = .ok (.iload 17, 2) := by decide +kernel
theorem dL_same_603 : decode cL_same 603 = .ok (.imul, 1) := by decide +kernel
theorem dL_same_604 : decode cL_same 604 = .ok (.iconst 1, 1) := by decide +kernel
theorem dL_same_605 : decode cL_same 605 = .ok (.iadd, 1) := by decide +kernel
theorem dL_same_606 : decode cL_same 606 = .ok (.iaload, 1) := by decide +kernel
theorem dL_same_607 : decode cL_same 607 = .ok (.ishr, 1) := by decide +kernel
theorem dL_same_608 : decode cL_same 608 = .ok (.iand, 1) := by decide +kernel
theorem dL_same_609 : decode cL_same 609 = .ok (.iconst 1, 1) := by decide +kernel
theorem dL_same_610 : decode cL_same 610 = .ok (.iand, 1) := by decide +kernel
theorem dL_same_611 : decode cL_same 611 = .ok (.iconst 1, 1) := by decide +kernel
theorem dL_same_612 : decode cL_same 612 = .ok (.if_icmp .ne 15, 3) := by decide +kernel
theorem dL_same_615 : decode cL_same 615 = .ok (.aload 4, 2) := by decide +kernel
theorem dL_same_617 : decode cL_same 617 = .ok (.iconst 4, 1) := by decide +kernel
theorem dL_same_618 : decode cL_same 618 = .ok (.iload 17, 2) := by decide +kernel
theorem dL_same_620 : decode cL_same 620 = .ok (.imul, 1) := by decide +kernel
theorem dL_same_621 : decode cL_same 621 = .ok (.iconst 3, 1) := by decide +kernel
theorem dL_same_622 : decode cL_same 622 = .ok (.iadd, 1) := by decide +kernel
theorem dL_same_623 : decode cL_same 623 = .ok (.iaload, 1) := by decide +kernel
theorem dL_same_624 : decode cL_same 624 = .ok (.goto 4, 3) := by decide +kernel
theorem dL_same_627 : decode cL_same 627 = .ok (.iconst 0, 1) := by decide +kernel
theorem dL_same_628 : decode cL_same 628 = .ok (.iadd, 1) := by decide +kernel
theorem dL_same_629 : decode cL_same 629 = .ok (.istore 16, 2) := by decide +kernel
theorem dL_same_631 : decode cL_same 631 = .ok (.iinc 17 1, 3) := by decide +kernel
theorem dL_same_634 : decode cL_same 634 = .ok (.goto (-70), 3) := by decide +kernel
theorem dL_same_637 : decode cL_same 637 = .ok (.aload_n 2, 1) := by decide +kernel
theorem dL_same_638 : decode cL_same 638 = .ok (.aload 4, 2) := by decide +kernel
theorem dL_same_640 : decode cL_same 640 = .ok (.invokestatic 111, 3) := by decide +kernel
theorem dL_same_643 : decode cL_same 643 = .ok (.istore 17, 2) := by decide +kernel
theorem dL_same_645 : decode cL_same 645 = .ok (.aload_n 0, 1) := by decide +kernel
theorem dL_same_646 : decode cL_same 646 = .ok (.invokevirtual 115, 3) := by decide +kernel
theorem dL_same_649 : decode cL_same 649 = .ok (.aload_n 2, 1) := by decide +kernel
theorem dL_same_650 : decode cL_same 650 = .ok (.iconst 1, 1) := by decide +kernel
theorem dL_same_651 : decode cL_same 651 = .ok (.iaload, 1) := by decide +kernel
theorem dL_same_652 : decode cL_same 652 = .ok (.if_icmp .ne 91, 3) := by decide +kernel
theorem dL_same_655 : decode cL_same 655 = .ok (.aload_n 0, 1) := by decide +kernel
theorem dL_same_656 : decode cL_same 656 = .ok (.invokevirtual 118, 3) := by decide +kernel
theorem dL_same_659 : decode cL_same 659 = .ok (.aload_n 2, 1) := by decide +kernel
theorem dL_same_660 : decode cL_same 660 = .ok (.iconst 2, 1) := by decide +kernel
theorem dL_same_661 : decode cL_same 661 = .ok (.iaload, 1) := by decide +kernel
theorem dL_same_662 : decode cL_same 662 = .ok (.if_icmp .ne 81, 3) := by decide +kernel
theorem dL_same_665 : decode cL_same 665 = .ok (.aload_n 0, 1) := by decide +kernel
theorem dL_same_666 : decode cL_same 666 = .ok (.invokevirtual 121, 3) := by decide +kernel
theorem dL_same_669 : decode cL_same 669 = .ok (.iload 11, 2) := by decide +kernel
theorem dL_same_671 : decode cL_same 671 = .ok (.if_icmp .ne 72, 3) := by decide +kernel
theorem dL_same_674 : decode cL_same 674 = .ok (.aload_n 0, 1) := by decide +kernel
theorem dL_same_675 : decode cL_same 675 = .ok (.invokevirtual 124, 3) := by decide +kernel
theorem dL_same_678 : decode cL_same 678 = .ok (.iload 17, 2) := by decide +kernel
theorem dL_same_680 : decode cL_same 680 = .ok (.ifCond .eq 8, 3) := by decide +kernel
theorem dL_same_683 : decode cL_same 683 = .ok (.iload 12, 2) := by decide +kernel
theorem dL_same_685 : decode cL_same 685 = .ok (.goto 5, 3) := by decide +kernel
theorem dL_same_688 : decode cL_same 688 = .ok (.bipush (-6), 2) := by decide +kernel
theorem dL_same_690 : decode cL_same 690 = .ok (.if_icmp .ne 53, 3) := by decide +kernel
theorem dL_same_693 : decode cL_same 693 = .ok (.aload_n 0, 1) := by decide +kernel
theorem dL_same_694 : decode cL_same 694 = .ok (.iload 14, 2) := by decide +kernel
theorem dL_same_696 : decode cL_same 696 = .ok (.iload 15, 2) := by decide +kernel
theorem dL_same_698 : decode cL_same 698 = .ok (.invokevirtual 127, 3) := by decide +kernel
theorem dL_same_701 : decode cL_same 701 = .ok (.iload 17, 2) := by decide +kernel
theorem dL_same_703 : decode cL_same 703 = .ok (.ifCond .eq 8, 3) := by decide +kernel
theorem dL_same_706 : decode cL_same 706 = .ok (.iload 16, 2) := by decide +kernel
theorem dL_same_708 : decode cL_same 708 = .ok (.goto 5, 3) := by decide +kernel
theorem dL_same_711 : decode cL_same 711 = .ok (.bipush (-6), 2) := by decide +kernel
theorem dL_same_713 : decode cL_same 713 = .ok (.if_icmp .ne 30, 3) := by decide +kernel
theorem dL_same_716 : decode cL_same 716 = .ok (.aload_n 0, 1) := by decide +kernel
theorem dL_same_717 : decode cL_same 717 = .ok (.aload_n 2, 1) := by decide +kernel
theorem dL_same_718 : decode cL_same 718 = .ok (.iconst 2, 1) := by decide +kernel
theorem dL_same_719 : decode cL_same 719 = .ok (.iaload, 1) := by decide +kernel
theorem dL_same_720 : decode cL_same 720 = .ok (.iconst 0, 1) := by decide +kernel
theorem dL_same_721 : decode cL_same 721 = .ok (.invokevirtual 105, 3) := by decide +kernel
theorem dL_same_724 : decode cL_same 724 = .ok (.iconst (-1), 1) := by decide +kernel
theorem dL_same_725 : decode cL_same 725 = .ok (.if_icmp .ne 18, 3) := by decide +kernel
theorem dL_same_728 : decode cL_same 728 = .ok (.aload_n 0, 1) := by decide +kernel
theorem dL_same_729 : decode cL_same 729 = .ok (.iload 5, 2) := by decide +kernel
theorem dL_same_731 : decode cL_same 731 = .ok (.iconst 0, 1) := by decide +kernel
theorem dL_same_732 : decode cL_same 732 = .ok (.invokevirtual 57, 3) := by decide +kernel
theorem dL_same_735 : decode cL_same 735 = .ok (.iconst (-1), 1) := by decide +kernel
theorem dL_same_736 : decode cL_same 736 = .ok (.if_icmp .ne 7, 3) := by decide +kernel
theorem dL_same_739 : decode cL_same 739 = .ok (.iconst 1, 1) := by decide +kernel
theorem dL_same_740 : decode cL_same 740 = .ok (.goto 4, 3) := by decide +kernel
theorem dL_same_743 : decode cL_same 743 = .ok (.iconst 0, 1) := by decide +kernel
theorem dL_same_744 : decode cL_same 744 = .ok (.ireturn, 1) := by decide +kernel
theorem dL_add_0 : decode cL_add 0 = .ok (.aload 5, 2) := by decide +kernel
theorem dL_add_2 : decode cL_add 2 = .ok (.iconst 4, 1) := by decide +kernel
theorem dL_add_3 : decode cL_add 3 = .ok (.aload 4, 2) := by decide +kernel
theorem dL_add_5 : decode cL_add 5 = .ok (.iconst 2, 1) := by decide +kernel
theorem dL_add_6 : decode cL_add 6 = .ok (.iaload, 1) := by decide +kernel
theorem dL_add_7 : decode cL_add 7 = .ok (.imul, 1) := by decide +kernel
theorem dL_add_8 : decode cL_add 8 = .ok (.iload_n 0, 1) := by decide +kernel
theorem dL_add_9 : decode cL_add 9 = .ok (.iastore, 1) := by decide +kernel
theorem dL_add_10 : decode cL_add 10 = .ok (.aload 5, 2) := by decide +kernel
theorem dL_add_12 : decode cL_add 12 = .ok (.iconst 4, 1) := by decide +kernel
theorem dL_add_13 : decode cL_add 13 = .ok (.aload 4, 2) := by decide +kernel
theorem dL_add_15 : decode cL_add 15 = .ok (.iconst 2, 1) := by decide +kernel
theorem dL_add_16 : decode cL_add 16 = .ok (.iaload, 1) := by decide +kernel
theorem dL_add_17 : decode cL_add 17 = .ok (.imul, 1) := by decide +kernel
theorem dL_add_18 : decode cL_add 18 = .ok (.iconst 1, 1) := by decide +kernel
theorem dL_add_19 : decode cL_add 19 = .ok (.iadd, 1) := by decide +kernel
theorem dL_add_20 : decode cL_add 20 = .ok (.iload_n 1, 1) := by decide +kernel
theorem dL_add_21 : decode cL_add 21 = .ok (.iastore, 1) := by decide +kernel
theorem dL_add_22 : decode cL_add 22 = .ok (.aload 5, 2) := by decide +kernel
theorem dL_add_24 : decode cL_add 24 = .ok (.iconst 4, 1) := by decide +kernel
theorem dL_add_25 : decode cL_add 25 = .ok (.aload 4, 2) := by decide +kernel
theorem dL_add_27 : decode cL_add 27 = .ok (.iconst 2, 1) := by decide +kernel
theorem dL_add_28 : decode cL_add 28 = .ok (.iaload, 1) := by decide +kernel
theorem dL_add_29 : decode cL_add 29 = .ok (.imul, 1) := by decide +kernel
theorem dL_add_30 : decode cL_add 30 = .ok (.iconst 2, 1) := by decide +kernel
theorem dL_add_31 : decode cL_add 31 = .ok (.iadd, 1) := by decide +kernel
theorem dL_add_32 : decode cL_add 32 = .ok (.iload_n 2, 1) := by decide +kernel
theorem dL_add_33 : decode cL_add 33 = .ok (.iastore, 1) := by decide +kernel
theorem dL_add_34 : decode cL_add 34 = .ok (.aload 5, 2) := by decide +kernel
theorem dL_add_36 : decode cL_add 36 = .ok (.iconst 4, 1) := by decide +kernel
theorem dL_add_37 : decode cL_add 37 = .ok (.aload 4, 2) := by decide +kernel
theorem dL_add_39 : decode cL_add 39 = .ok (.iconst 2, 1) := by decide +kernel
theorem dL_add_40 : decode cL_add 40 = .ok (.iaload, 1) := by decide +kernel
theorem dL_add_41 : decode cL_add 41 = .ok (.imul, 1) := by decide +kernel
theorem dL_add_42 : decode cL_add 42 = .ok (.iconst 3, 1) := by decide +kernel
theorem dL_add_43 : decode cL_add 43 = .ok (.iadd, 1) := by decide +kernel
theorem dL_add_44 : decode cL_add 44 = .ok (.iload_n 3, 1) := by decide +kernel
theorem dL_add_45 : decode cL_add 45 = .ok (.iastore, 1) := by decide +kernel
theorem dL_add_46 : decode cL_add 46 = .ok (.aload 4, 2) := by decide +kernel
theorem dL_add_48 : decode cL_add 48 = .ok (.iconst 2, 1) := by decide +kernel
theorem dL_add_49 : decode cL_add 49 = .ok (.dup2, 1) := by decide +kernel
theorem dL_add_50 : decode cL_add 50 = .ok (.iaload, 1) := by decide +kernel
theorem dL_add_51 : decode cL_add 51 = .ok (.iconst 1, 1) := by decide +kernel
theorem dL_add_52 : decode cL_add 52 = .ok (.iadd, 1) := by decide +kernel
theorem dL_add_53 : decode cL_add 53 = .ok (.iastore, 1) := by decide +kernel
theorem dL_add_54 : decode cL_add 54 = .ok (.return_, 1) := by decide +kernel
theorem dL_moved_0 : decode cL_moved 0 = .ok (.iconst 0, 1) := by decide +kernel
theorem dL_moved_1 : decode cL_moved 1 = .ok (.istore 4, 2) := by decide +kernel
theorem dL_moved_3 : decode cL_moved 3 = .ok (.iload 4, 2) := by decide +kernel
theorem dL_moved_5 : decode cL_moved 5 = .ok (.aload_n 2, 1) := by decide +kernel
theorem dL_moved_6 : decode cL_moved 6 = .ok (.iconst 2, 1) := by decide +kernel
theorem dL_moved_7 : decode cL_moved 7 = .ok (.iaload, 1) := by decide +kernel
theorem dL_moved_8 : decode cL_moved 8 = .ok (.if_icmp .ge 41, 3) := by decide +kernel
theorem dL_moved_11 : decode cL_moved 11 = .ok (.aload_n 3, 1) := by decide +kernel
theorem dL_moved_12 : decode cL_moved 12 = .ok (.iconst 4, 1) := by decide +kernel
theorem dL_moved_13 : decode cL_moved 13 = .ok (.iload 4, 2) := by decide +kernel
theorem dL_moved_15 : decode cL_moved 15 = .ok (.imul, 1) := by decide +kernel
theorem dL_moved_16 : decode cL_moved 16 = .ok (.iconst 1, 1) := by decide +kernel
theorem dL_moved_17 : decode cL_moved 17 = .ok (.iadd, 1) := by decide +kernel
theorem dL_moved_18 : decode cL_moved 18 = .ok (.aload_n 3, 1) := by decide +kernel
theorem dL_moved_19 : decode cL_moved 19 = .ok (.iconst 4, 1) := by decide +kernel
theorem dL_moved_20 : decode cL_moved 20 = .ok (.iload 4, 2) := by decide +kernel
theorem dL_moved_22 : decode cL_moved 22 = .ok (.imul, 1) := by decide +kernel
theorem dL_moved_23 : decode cL_moved 23 = .ok (.iconst 1, 1) := by decide +kernel
theorem dL_moved_24 : decode cL_moved 24 = .ok (.iadd, 1) := by decide +kernel
theorem dL_moved_25 : decode cL_moved 25 = .ok (.iaload, 1) := by decide +kernel
theorem dL_moved_26 : decode cL_moved 26 = .ok (.iload_n 0, 1) := by decide +kernel
theorem dL_moved_27 : decode cL_moved 27 = .ok (.if_icmp .ne 7, 3) := by decide +kernel
theorem dL_moved_30 : decode cL_moved 30 = .ok (.iload_n 1, 1) := by decide +kernel
theorem dL_moved_31 : decode cL_moved 31 = .ok (.goto 11, 3) := by decide +kernel
theorem dL_moved_34 : decode cL_moved 34 = .ok (.aload_n 3, 1) := by decide +kernel
theorem dL_moved_35 : decode cL_moved 35 = .ok (.iconst 4, 1) := by decide +kernel
theorem dL_moved_36 : decode cL_moved 36 = .ok (.iload 4, 2) := by decide +kernel
theorem dL_moved_38 : decode cL_moved 38 = .ok (.imul, 1) := by decide +kernel
theorem dL_moved_39 : decode cL_moved 39 = .ok (.iconst 1, 1) := by decide +kernel
theorem dL_moved_40 : decode cL_moved 40 = .ok (.iadd, 1) := by decide +kernel
theorem dL_moved_41 : decode cL_moved 41 = .ok (.iaload, 1) := by decide +kernel
theorem dL_moved_42 : decode cL_moved 42 = .ok (.iastore, 1) := by decide +kernel
theorem dL_moved_43 : decode cL_moved 43 = .ok (.iinc 4 1, 3) := by decide +kernel
theorem dL_moved_46 : decode cL_moved 46 = .ok (.goto (-43), 3) := by decide +kernel
theorem dL_moved_49 : decode cL_moved 49 = .ok (.return_, 1) := by decide +kernel
