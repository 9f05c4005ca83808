theorem dL_cell_0 : decode cL_cell 0 = .ok (.iload_n 1, 1) := by decide +kernel
theorem dL_cell_1 : decode cL_cell 1 = .ok (.aload_n 0, 1) := by decide +kernel
theorem dL_cell_2 : decode cL_cell 2 = .ok (.arraylength, 1) := by decide +kernel
theorem dL_cell_3 : decode cL_cell 3 = .ok (.if_icmp .ge 9, 3) := by decide +kernel
theorem dL_cell_6 : decode cL_cell 6 = .ok (.aload_n 0, 1) := by decide +kernel
theorem dL_cell_7 : decode cL_cell 7 = .ok (.iload_n 1, 1) := by decide +kernel
theorem dL_cell_8 : decode cL_cell 8 = .ok (.iaload, 1) := by decide +kernel
theorem dL_cell_9 : decode cL_cell 9 = .ok (.goto 15, 3) := by decide +kernel
theorem dL_cell_12 : decode cL_cell 12 = .ok (.sipush 7919, 3) := by decide +kernel
theorem dL_cell_15 : decode cL_cell 15 = .ok (.iload_n 1, 1) := by decide +kernel
theorem dL_cell_16 : decode cL_cell 16 = .ok (.iconst 3, 1) := by decide +kernel
theorem dL_cell_17 : decode cL_cell 17 = .ok (.iadd, 1) := by decide +kernel
theorem dL_cell_18 : decode cL_cell 18 = .ok (.imul, 1) := by decide +kernel
theorem dL_cell_19 : decode cL_cell 19 = .ok (.iload_n 1, 1) := by decide +kernel
theorem dL_cell_20 : decode cL_cell 20 = .ok (.bipush 11, 2) := by decide +kernel
theorem dL_cell_22 : decode cL_cell 22 = .ok (.iadd, 1) := by decide +kernel
theorem dL_cell_23 : decode cL_cell 23 = .ok (.imul, 1) := by decide +kernel
theorem dL_cell_24 : decode cL_cell 24 = .ok (.ireturn, 1) := by decide +kernel
theorem dL_low_0 : decode cL_low 0 = .ok (.iload_n 0, 1) := by decide +kernel
theorem dL_low_1 : decode cL_low 1 = .ok (.ldc 7, 2) := by decide +kernel
theorem dL_low_3 : decode cL_low 3 = .ok (.iand, 1) := by decide +kernel
theorem dL_low_4 : decode cL_low 4 = .ok (.iload_n 1, 1) := by decide +kernel
theorem dL_low_5 : decode cL_low 5 = .ok (.irem, 1) := by decide +kernel
theorem dL_low_6 : decode cL_low 6 = .ok (.ireturn, 1) := by decide +kernel
theorem dL_isCash_0 : decode cL_isCash 0 = .ok (.lconst 0, 1) := by decide +kernel
theorem dL_isCash_1 : decode cL_isCash 1 = .ok (.lstore 4, 2) := by decide +kernel
theorem dL_isCash_3 : decode cL_isCash 3 = .ok (.lconst 0, 1) := by decide +kernel
theorem dL_isCash_4 : decode cL_isCash 4 = .ok (.lstore 6, 2) := by decide +kernel
theorem dL_isCash_6 : decode cL_isCash 6 = .ok (.iconst 1, 1) := by decide +kernel
theorem dL_isCash_7 : decode cL_isCash 7 = .ok (.istore 8, 2) := by decide +kernel
theorem dL_isCash_9 : decode cL_isCash 9 = .ok (.iconst 0, 1) := by decide +kernel
theorem dL_isCash_10 : decode cL_isCash 10 = .ok (.istore 9, 2) := by decide +kernel
theorem dL_isCash_12 : decode cL_isCash 12 = .ok (.iload 9, 2) := by decide +kernel
theorem dL_isCash_14 : decode cL_isCash 14 = .ok (.iconst 4, 1) := by decide +kernel
theorem dL_isCash_15 : decode cL_isCash 15 = .ok (.if_icmp .ge 52, 3) := by decide +kernel
theorem dL_isCash_18 : decode cL_isCash 18 = .ok (.iload 8, 2) := by decide +kernel
theorem dL_isCash_20 : decode cL_isCash 20 = .ok (.ifCond .eq 47, 3) := by decide +kernel
theorem dL_isCash_23 : decode cL_isCash 23 = .ok (.aload_n 0, 1) := by decide +kernel
theorem dL_isCash_24 : decode cL_isCash 24 = .ok (.iload 9, 2) := by decide +kernel
theorem dL_isCash_26 : decode cL_isCash 26 = .ok (.iload_n 2, 1) := by decide +kernel
theorem dL_isCash_27 : decode cL_isCash 27 = .ok (.iload_n 3, 1) := by decide +kernel
theorem dL_isCash_28 : decode cL_isCash 28 = .ok (.invokevirtual 8, 3) := by decide +kernel
theorem dL_isCash_31 : decode cL_isCash 31 = .ok (.lstore 10, 2) := by decide +kernel
theorem dL_isCash_33 : decode cL_isCash 33 = .ok (.lload 4, 2) := by decide +kernel
theorem dL_isCash_35 : decode cL_isCash 35 = .ok (.lload 10, 2) := by decide +kernel
theorem dL_isCash_37 : decode cL_isCash 37 = .ok (.ladd, 1) := by decide +kernel
theorem dL_isCash_38 : decode cL_isCash 38 = .ok (.lstore 4, 2) := by decide +kernel
theorem dL_isCash_40 : decode cL_isCash 40 = .ok (.aload_n 0, 1) := by decide +kernel
theorem dL_isCash_41 : decode cL_isCash 41 = .ok (.iload 9, 2) := by decide +kernel
theorem dL_isCash_43 : decode cL_isCash 43 = .ok (.iload_n 2, 1) := by decide +kernel
theorem dL_isCash_44 : decode cL_isCash 44 = .ok (.iload_n 3, 1) := by decide +kernel
theorem dL_isCash_45 : decode cL_isCash 45 = .ok (.invokevirtual 14, 3) := by decide +kernel
theorem dL_isCash_48 : decode cL_isCash 48 = .ok (.lload 10, 2) := by decide +kernel
theorem dL_isCash_50 : decode cL_isCash 50 = .ok (.lcmp, 1) := by decide +kernel
theorem dL_isCash_51 : decode cL_isCash 51 = .ok (.ifCond .ne 7, 3) := by decide +kernel
theorem dL_isCash_54 : decode cL_isCash 54 = .ok (.iconst 1, 1) := by decide +kernel
theorem dL_isCash_55 : decode cL_isCash 55 = .ok (.goto 4, 3) := by decide +kernel
theorem dL_isCash_58 : decode cL_isCash 58 = .ok (.iconst 0, 1) := by decide +kernel
theorem dL_isCash_59 : decode cL_isCash 59 = .ok (.istore 8, 2) := by decide +kernel
theorem dL_isCash_61 : decode cL_isCash 61 = .ok (.iinc 9 1, 3) := by decide +kernel
theorem dL_isCash_64 : decode cL_isCash 64 = .ok (.goto (-52), 3) := by decide +kernel
theorem dL_isCash_67 : decode cL_isCash 67 = .ok (.iconst 0, 1) := by decide +kernel
theorem dL_isCash_68 : decode cL_isCash 68 = .ok (.istore 9, 2) := by decide +kernel
theorem dL_isCash_70 : decode cL_isCash 70 = .ok (.iload 9, 2) := by decide +kernel
theorem dL_isCash_72 : decode cL_isCash 72 = .ok (.aload_n 0, 1) := by decide +kernel
theorem dL_isCash_73 : decode cL_isCash 73 = .ok (.invokevirtual 17, 3) := by decide +kernel
theorem dL_isCash_76 : decode cL_isCash 76 = .ok (.if_icmp .ge 109, 3) := by decide +kernel
theorem dL_isCash_79 : decode cL_isCash 79 = .ok (.iconst 0, 1) := by decide +kernel
theorem dL_isCash_80 : decode cL_isCash 80 = .ok (.istore 10, 2) := by decide +kernel
theorem dL_isCash_82 : decode cL_isCash 82 = .ok (.iload 10, 2) := by decide +kernel
theorem dL_isCash_84 : decode cL_isCash 84 = .ok (.aload_n 1, 1) := by decide +kernel
theorem dL_isCash_85 : decode cL_isCash 85 = .ok (.iload 9, 2) := by decide +kernel
theorem dL_isCash_87 : decode cL_isCash 87 = .ok (.iaload, 1) := by decide +kernel
theorem dL_isCash_88 : decode cL_isCash 88 = .ok (.if_icmp .ge 91, 3) := by decide +kernel
theorem dL_isCash_91 : decode cL_isCash 91 = .ok (.aload_n 0, 1) := by decide +kernel
theorem dL_isCash_92 : decode cL_isCash 92 = .ok (.iload 9, 2) := by decide +kernel
theorem dL_isCash_94 : decode cL_isCash 94 = .ok (.iload 10, 2) := by decide +kernel
theorem dL_isCash_96 : decode cL_isCash 96 = .ok (.invokevirtual 21, 3) := by decide +kernel
theorem dL_isCash_99 : decode cL_isCash 99 = .ok (.istore 11, 2) := by decide +kernel
theorem dL_isCash_101 : decode cL_isCash 101 = .ok (.lload 6, 2) := by decide +kernel
theorem dL_isCash_103 : decode cL_isCash 103 = .ok (.iload 11, 2) := by decide +kernel
theorem dL_isCash_105 : decode cL_isCash 105 = .ok (.iload_n 2, 1) := by decide +kernel
theorem dL_isCash_106 : decode cL_isCash 106 = .ok (.if_icmp .lt 20, 3) := by decide +kernel
theorem dL_isCash_109 : decode cL_isCash 109 = .ok (.iload 11, 2) := by decide +kernel
theorem dL_isCash_111 : decode cL_isCash 111 = .ok (.iload_n 3, 1) := by decide +kernel
theorem dL_isCash_112 : decode cL_isCash 112 = .ok (.if_icmp .gt 14, 3) := by decide +kernel
theorem dL_isCash_115 : decode cL_isCash 115 = .ok (.aload_n 0, 1) := by decide +kernel
theorem dL_isCash_116 : decode cL_isCash 116 = .ok (.iload 9, 2) := by decide +kernel
theorem dL_isCash_118 : decode cL_isCash 118 = .ok (.iload 10, 2) := by decide +kernel
theorem dL_isCash_120 : decode cL_isCash 120 = .ok (.invokevirtual 25, 3) := by decide +kernel
theorem dL_isCash_123 : decode cL_isCash 123 = .ok (.goto 4, 3) := by decide +kernel
theorem dL_isCash_126 : decode cL_isCash 126 = .ok (.lconst 0, 1) := by decide +kernel
theorem dL_isCash_127 : decode cL_isCash 127 = .ok (.ladd, 1) := by decide +kernel
theorem dL_isCash_128 : decode cL_isCash 128 = .ok (.lstore 6, 2) := by decide +kernel
theorem dL_isCash_130 : decode cL_isCash 130 = .ok (.iload 8, 2) := by decide +kernel
theorem dL_isCash_132 : decode cL_isCash 132 = .ok (.ifCond .eq 38, 3) := by decide +kernel
theorem dL_isCash_135 : decode cL_isCash 135 = .ok (.iload 11, 2) := by decide +kernel
theorem dL_isCash_137 : decode cL_isCash 137 = .ok (.iload_n 2, 1) := by decide +kernel
theorem dL_isCash_138 : decode cL_isCash 138 = .ok (.if_icmp .lt 28, 3) := by decide +kernel
theorem dL_isCash_141 : decode cL_isCash 141 = .ok (.iload 11, 2) := by decide +kernel
theorem dL_isCash_143 : decode cL_isCash 143 = .ok (.iload_n 3, 1) := by decide +kernel
theorem dL_isCash_144 : decode cL_isCash 144 = .ok (.if_icmp .gt 22, 3) := by decide +kernel
theorem dL_isCash_147 : decode cL_isCash 147 = .ok (.aload_n 0, 1) := by decide +kernel
theorem dL_isCash_148 : decode cL_isCash 148 = .ok (.aload_n 0, 1) := by decide +kernel
theorem dL_isCash_149 : decode cL_isCash 149 = .ok (.iload 9, 2) := by decide +kernel
theorem dL_isCash_151 : decode cL_isCash 151 = .ok (.iload 11, 2) := by decide +kernel
theorem dL_isCash_153 : decode cL_isCash 153 = .ok (.invokevirtual 29, 3) := by decide +kernel
theorem dL_isCash_156 : decode cL_isCash 156 = .ok (.iload 11, 2) := by decide +kernel
theorem dL_isCash_158 : decode cL_isCash 158 = .ok (.invokevirtual 32, 3) := by decide +kernel
theorem dL_isCash_161 : decode cL_isCash 161 = .ok (.iload 11, 2) := by decide +kernel
theorem dL_isCash_163 : decode cL_isCash 163 = .ok (.if_icmp .ne 7, 3) := by decide +kernel
theorem dL_isCash_166 : decode cL_isCash 166 = .ok (.iconst 1, 1) := by decide +kernel
theorem dL_isCash_167 : decode cL_isCash 167 = .ok (.goto 4, 3) := by decide +kernel
theorem dL_isCash_170 : decode cL_isCash 170 = .ok (.iconst 0, 1) := by decide +kernel
theorem dL_isCash_171 : decode cL_isCash 171 = .ok (.istore 8, 2) := by decide +kernel
theorem dL_isCash_173 : decode cL_isCash 173 = .ok (.iinc 10 1, 3) := by decide +kernel
theorem dL_isCash_176 : decode cL_isCash 176 = .ok (.goto (-94), 3) := by decide +kernel
theorem dL_isCash_179 : decode cL_isCash 179 = .ok (.iinc 9 1, 3) := by decide +kernel
theorem dL_isCash_182 : decode cL_isCash 182 = .ok (.goto (-112), 3) := by decide +kernel
theorem dL_isCash_185 : decode cL_isCash 185 = .ok (.iload 8, 2) := by decide +kernel
theorem dL_isCash_187 : decode cL_isCash 187 = .ok (.ifCond .eq 15, 3) := by decide +kernel
theorem dL_isCash_190 : decode cL_isCash 190 = .ok (.lload 4, 2) := by decide +kernel
theorem dL_isCash_192 : decode cL_isCash 192 = .ok (.lload 6, 2) := by decide +kernel
theorem dL_isCash_194 : decode cL_isCash 194 = .ok (.lcmp, 1) := by decide +kernel
theorem dL_isCash_195 : decode cL_isCash 195 = .ok (.ifCond .ne 7, 3) := by decide +kernel
theorem dL_isCash_198 : decode cL_isCash 198 = .ok (.iconst 1, 1) := by decide +kernel
theorem dL_isCash_199 : decode cL_isCash 199 = .ok (.goto 4, 3) := by decide +kernel
theorem dL_isCash_202 : decode cL_isCash 202 = .ok (.iconst 0, 1) := by decide +kernel
theorem dL_isCash_203 : decode cL_isCash 203 = .ok (.ireturn, 1) := by decide +kernel
theorem dL_isPressed_0 : decode cL_isPressed 0 = .ok (.aload_n 0, 1) := by decide +kernel
theorem dL_isPressed_1 : decode cL_isPressed 1 = .ok (.iconst 0, 1) := by decide +kernel
theorem dL_isPressed_2 : decode cL_isPressed 2 = .ok (.iload_n 3, 1) := by decide +kernel
theorem dL_isPressed_3 : decode cL_isPressed 3 = .ok (.iload_n 3, 1) := by decide +kernel
theorem dL_isPressed_4 : decode cL_isPressed 4 = .ok (.sipush 400, 3) := by decide +kernel
theorem dL_isPressed_7 : decode cL_isPressed 7 = .ok (.iadd, 1) := by decide +kernel
theorem dL_isPressed_8 : decode cL_isPressed 8 = .ok (.invokevirtual 8, 3) := by decide +kernel
theorem dL_isPressed_11 : decode cL_isPressed 11 = .ok (.lstore 4, 2) := by decide +kernel
theorem dL_isPressed_13 : decode cL_isPressed 13 = .ok (.aload_n 0, 1) := by decide +kernel
theorem dL_isPressed_14 : decode cL_isPressed 14 = .ok (.iconst 1, 1) := by decide +kernel
theorem dL_isPressed_15 : decode cL_isPressed 15 = .ok (.iload_n 3, 1) := by decide +kernel
theorem dL_isPressed_16 : decode cL_isPressed 16 = .ok (.iload_n 3, 1) := by decide +kernel
theorem dL_isPressed_17 : decode cL_isPressed 17 = .ok (.sipush 400, 3) := by decide +kernel
theorem dL_isPressed_20 : decode cL_isPressed 20 = .ok (.iadd, 1) := by decide +kernel
theorem dL_isPressed_21 : decode cL_isPressed 21 = .ok (.invokevirtual 8, 3) := by decide +kernel
theorem dL_isPressed_24 : decode cL_isPressed 24 = .ok (.lstore 6, 2) := by decide +kernel
theorem dL_isPressed_26 : decode cL_isPressed 26 = .ok (.aload_n 0, 1) := by decide +kernel
theorem dL_isPressed_27 : decode cL_isPressed 27 = .ok (.iconst 2, 1) := by decide +kernel
theorem dL_isPressed_28 : decode cL_isPressed 28 = .ok (.iload_n 3, 1) := by decide +kernel
theorem dL_isPressed_29 : decode cL_isPressed 29 = .ok (.iload_n 3, 1) := by decide +kernel
theorem dL_isPressed_30 : decode cL_isPressed 30 = .ok (.sipush 400, 3) := by decide +kernel
theorem dL_isPressed_33 : decode cL_isPressed 33 = .ok (.iadd, 1) := by decide +kernel
theorem dL_isPressed_34 : decode cL_isPressed 34 = .ok (.invokevirtual 8, 3) := by decide +kernel
theorem dL_isPressed_37 : decode cL_isPressed 37 = .ok (.lstore 8, 2) := by decide +kernel
theorem dL_isPressed_39 : decode cL_isPressed 39 = .ok (.aload_n 0, 1) := by decide +kernel
theorem dL_isPressed_40 : decode cL_isPressed 40 = .ok (.iload_n 2, 1) := by decide +kernel
theorem dL_isPressed_41 : decode cL_isPressed 41 = .ok (.invokevirtual 35, 3) := by decide +kernel
theorem dL_isPressed_44 : decode cL_isPressed 44 = .ok (.istore 10, 2) := by decide +kernel
theorem dL_isPressed_46 : decode cL_isPressed 46 = .ok (.iload 10, 2) := by decide +kernel
theorem dL_isPressed_48 : decode cL_isPressed 48 = .ok (.ifCond .lt 58, 3) := by decide +kernel
theorem dL_isPressed_51 : decode cL_isPressed 51 = .ok (.aload_n 0, 1) := by decide +kernel
theorem dL_isPressed_52 : decode cL_isPressed 52 = .ok (.iconst 0, 1) := by decide +kernel
theorem dL_isPressed_53 : decode cL_isPressed 53 = .ok (.iload_n 3, 1) := by decide +kernel
theorem dL_isPressed_54 : decode cL_isPressed 54 = .ok (.iload_n 3, 1) := by decide +kernel
theorem dL_isPressed_55 : decode cL_isPressed 55 = .ok (.sipush 400, 3) := by decide +kernel
theorem dL_isPressed_58 : decode cL_isPressed 58 = .ok (.iadd, 1) := by decide +kernel
theorem dL_isPressed_59 : decode cL_isPressed 59 = .ok (.invokevirtual 8, 3) := by decide +kernel
theorem dL_isPressed_62 : decode cL_isPressed 62 = .ok (.lload 4, 2) := by decide +kernel
theorem dL_isPressed_64 : decode cL_isPressed 64 = .ok (.lcmp, 1) := by decide +kernel
theorem dL_isPressed_65 : decode cL_isPressed 65 = .ok (.ifCond .ne 41, 3) := by decide +kernel
theorem dL_isPressed_68 : decode cL_isPressed 68 = .ok (.aload_n 0, 1) := by decide +kernel
theorem dL_isPressed_69 : decode cL_isPressed 69 = .ok (.iconst 1, 1) := by decide +kernel
theorem dL_isPressed_70 : decode cL_isPressed 70 = .ok (.iload_n 3, 1) := by decide +kernel
theorem dL_isPressed_71 : decode cL_isPressed 71 = .ok (.iload_n 3, 1) := by decide +kernel
theorem dL_isPressed_72 : decode cL_isPressed 72 = .ok (.sipush 400, 3) := by decide +kernel
theorem dL_isPressed_75 : decode cL_isPressed 75 = .ok (.iadd, 1) := by decide +kernel
theorem dL_isPressed_76 : decode cL_isPressed 76 = .ok (.invokevirtual 8, 3) := by decide +kernel
theorem dL_isPressed_79 : decode cL_isPressed 79 = .ok (.lload 6, 2) := by decide +kernel
theorem dL_isPressed_81 : decode cL_isPressed 81 = .ok (.lcmp, 1) := by decide +kernel
theorem dL_isPressed_82 : decode cL_isPressed 82 = .ok (.ifCond .ne 24, 3) := by decide +kernel
theorem dL_isPressed_85 : decode cL_isPressed 85 = .ok (.aload_n 0, 1) := by decide +kernel
theorem dL_isPressed_86 : decode cL_isPressed 86 = .ok (.iconst 2, 1) := by decide +kernel
theorem dL_isPressed_87 : decode cL_isPressed 87 = .ok (.iload_n 3, 1) := by decide +kernel
theorem dL_isPressed_88 : decode cL_isPressed 88 = .ok (.iload_n 3, 1) := by decide +kernel
theorem dL_isPressed_89 : decode cL_isPressed 89 = .ok (.sipush 400, 3) := by decide +kernel
theorem dL_isPressed_92 : decode cL_isPressed 92 = .ok (.iadd, 1) := by decide +kernel
theorem dL_isPressed_93 : decode cL_isPressed 93 = .ok (.invokevirtual 8, 3) := by decide +kernel
theorem dL_isPressed_96 : decode cL_isPressed 96 = .ok (.lload 8, 2) := by decide +kernel
theorem dL_isPressed_98 : decode cL_isPressed 98 = .ok (.lcmp, 1) := by decide +kernel
theorem dL_isPressed_99 : decode cL_isPressed 99 = .ok (.ifCond .ne 7, 3) := by decide +kernel
theorem dL_isPressed_102 : decode cL_isPressed 102 = .ok (.iconst 1, 1) := by decide +kernel
theorem dL_isPressed_103 : decode cL_isPressed 103 = .ok (.goto 4, 3) := by decide +kernel
theorem dL_isPressed_106 : decode cL_isPressed 106 = .ok (.iconst 0, 1) := by decide +kernel
theorem dL_isPressed_107 : decode cL_isPressed 107 = .ok (.istore 11, 2) := by decide +kernel
theorem dL_isPressed_109 : decode cL_isPressed 109 = .ok (.iconst 0, 1) := by decide +kernel
theorem dL_isPressed_110 : decode cL_isPressed 110 = .ok (.istore 12, 2) := by decide +kernel
theorem dL_isPressed_112 : decode cL_isPressed 112 = .ok (.iload 12, 2) := by decide +kernel
theorem dL_isPressed_114 : decode cL_isPressed 114 = .ok (.aload_n 0, 1) := by decide +kernel
theorem dL_isPressed_115 : decode cL_isPressed 115 = .ok (.invokevirtual 17, 3) := by decide +kernel
theorem dL_isPressed_118 : decode cL_isPressed 118 = .ok (.if_icmp .ge 100, 3) := by decide +kernel
theorem dL_isPressed_121 : decode cL_isPressed 121 = .ok (.iload 11, 2) := by decide +kernel
theorem dL_isPressed_123 : decode cL_isPressed 123 = .ok (.ifCond .eq 95, 3) := by decide +kernel
theorem dL_isPressed_126 : decode cL_isPressed 126 = .ok (.iconst 0, 1) := by decide +kernel
theorem dL_isPressed_127 : decode cL_isPressed 127 = .ok (.istore 13, 2) := by decide +kernel
theorem dL_isPressed_129 : decode cL_isPressed 129 = .ok (.iload 13, 2) := by decide +kernel
theorem dL_isPressed_131 : decode cL_isPressed 131 = .ok (.aload_n 1, 1) := by decide +kernel
theorem dL_isPressed_132 : decode cL_isPressed 132 = .ok (.iload 12, 2) := by decide +kernel
theorem dL_isPressed_134 : decode cL_isPressed 134 = .ok (.iaload, 1) := by decide +kernel
theorem dL_isPressed_135 : decode cL_isPressed 135 = .ok (.if_icmp .ge 77, 3) := by decide +kernel
theorem dL_isPressed_138 : decode cL_isPressed 138 = .ok (.iload 11, 2) := by decide +kernel
theorem dL_isPressed_140 : decode cL_isPressed 140 = .ok (.ifCond .eq 72, 3) := by decide +kernel
theorem dL_isPressed_143 : decode cL_isPressed 143 = .ok (.aload_n 0, 1) := by decide +kernel
theorem dL_isPressed_144 : decode cL_isPressed 144 = .ok (.iload 12, 2) := by decide +kernel
theorem dL_isPressed_146 : decode cL_isPressed 146 = .ok (.iload 13, 2) := by decide +kernel
theorem dL_isPressed_148 : decode cL_isPressed 148 = .ok (.invokevirtual 39, 3) := by decide +kernel
theorem dL_isPressed_151 : decode cL_isPressed 151 = .ok (.ifCond .lt 52, 3) := by decide +kernel
theorem dL_isPressed_154 : decode cL_isPressed 154 = .ok (.iload 13, 2) := by decide +kernel
theorem dL_isPressed_156 : decode cL_isPressed 156 = .ok (.ifCond .eq 24, 3) := by decide +kernel
theorem dL_isPressed_159 : decode cL_isPressed 159 = .ok (.aload_n 0, 1) := by decide +kernel
theorem dL_isPressed_160 : decode cL_isPressed 160 = .ok (.iload 12, 2) := by decide +kernel
theorem dL_isPressed_162 : decode cL_isPressed 162 = .ok (.iload 13, 2) := by decide +kernel
theorem dL_isPressed_164 : decode cL_isPressed 164 = .ok (.invokevirtual 39, 3) := by decide +kernel
theorem dL_isPressed_167 : decode cL_isPressed 167 = .ok (.aload_n 0, 1) := by decide +kernel
theorem dL_isPressed_168 : decode cL_isPressed 168 = .ok (.iload 12, 2) := by decide +kernel
theorem dL_isPressed_170 : decode cL_isPressed 170 = .ok (.iload 13, 2) := by decide +kernel
theorem dL_isPressed_172 : decode cL_isPressed 172 = .ok (.iconst 1, 1) := by decide +kernel
theorem dL_isPressed_173 : decode cL_isPressed 173 = .ok (.isub, 1) := by decide +kernel
theorem dL_isPressed_174 : decode cL_isPressed 174 = .ok (.invokevirtual 39, 3) := by decide +kernel
theorem dL_isPressed_177 : decode cL_isPressed 177 = .ok (.if_icmp .gt 26, 3) := by decide +kernel
theorem dL_isPressed_180 : decode cL_isPressed 180 = .ok (.aload_n 0, 1) := by decide +kernel
theorem dL_isPressed_181 : decode cL_isPressed 181 = .ok (.iload 12, 2) := by decide +kernel
theorem dL_isPressed_183 : decode cL_isPressed 183 = .ok (.iload 13, 2) := by decide +kernel
theorem dL_isPressed_185 : decode cL_isPressed 185 = .ok (.invokevirtual 42, 3) := by decide +kernel
theorem dL_isPressed_188 : decode cL_isPressed 188 = .ok (.aload_n 0, 1) := by decide +kernel
theorem dL_isPressed_189 : decode cL_isPressed 189 = .ok (.iload 12, 2) := by decide +kernel
theorem dL_isPressed_191 : decode cL_isPressed 191 = .ok (.iload 13, 2) := by decide +kernel
theorem dL_isPressed_193 : decode cL_isPressed 193 = .ok (.invokevirtual 21, 3) := by decide +kernel
theorem dL_isPressed_196 : decode cL_isPressed 196 = .ok (.if_icmp .gt 7, 3) := by decide +kernel
theorem dL_isPressed_199 : decode cL_isPressed 199 = .ok (.iconst 1, 1) := by decide +kernel
theorem dL_isPressed_200 : decode cL_isPressed 200 = .ok (.goto 4, 3) := by decide +kernel
theorem dL_isPressed_203 : decode cL_isPressed 203 = .ok (.iconst 0, 1) := by decide +kernel
theorem dL_isPressed_204 : decode cL_isPressed 204 = .ok (.istore 11, 2) := by decide +kernel
theorem dL_isPressed_206 : decode cL_isPressed 206 = .ok (.iinc 13 1, 3) := by decide +kernel
theorem dL_isPressed_209 : decode cL_isPressed 209 = .ok (.goto (-80), 3) := by decide +kernel
theorem dL_isPressed_212 : decode cL_isPressed 212 = .ok (.iinc 12 1, 3) := by decide +kernel
theorem dL_isPressed_215 : decode cL_isPressed 215 = .ok (.goto (-103), 3) := by decide +kernel
theorem dL_isPressed_218 : decode cL_isPressed 218 = .ok (.iload 11, 2) := by decide +kernel
theorem dL_isPressed_220 : decode cL_isPressed 220 = .ok (.ifCond .eq 15, 3) := by decide +kernel
theorem dL_isPressed_223 : decode cL_isPressed 223 = .ok (.aload_n 0, 1) := by decide +kernel
theorem dL_isPressed_224 : decode cL_isPressed 224 = .ok (.iload_n 2, 1) := by decide +kernel
theorem dL_isPressed_225 : decode cL_isPressed 225 = .ok (.invokevirtual 35, 3) := by decide +kernel
theorem dL_isPressed_228 : decode cL_isPressed 228 = .ok (.ifCond .ne 7, 3) := by decide +kernel
theorem dL_isPressed_231 : decode cL_isPressed 231 = .ok (.iconst 1, 1) := by decide +kernel
theorem dL_isPressed_232 : decode cL_isPressed 232 = .ok (.goto 4, 3) := by decide +kernel
theorem dL_isPressed_235 : decode cL_isPressed 235 = .ok (.iconst 0, 1) := by decide +kernel
theorem dL_isPressed_236 : decode cL_isPressed 236 = .ok (.ireturn, 1) := by decide +kernel
theorem dL_breaks_0 : decode cL_breaks 0 = .ok (.aload_n 0, 1) := by decide +kernel
theorem dL_breaks_1 : decode cL_breaks 1 = .ok (.iload_n 1, 1) := by decide +kernel
theorem dL_breaks_2 : decode cL_breaks 2 = .ok (.iload_n 2, 1) := by decide +kernel
theorem dL_breaks_3 : decode cL_breaks 3 = .ok (.iload_n 3, 1) := by decide +kernel
theorem dL_breaks_4 : decode cL_breaks 4 = .ok (.invokevirtual 87, 3) := by decide +kernel
theorem dL_breaks_7 : decode cL_breaks 7 = .ok (.istore 6, 2) := by decide +kernel
theorem dL_breaks_9 : decode cL_breaks 9 = .ok (.iload 6, 2) := by decide +kernel
theorem dL_breaks_11 : decode cL_breaks 11 = .ok (.iconst 1, 1) := by decide +kernel
theorem dL_breaks_12 : decode cL_breaks 12 = .ok (.if_icmp .lt 23, 3) := by decide +kernel
theorem dL_breaks_15 : decode cL_breaks 15 = .ok (.aload_n 0, 1) := by decide +kernel
theorem dL_breaks_16 : decode cL_breaks 16 = .ok (.iload_n 1, 1) := by decide +kernel
theorem dL_breaks_17 : decode cL_breaks 17 = .ok (.iload 5, 2) := by decide +kernel
theorem dL_breaks_19 : decode cL_breaks 19 = .ok (.iconst 1, 1) := by decide +kernel
theorem dL_breaks_20 : decode cL_breaks 20 = .ok (.isub, 1) := by decide +kernel
theorem dL_breaks_21 : decode cL_breaks 21 = .ok (.invokevirtual 39, 3) := by decide +kernel
theorem dL_breaks_24 : decode cL_breaks 24 = .ok (.iload 4, 2) := by decide +kernel
theorem dL_breaks_26 : decode cL_breaks 26 = .ok (.iload_n 3, 1) := by decide +kernel
theorem dL_breaks_27 : decode cL_breaks 27 = .ok (.isub, 1) := by decide +kernel
theorem dL_breaks_28 : decode cL_breaks 28 = .ok (.if_icmp .ne 7, 3) := by decide +kernel
theorem dL_breaks_31 : decode cL_breaks 31 = .ok (.iconst 1, 1) := by decide +kernel
theorem dL_breaks_32 : decode cL_breaks 32 = .ok (.goto 4, 3) := by decide +kernel
theorem dL_breaks_35 : decode cL_breaks 35 = .ok (.iconst 0, 1) := by decide +kernel
theorem dL_breaks_36 : decode cL_breaks 36 = .ok (.ireturn, 1) := by decide +kernel
