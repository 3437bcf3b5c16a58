/-! the law's instructions -/
theorem dL_cell_0 : decode cL_cell 0 = .ok (.iload_n 1, 1) := by decide +kernel
theorem dL_cell_1 : decode cL_cell 1 = .ok (.aload_n 0, 1) := by decide +kernel
theorem dL_cell_2 : decode cL_cell 2 = .ok (.arraylength, 1) := by decide +kernel
theorem dL_cell_3 : decode cL_cell 3 = .ok (.if_icmp .ge 9, 3) := by decide +kernel
theorem dL_cell_6 : decode cL_cell 6 = .ok (.aload_n 0, 1) := by decide +kernel
theorem dL_cell_7 : decode cL_cell 7 = .ok (.iload_n 1, 1) := by decide +kernel
theorem dL_cell_8 : decode cL_cell 8 = .ok (.iaload, 1) := by decide +kernel
theorem dL_cell_9 : decode cL_cell 9 = .ok (.goto 11, 3) := by decide +kernel
theorem dL_cell_12 : decode cL_cell 12 = .ok (.ldc 7, 2) := by decide +kernel
theorem dL_cell_14 : decode cL_cell 14 = .ok (.iload_n 1, 1) := by decide +kernel
theorem dL_cell_15 : decode cL_cell 15 = .ok (.imul, 1) := by decide +kernel
theorem dL_cell_16 : decode cL_cell 16 = .ok (.sipush 727, 3) := by decide +kernel
theorem dL_cell_19 : decode cL_cell 19 = .ok (.iadd, 1) := by decide +kernel
theorem dL_cell_20 : decode cL_cell 20 = .ok (.ireturn, 1) := by decide +kernel
theorem dL_low_0 : decode cL_low 0 = .ok (.iload_n 0, 1) := by decide +kernel
theorem dL_low_1 : decode cL_low 1 = .ok (.ldc 8, 2) := by decide +kernel
theorem dL_low_3 : decode cL_low 3 = .ok (.iand, 1) := by decide +kernel
theorem dL_low_4 : decode cL_low 4 = .ok (.iload_n 1, 1) := by decide +kernel
theorem dL_low_5 : decode cL_low 5 = .ok (.irem, 1) := by decide +kernel
theorem dL_low_6 : decode cL_low 6 = .ok (.ireturn, 1) := by decide +kernel
theorem dL_retract_0 : decode cL_retract 0 = .ok (.aload_n 0, 1) := by decide +kernel
theorem dL_retract_1 : decode cL_retract 1 = .ok (.iload_n 1, 1) := by decide +kernel
theorem dL_retract_2 : decode cL_retract 2 = .ok (.iload_n 2, 1) := by decide +kernel
theorem dL_retract_3 : decode cL_retract 3 = .ok (.iload_n 3, 1) := by decide +kernel
theorem dL_retract_4 : decode cL_retract 4 = .ok (.iload 4, 2) := by decide +kernel
theorem dL_retract_6 : decode cL_retract 6 = .ok (.invokevirtual 9, 3) := by decide +kernel
theorem dL_retract_9 : decode cL_retract 9 = .ok (.ireturn, 1) := by decide +kernel
theorem dL_retract_10 : decode cL_retract 10 = .ok (.astore 5, 2) := by decide +kernel
theorem dL_retract_12 : decode cL_retract 12 = .ok (.iconst (-1), 1) := by decide +kernel
theorem dL_retract_13 : decode cL_retract 13 = .ok (.ireturn, 1) := by decide +kernel
theorem dL_retract_14 : decode cL_retract 14 = .ok (.astore 5, 2) := by decide +kernel
theorem dL_retract_16 : decode cL_retract 16 = .ok (.bipush (-2), 2) := by decide +kernel
theorem dL_retract_18 : decode cL_retract 18 = .ok (.ireturn, 1) := by decide +kernel
theorem dL_retract_19 : decode cL_retract 19 = .ok (.astore 5, 2) := by decide +kernel
theorem dL_retract_21 : decode cL_retract 21 = .ok (.bipush (-3), 2) := by decide +kernel
theorem dL_retract_23 : decode cL_retract 23 = .ok (.ireturn, 1) := by decide +kernel
theorem dL_retract_24 : decode cL_retract 24 = .ok (.astore 5, 2) := by decide +kernel
theorem dL_retract_26 : decode cL_retract 26 = .ok (.bipush (-4), 2) := by decide +kernel
theorem dL_retract_28 : decode cL_retract 28 = .ok (.ireturn, 1) := by decide +kernel
theorem dL_correct_0 : decode cL_correct 0 = .ok (.aload_n 0, 1) := by decide +kernel
theorem dL_correct_1 : decode cL_correct 1 = .ok (.iload_n 1, 1) := by decide +kernel
theorem dL_correct_2 : decode cL_correct 2 = .ok (.iload_n 2, 1) := by decide +kernel
theorem dL_correct_3 : decode cL_correct 3 = .ok (.iload_n 3, 1) := by decide +kernel
theorem dL_correct_4 : decode cL_correct 4 = .ok (.iload 4, 2) := by decide +kernel
theorem dL_correct_6 : decode cL_correct 6 = .ok (.invokevirtual 23, 3) := by decide +kernel
theorem dL_correct_9 : decode cL_correct 9 = .ok (.ireturn, 1) := by decide +kernel
theorem dL_correct_10 : decode cL_correct 10 = .ok (.astore 5, 2) := by decide +kernel
theorem dL_correct_12 : decode cL_correct 12 = .ok (.iconst (-1), 1) := by decide +kernel
theorem dL_correct_13 : decode cL_correct 13 = .ok (.ireturn, 1) := by decide +kernel
theorem dL_correct_14 : decode cL_correct 14 = .ok (.astore 5, 2) := by decide +kernel
theorem dL_correct_16 : decode cL_correct 16 = .ok (.bipush (-2), 2) := by decide +kernel
theorem dL_correct_18 : decode cL_correct 18 = .ok (.ireturn, 1) := by decide +kernel
theorem dL_correct_19 : decode cL_correct 19 = .ok (.astore 5, 2) := by decide +kernel
theorem dL_correct_21 : decode cL_correct 21 = .ok (.bipush (-3), 2) := by decide +kernel
theorem dL_correct_23 : decode cL_correct 23 = .ok (.ireturn, 1) := by decide +kernel
theorem dL_correct_24 : decode cL_correct 24 = .ok (.astore 5, 2) := by decide +kernel
theorem dL_correct_26 : decode cL_correct 26 = .ok (.bipush (-4), 2) := by decide +kernel
theorem dL_correct_28 : decode cL_correct 28 = .ok (.ireturn, 1) := by decide +kernel
theorem dL_isGone_0 : decode cL_isGone 0 = .ok (.aload_n 0, 1) := by decide +kernel
theorem dL_isGone_1 : decode cL_isGone 1 = .ok (.iload_n 1, 1) := by decide +kernel
theorem dL_isGone_2 : decode cL_isGone 2 = .ok (.invokevirtual 26, 3) := by decide +kernel
theorem dL_isGone_5 : decode cL_isGone 5 = .ok (.ifCond .ge 7, 3) := by decide +kernel
theorem dL_isGone_8 : decode cL_isGone 8 = .ok (.iconst 1, 1) := by decide +kernel
theorem dL_isGone_9 : decode cL_isGone 9 = .ok (.goto 4, 3) := by decide +kernel
theorem dL_isGone_12 : decode cL_isGone 12 = .ok (.iconst 0, 1) := by decide +kernel
theorem dL_isGone_13 : decode cL_isGone 13 = .ok (.ireturn, 1) := by decide +kernel
theorem dL_isGone_14 : decode cL_isGone 14 = .ok (.astore_n 2, 1) := by decide +kernel
theorem dL_isGone_15 : decode cL_isGone 15 = .ok (.iconst 1, 1) := by decide +kernel
theorem dL_isGone_16 : decode cL_isGone 16 = .ok (.ireturn, 1) := by decide +kernel
theorem dL_agrees_0 : decode cL_agrees 0 = .ok (.iconst 0, 1) := by decide +kernel
theorem dL_agrees_1 : decode cL_agrees 1 = .ok (.istore_n 2, 1) := by decide +kernel
theorem dL_agrees_2 : decode cL_agrees 2 = .ok (.iconst 0, 1) := by decide +kernel
theorem dL_agrees_3 : decode cL_agrees 3 = .ok (.istore_n 3, 1) := by decide +kernel
theorem dL_agrees_4 : decode cL_agrees 4 = .ok (.iconst 0, 1) := by decide +kernel
theorem dL_agrees_5 : decode cL_agrees 5 = .ok (.istore 4, 2) := by decide +kernel
theorem dL_agrees_7 : decode cL_agrees 7 = .ok (.iload 4, 2) := by decide +kernel
theorem dL_agrees_9 : decode cL_agrees 9 = .ok (.aload_n 1, 1) := by decide +kernel
theorem dL_agrees_10 : decode cL_agrees 10 = .ok (.getfield 30, 3) := by decide +kernel
theorem dL_agrees_13 : decode cL_agrees 13 = .ok (.if_icmp .ge 153, 3) := by decide +kernel
theorem dL_agrees_16 : decode cL_agrees 16 = .ok (.iload_n 2, 1) := by decide +kernel
theorem dL_agrees_17 : decode cL_agrees 17 = .ok (.aload_n 1, 1) := by decide +kernel
theorem dL_agrees_18 : decode cL_agrees 18 = .ok (.getfield 36, 3) := by decide +kernel
theorem dL_agrees_21 : decode cL_agrees 21 = .ok (.iload 4, 2) := by decide +kernel
theorem dL_agrees_23 : decode cL_agrees 23 = .ok (.baload, 1) := by decide +kernel
theorem dL_agrees_24 : decode cL_agrees 24 = .ok (.ifCond .eq 7, 3) := by decide +kernel
theorem dL_agrees_27 : decode cL_agrees 27 = .ok (.iconst 0, 1) := by decide +kernel
theorem dL_agrees_28 : decode cL_agrees 28 = .ok (.goto 4, 3) := by decide +kernel
theorem dL_agrees_31 : decode cL_agrees 31 = .ok (.iconst 1, 1) := by decide +kernel
theorem dL_agrees_32 : decode cL_agrees 32 = .ok (.iadd, 1) := by decide +kernel
theorem dL_agrees_33 : decode cL_agrees 33 = .ok (.istore_n 2, 1) := by decide +kernel
theorem dL_agrees_34 : decode cL_agrees 34 = .ok (.iload_n 3, 1) := by decide +kernel
theorem dL_agrees_35 : decode cL_agrees 35 = .ok (.aload_n 1, 1) := by decide +kernel
theorem dL_agrees_36 : decode cL_agrees 36 = .ok (.getfield 40, 3) := by decide +kernel
theorem dL_agrees_39 : decode cL_agrees 39 = .ok (.iload 4, 2) := by decide +kernel
theorem dL_agrees_41 : decode cL_agrees 41 = .ok (.iaload, 1) := by decide +kernel
theorem dL_agrees_42 : decode cL_agrees 42 = .ok (.ifCond .ge 7, 3) := by decide +kernel
theorem dL_agrees_45 : decode cL_agrees 45 = .ok (.iconst 1, 1) := by decide +kernel
theorem dL_agrees_46 : decode cL_agrees 46 = .ok (.goto 4, 3) := by decide +kernel
theorem dL_agrees_49 : decode cL_agrees 49 = .ok (.iconst 0, 1) := by decide +kernel
theorem dL_agrees_50 : decode cL_agrees 50 = .ok (.iadd, 1) := by decide +kernel
theorem dL_agrees_51 : decode cL_agrees 51 = .ok (.istore_n 3, 1) := by decide +kernel
theorem dL_agrees_52 : decode cL_agrees 52 = .ok (.aload_n 1, 1) := by decide +kernel
theorem dL_agrees_53 : decode cL_agrees 53 = .ok (.getfield 36, 3) := by decide +kernel
theorem dL_agrees_56 : decode cL_agrees 56 = .ok (.iload 4, 2) := by decide +kernel
theorem dL_agrees_58 : decode cL_agrees 58 = .ok (.baload, 1) := by decide +kernel
theorem dL_agrees_59 : decode cL_agrees 59 = .ok (.aload_n 0, 1) := by decide +kernel
theorem dL_agrees_60 : decode cL_agrees 60 = .ok (.iload 4, 2) := by decide +kernel
theorem dL_agrees_62 : decode cL_agrees 62 = .ok (.invokestatic 44, 3) := by decide +kernel
theorem dL_agrees_65 : decode cL_agrees 65 = .ok (.if_icmp .ne 93, 3) := by decide +kernel
theorem dL_agrees_68 : decode cL_agrees 68 = .ok (.aload_n 1, 1) := by decide +kernel
theorem dL_agrees_69 : decode cL_agrees 69 = .ok (.getfield 36, 3) := by decide +kernel
theorem dL_agrees_72 : decode cL_agrees 72 = .ok (.iload 4, 2) := by decide +kernel
theorem dL_agrees_74 : decode cL_agrees 74 = .ok (.baload, 1) := by decide +kernel
theorem dL_agrees_75 : decode cL_agrees 75 = .ok (.ifCond .ne 85, 3) := by decide +kernel
theorem dL_agrees_78 : decode cL_agrees 78 = .ok (.aload_n 0, 1) := by decide +kernel
theorem dL_agrees_79 : decode cL_agrees 79 = .ok (.iload 4, 2) := by decide +kernel
theorem dL_agrees_81 : decode cL_agrees 81 = .ok (.invokevirtual 50, 3) := by decide +kernel
theorem dL_agrees_84 : decode cL_agrees 84 = .ok (.aload_n 1, 1) := by decide +kernel
theorem dL_agrees_85 : decode cL_agrees 85 = .ok (.getfield 53, 3) := by decide +kernel
theorem dL_agrees_88 : decode cL_agrees 88 = .ok (.iload 4, 2) := by decide +kernel
theorem dL_agrees_90 : decode cL_agrees 90 = .ok (.iaload, 1) := by decide +kernel
theorem dL_agrees_91 : decode cL_agrees 91 = .ok (.if_icmp .ne 67, 3) := by decide +kernel
theorem dL_agrees_94 : decode cL_agrees 94 = .ok (.aload_n 0, 1) := by decide +kernel
theorem dL_agrees_95 : decode cL_agrees 95 = .ok (.iload 4, 2) := by decide +kernel
theorem dL_agrees_97 : decode cL_agrees 97 = .ok (.invokevirtual 56, 3) := by decide +kernel
theorem dL_agrees_100 : decode cL_agrees 100 = .ok (.aload_n 1, 1) := by decide +kernel
theorem dL_agrees_101 : decode cL_agrees 101 = .ok (.getfield 59, 3) := by decide +kernel
theorem dL_agrees_104 : decode cL_agrees 104 = .ok (.iload 4, 2) := by decide +kernel
theorem dL_agrees_106 : decode cL_agrees 106 = .ok (.iaload, 1) := by decide +kernel
theorem dL_agrees_107 : decode cL_agrees 107 = .ok (.if_icmp .ne 51, 3) := by decide +kernel
theorem dL_agrees_110 : decode cL_agrees 110 = .ok (.aload_n 0, 1) := by decide +kernel
theorem dL_agrees_111 : decode cL_agrees 111 = .ok (.iload 4, 2) := by decide +kernel
theorem dL_agrees_113 : decode cL_agrees 113 = .ok (.invokevirtual 26, 3) := by decide +kernel
theorem dL_agrees_116 : decode cL_agrees 116 = .ok (.aload_n 1, 1) := by decide +kernel
theorem dL_agrees_117 : decode cL_agrees 117 = .ok (.getfield 62, 3) := by decide +kernel
theorem dL_agrees_120 : decode cL_agrees 120 = .ok (.iload 4, 2) := by decide +kernel
theorem dL_agrees_122 : decode cL_agrees 122 = .ok (.iaload, 1) := by decide +kernel
theorem dL_agrees_123 : decode cL_agrees 123 = .ok (.if_icmp .ne 35, 3) := by decide +kernel
theorem dL_agrees_126 : decode cL_agrees 126 = .ok (.aload_n 0, 1) := by decide +kernel
theorem dL_agrees_127 : decode cL_agrees 127 = .ok (.iload 4, 2) := by decide +kernel
theorem dL_agrees_129 : decode cL_agrees 129 = .ok (.invokevirtual 65, 3) := by decide +kernel
theorem dL_agrees_132 : decode cL_agrees 132 = .ok (.aload_n 1, 1) := by decide +kernel
theorem dL_agrees_133 : decode cL_agrees 133 = .ok (.getfield 68, 3) := by decide +kernel
theorem dL_agrees_136 : decode cL_agrees 136 = .ok (.iload 4, 2) := by decide +kernel
theorem dL_agrees_138 : decode cL_agrees 138 = .ok (.iaload, 1) := by decide +kernel
theorem dL_agrees_139 : decode cL_agrees 139 = .ok (.if_icmp .ne 19, 3) := by decide +kernel
theorem dL_agrees_142 : decode cL_agrees 142 = .ok (.aload_n 0, 1) := by decide +kernel
theorem dL_agrees_143 : decode cL_agrees 143 = .ok (.iload 4, 2) := by decide +kernel
theorem dL_agrees_145 : decode cL_agrees 145 = .ok (.invokevirtual 71, 3) := by decide +kernel
theorem dL_agrees_148 : decode cL_agrees 148 = .ok (.aload_n 1, 1) := by decide +kernel
theorem dL_agrees_149 : decode cL_agrees 149 = .ok (.getfield 40, 3) := by decide +kernel
theorem dL_agrees_152 : decode cL_agrees 152 = .ok (.iload 4, 2) := by decide +kernel
theorem dL_agrees_154 : decode cL_agrees 154 = .ok (.iaload, 1) := by decide +kernel
theorem dL_agrees_155 : decode cL_agrees 155 = .ok (.if_icmp .eq 5, 3) := by decide +kernel
theorem dL_agrees_158 : decode cL_agrees 158 = .ok (.iconst 0, 1) := by decide +kernel
theorem dL_agrees_159 : decode cL_agrees 159 = .ok (.ireturn, 1) := by decide +kernel
theorem dL_agrees_160 : decode cL_agrees 160 = .ok (.iinc 4 1, 3) := by decide +kernel
theorem dL_agrees_163 : decode cL_agrees 163 = .ok (.goto (-156), 3) := by decide +kernel
theorem dL_agrees_166 : decode cL_agrees 166 = .ok (.aload_n 0, 1) := by decide +kernel
theorem dL_agrees_167 : decode cL_agrees 167 = .ok (.invokevirtual 74, 3) := by decide +kernel
theorem dL_agrees_170 : decode cL_agrees 170 = .ok (.iload_n 2, 1) := by decide +kernel
theorem dL_agrees_171 : decode cL_agrees 171 = .ok (.if_icmp .ne 56, 3) := by decide +kernel
theorem dL_agrees_174 : decode cL_agrees 174 = .ok (.aload_n 0, 1) := by decide +kernel
theorem dL_agrees_175 : decode cL_agrees 175 = .ok (.invokevirtual 78, 3) := by decide +kernel
theorem dL_agrees_178 : decode cL_agrees 178 = .ok (.iload_n 3, 1) := by decide +kernel
theorem dL_agrees_179 : decode cL_agrees 179 = .ok (.if_icmp .ne 48, 3) := by decide +kernel
theorem dL_agrees_182 : decode cL_agrees 182 = .ok (.aload_n 0, 1) := by decide +kernel
theorem dL_agrees_183 : decode cL_agrees 183 = .ok (.invokevirtual 81, 3) := by decide +kernel
theorem dL_agrees_186 : decode cL_agrees 186 = .ok (.aload_n 1, 1) := by decide +kernel
theorem dL_agrees_187 : decode cL_agrees 187 = .ok (.getfield 84, 3) := by decide +kernel
theorem dL_agrees_190 : decode cL_agrees 190 = .ok (.if_icmp .ne 37, 3) := by decide +kernel
theorem dL_agrees_193 : decode cL_agrees 193 = .ok (.aload_n 0, 1) := by decide +kernel
theorem dL_agrees_194 : decode cL_agrees 194 = .ok (.invokevirtual 86, 3) := by decide +kernel
theorem dL_agrees_197 : decode cL_agrees 197 = .ok (.aload_n 1, 1) := by decide +kernel
theorem dL_agrees_198 : decode cL_agrees 198 = .ok (.getfield 89, 3) := by decide +kernel
theorem dL_agrees_201 : decode cL_agrees 201 = .ok (.if_icmp .ne 26, 3) := by decide +kernel
theorem dL_agrees_204 : decode cL_agrees 204 = .ok (.aload_n 0, 1) := by decide +kernel
theorem dL_agrees_205 : decode cL_agrees 205 = .ok (.aload_n 1, 1) := by decide +kernel
theorem dL_agrees_206 : decode cL_agrees 206 = .ok (.getfield 30, 3) := by decide +kernel
theorem dL_agrees_209 : decode cL_agrees 209 = .ok (.invokestatic 44, 3) := by decide +kernel
theorem dL_agrees_212 : decode cL_agrees 212 = .ok (.ifCond .eq 15, 3) := by decide +kernel
theorem dL_agrees_215 : decode cL_agrees 215 = .ok (.aload_n 0, 1) := by decide +kernel
theorem dL_agrees_216 : decode cL_agrees 216 = .ok (.iconst (-1), 1) := by decide +kernel
theorem dL_agrees_217 : decode cL_agrees 217 = .ok (.invokestatic 44, 3) := by decide +kernel
theorem dL_agrees_220 : decode cL_agrees 220 = .ok (.ifCond .eq 7, 3) := by decide +kernel
theorem dL_agrees_223 : decode cL_agrees 223 = .ok (.iconst 1, 1) := by decide +kernel
theorem dL_agrees_224 : decode cL_agrees 224 = .ok (.goto 4, 3) := by decide +kernel
theorem dL_agrees_227 : decode cL_agrees 227 = .ok (.iconst 0, 1) := by decide +kernel
theorem dL_agrees_228 : decode cL_agrees 228 = .ok (.istore 4, 2) := by decide +kernel
theorem dL_agrees_230 : decode cL_agrees 230 = .ok (.iconst 1, 1) := by decide +kernel
theorem dL_agrees_231 : decode cL_agrees 231 = .ok (.istore 5, 2) := by decide +kernel
theorem dL_agrees_233 : decode cL_agrees 233 = .ok (.iload 5, 2) := by decide +kernel
theorem dL_agrees_235 : decode cL_agrees 235 = .ok (.aload_n 1, 1) := by decide +kernel
theorem dL_agrees_236 : decode cL_agrees 236 = .ok (.getfield 84, 3) := by decide +kernel
theorem dL_agrees_239 : decode cL_agrees 239 = .ok (.if_icmp .gt 53, 3) := by decide +kernel
theorem dL_agrees_242 : decode cL_agrees 242 = .ok (.iload 4, 2) := by decide +kernel
theorem dL_agrees_244 : decode cL_agrees 244 = .ok (.ifCond .eq 48, 3) := by decide +kernel
theorem dL_agrees_247 : decode cL_agrees 247 = .ok (.aload_n 0, 1) := by decide +kernel
theorem dL_agrees_248 : decode cL_agrees 248 = .ok (.iload 5, 2) := by decide +kernel
theorem dL_agrees_250 : decode cL_agrees 250 = .ok (.invokevirtual 91, 3) := by decide +kernel
theorem dL_agrees_253 : decode cL_agrees 253 = .ok (.aload_n 1, 1) := by decide +kernel
theorem dL_agrees_254 : decode cL_agrees 254 = .ok (.getfield 95, 3) := by decide +kernel
theorem dL_agrees_257 : decode cL_agrees 257 = .ok (.iload 5, 2) := by decide +kernel
theorem dL_agrees_259 : decode cL_agrees 259 = .ok (.caload, 1) := by decide +kernel
theorem dL_agrees_260 : decode cL_agrees 260 = .ok (.if_icmp .ne 23, 3) := by decide +kernel
theorem dL_agrees_263 : decode cL_agrees 263 = .ok (.aload_n 0, 1) := by decide +kernel
theorem dL_agrees_264 : decode cL_agrees 264 = .ok (.iload 5, 2) := by decide +kernel
theorem dL_agrees_266 : decode cL_agrees 266 = .ok (.invokevirtual 99, 3) := by decide +kernel
theorem dL_agrees_269 : decode cL_agrees 269 = .ok (.aload_n 1, 1) := by decide +kernel
theorem dL_agrees_270 : decode cL_agrees 270 = .ok (.getfield 102, 3) := by decide +kernel
theorem dL_agrees_273 : decode cL_agrees 273 = .ok (.iload 5, 2) := by decide +kernel
theorem dL_agrees_275 : decode cL_agrees 275 = .ok (.iaload, 1) := by decide +kernel
theorem dL_agrees_276 : decode cL_agrees 276 = .ok (.if_icmp .ne 7, 3) := by decide +kernel
theorem dL_agrees_279 : decode cL_agrees 279 = .ok (.iconst 1, 1) := by decide +kernel
theorem dL_agrees_280 : decode cL_agrees 280 = .ok (.goto 4, 3) := by decide +kernel
theorem dL_agrees_283 : decode cL_agrees 283 = .ok (.iconst 0, 1) := by decide +kernel
theorem dL_agrees_284 : decode cL_agrees 284 = .ok (.istore 4, 2) := by decide +kernel
theorem dL_agrees_286 : decode cL_agrees 286 = .ok (.iinc 5 1, 3) := by decide +kernel
theorem dL_agrees_289 : decode cL_agrees 289 = .ok (.goto (-56), 3) := by decide +kernel
theorem dL_agrees_292 : decode cL_agrees 292 = .ok (.iload 4, 2) := by decide +kernel
theorem dL_agrees_294 : decode cL_agrees 294 = .ok (.ireturn, 1) := by decide +kernel
