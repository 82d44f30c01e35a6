theorem dL_cell_0 : decode cL_cell 0 = .ok (.iload_n 1, 1) := by decide +kernel
theorem dL_cell_1 : decode cL_cell 1 = .ok (.aload_n 0, 1) := by decide +kernel
theorem dL_cell_2 : decode cL_cell 2 = .ok (.arraylength, 1) := by decide +kernel
theorem dL_cell_3 : decode cL_cell 3 = .ok (.if_icmp .ge 9, 3) := by decide +kernel
theorem dL_cell_6 : decode cL_cell 6 = .ok (.aload_n 0, 1) := by decide +kernel
theorem dL_cell_7 : decode cL_cell 7 = .ok (.iload_n 1, 1) := by decide +kernel
theorem dL_cell_8 : decode cL_cell 8 = .ok (.iaload, 1) := by decide +kernel
theorem dL_cell_9 : decode cL_cell 9 = .ok (.goto 15, 3) := by decide +kernel
theorem dL_cell_12 : decode cL_cell 12 = .ok (.sipush 7919, 3) := by decide +kernel
theorem dL_cell_15 : decode cL_cell 15 = .ok (.iload_n 1, 1) := by decide +kernel
theorem dL_cell_16 : decode cL_cell 16 = .ok (.iconst 3, 1) := by decide +kernel
theorem dL_cell_17 : decode cL_cell 17 = .ok (.iadd, 1) := by decide +kernel
theorem dL_cell_18 : decode cL_cell 18 = .ok (.imul, 1) := by decide +kernel
theorem dL_cell_19 : decode cL_cell 19 = .ok (.iload_n 1, 1) := by decide +kernel
theorem dL_cell_20 : decode cL_cell 20 = .ok (.bipush 11, 2) := by decide +kernel
theorem dL_cell_22 : decode cL_cell 22 = .ok (.iadd, 1) := by decide +kernel
theorem dL_cell_23 : decode cL_cell 23 = .ok (.imul, 1) := by decide +kernel
theorem dL_cell_24 : decode cL_cell 24 = .ok (.ireturn, 1) := by decide +kernel
theorem dL_low_0 : decode cL_low 0 = .ok (.iload_n 0, 1) := by decide +kernel
theorem dL_low_1 : decode cL_low 1 = .ok (.ldc 7, 2) := by decide +kernel
theorem dL_low_3 : decode cL_low 3 = .ok (.iand, 1) := by decide +kernel
theorem dL_low_4 : decode cL_low 4 = .ok (.iload_n 1, 1) := by decide +kernel
theorem dL_low_5 : decode cL_low 5 = .ok (.irem, 1) := by decide +kernel
theorem dL_low_6 : decode cL_low 6 = .ok (.ireturn, 1) := by decide +kernel
theorem dL_ones_0 : decode cL_ones 0 = .ok (.iconst 0, 1) := by decide +kernel
theorem dL_ones_1 : decode cL_ones 1 = .ok (.istore_n 1, 1) := by decide +kernel
theorem dL_ones_2 : decode cL_ones 2 = .ok (.iconst 0, 1) := by decide +kernel
theorem dL_ones_3 : decode cL_ones 3 = .ok (.istore_n 2, 1) := by decide +kernel
theorem dL_ones_4 : decode cL_ones 4 = .ok (.iload_n 2, 1) := by decide +kernel
theorem dL_ones_5 : decode cL_ones 5 = .ok (.bipush 16, 2) := by decide +kernel
theorem dL_ones_7 : decode cL_ones 7 = .ok (.if_icmp .ge 17, 3) := by decide +kernel
theorem dL_ones_10 : decode cL_ones 10 = .ok (.iload_n 1, 1) := by decide +kernel
theorem dL_ones_11 : decode cL_ones 11 = .ok (.iload_n 0, 1) := by decide +kernel
theorem dL_ones_12 : decode cL_ones 12 = .ok (.iload_n 2, 1) := by decide +kernel
theorem dL_ones_13 : decode cL_ones 13 = .ok (.ishr, 1) := by decide +kernel
theorem dL_ones_14 : decode cL_ones 14 = .ok (.iconst 1, 1) := by decide +kernel
theorem dL_ones_15 : decode cL_ones 15 = .ok (.iand, 1) := by decide +kernel
theorem dL_ones_16 : decode cL_ones 16 = .ok (.iadd, 1) := by decide +kernel
theorem dL_ones_17 : decode cL_ones 17 = .ok (.istore_n 1, 1) := by decide +kernel
theorem dL_ones_18 : decode cL_ones 18 = .ok (.iinc 2 1, 3) := by decide +kernel
theorem dL_ones_21 : decode cL_ones 21 = .ok (.goto (-17), 3) := by decide +kernel
theorem dL_ones_24 : decode cL_ones 24 = .ok (.iload_n 1, 1) := by decide +kernel
theorem dL_ones_25 : decode cL_ones 25 = .ok (.ireturn, 1) := by decide +kernel
theorem dL_isSound_0 : decode cL_isSound 0 = .ok (.iconst 0, 1) := by decide +kernel
theorem dL_isSound_1 : decode cL_isSound 1 = .ok (.istore_n 1, 1) := by decide +kernel
theorem dL_isSound_2 : decode cL_isSound 2 = .ok (.iconst 0, 1) := by decide +kernel
theorem dL_isSound_3 : decode cL_isSound 3 = .ok (.istore_n 2, 1) := by decide +kernel
theorem dL_isSound_4 : decode cL_isSound 4 = .ok (.iconst 0, 1) := by decide +kernel
theorem dL_isSound_5 : decode cL_isSound 5 = .ok (.istore_n 3, 1) := by decide +kernel
theorem dL_isSound_6 : decode cL_isSound 6 = .ok (.iconst 0, 1) := by decide +kernel
theorem dL_isSound_7 : decode cL_isSound 7 = .ok (.istore 4, 2) := by decide +kernel
theorem dL_isSound_9 : decode cL_isSound 9 = .ok (.iconst 0, 1) := by decide +kernel
theorem dL_isSound_10 : decode cL_isSound 10 = .ok (.istore 5, 2) := by decide +kernel
theorem dL_isSound_12 : decode cL_isSound 12 = .ok (.iconst 0, 1) := by decide +kernel
theorem dL_isSound_13 : decode cL_isSound 13 = .ok (.istore 6, 2) := by decide +kernel
theorem dL_isSound_15 : decode cL_isSound 15 = .ok (.iload 6, 2) := by decide +kernel
theorem dL_isSound_17 : decode cL_isSound 17 = .ok (.aload_n 0, 1) := by decide +kernel
theorem dL_isSound_18 : decode cL_isSound 18 = .ok (.iconst 3, 1) := by decide +kernel
theorem dL_isSound_19 : decode cL_isSound 19 = .ok (.invokevirtual 8, 3) := by decide +kernel
theorem dL_isSound_22 : decode cL_isSound 22 = .ok (.if_icmp .ge 249, 3) := by decide +kernel
theorem dL_isSound_25 : decode cL_isSound 25 = .ok (.aload_n 0, 1) := by decide +kernel
theorem dL_isSound_26 : decode cL_isSound 26 = .ok (.iload 6, 2) := by decide +kernel
theorem dL_isSound_28 : decode cL_isSound 28 = .ok (.invokevirtual 14, 3) := by decide +kernel
theorem dL_isSound_31 : decode cL_isSound 31 = .ok (.istore 7, 2) := by decide +kernel
theorem dL_isSound_33 : decode cL_isSound 33 = .ok (.iload 7, 2) := by decide +kernel
theorem dL_isSound_35 : decode cL_isSound 35 = .ok (.iconst (-1), 1) := by decide +kernel
theorem dL_isSound_36 : decode cL_isSound 36 = .ok (.if_icmp .eq 24, 3) := by decide +kernel
theorem dL_isSound_39 : decode cL_isSound 39 = .ok (.aload_n 0, 1) := by decide +kernel
theorem dL_isSound_40 : decode cL_isSound 40 = .ok (.iload 6, 2) := by decide +kernel
theorem dL_isSound_42 : decode cL_isSound 42 = .ok (.invokevirtual 17, 3) := by decide +kernel
theorem dL_isSound_45 : decode cL_isSound 45 = .ok (.iload 7, 2) := by decide +kernel
theorem dL_isSound_47 : decode cL_isSound 47 = .ok (.if_icmp .ne 34, 3) := by decide +kernel
theorem dL_isSound_50 : decode cL_isSound 50 = .ok (.aload_n 0, 1) := by decide +kernel
theorem dL_isSound_51 : decode cL_isSound 51 = .ok (.iload 6, 2) := by decide +kernel
theorem dL_isSound_53 : decode cL_isSound 53 = .ok (.invokevirtual 20, 3) := by decide +kernel
theorem dL_isSound_56 : decode cL_isSound 56 = .ok (.iconst 1, 1) := by decide +kernel
theorem dL_isSound_57 : decode cL_isSound 57 = .ok (.if_icmp .ne 24, 3) := by decide +kernel
theorem dL_isSound_60 : decode cL_isSound 60 = .ok (.iload 7, 2) := by decide +kernel
theorem dL_isSound_62 : decode cL_isSound 62 = .ok (.iconst (-1), 1) := by decide +kernel
theorem dL_isSound_63 : decode cL_isSound 63 = .ok (.if_icmp .ne 20, 3) := by decide +kernel
theorem dL_isSound_66 : decode cL_isSound 66 = .ok (.aload_n 0, 1) := by decide +kernel
theorem dL_isSound_67 : decode cL_isSound 67 = .ok (.iload 6, 2) := by decide +kernel
theorem dL_isSound_69 : decode cL_isSound 69 = .ok (.invokevirtual 17, 3) := by decide +kernel
theorem dL_isSound_72 : decode cL_isSound 72 = .ok (.aload_n 0, 1) := by decide +kernel
theorem dL_isSound_73 : decode cL_isSound 73 = .ok (.iload 6, 2) := by decide +kernel
theorem dL_isSound_75 : decode cL_isSound 75 = .ok (.invokevirtual 23, 3) := by decide +kernel
theorem dL_isSound_78 : decode cL_isSound 78 = .ok (.if_icmp .eq 5, 3) := by decide +kernel
theorem dL_isSound_81 : decode cL_isSound 81 = .ok (.iconst 0, 1) := by decide +kernel
theorem dL_isSound_82 : decode cL_isSound 82 = .ok (.ireturn, 1) := by decide +kernel
theorem dL_isSound_83 : decode cL_isSound 83 = .ok (.iload 5, 2) := by decide +kernel
theorem dL_isSound_85 : decode cL_isSound 85 = .ok (.iload 7, 2) := by decide +kernel
theorem dL_isSound_87 : decode cL_isSound 87 = .ok (.iconst (-1), 1) := by decide +kernel
theorem dL_isSound_88 : decode cL_isSound 88 = .ok (.if_icmp .ne 7, 3) := by decide +kernel
theorem dL_isSound_91 : decode cL_isSound 91 = .ok (.iconst 0, 1) := by decide +kernel
theorem dL_isSound_92 : decode cL_isSound 92 = .ok (.goto 4, 3) := by decide +kernel
theorem dL_isSound_95 : decode cL_isSound 95 = .ok (.iconst 1, 1) := by decide +kernel
theorem dL_isSound_96 : decode cL_isSound 96 = .ok (.iadd, 1) := by decide +kernel
theorem dL_isSound_97 : decode cL_isSound 97 = .ok (.istore 5, 2) := by decide +kernel
theorem dL_isSound_99 : decode cL_isSound 99 = .ok (.aload_n 0, 1) := by decide +kernel
theorem dL_isSound_100 : decode cL_isSound 100 = .ok (.iload 6, 2) := by decide +kernel
theorem dL_isSound_102 : decode cL_isSound 102 = .ok (.invokevirtual 17, 3) := by decide +kernel
theorem dL_isSound_105 : decode cL_isSound 105 = .ok (.aload_n 0, 1) := by decide +kernel
theorem dL_isSound_106 : decode cL_isSound 106 = .ok (.iload 6, 2) := by decide +kernel
theorem dL_isSound_108 : decode cL_isSound 108 = .ok (.invokevirtual 26, 3) := by decide +kernel
theorem dL_isSound_111 : decode cL_isSound 111 = .ok (.if_icmp .eq 7, 3) := by decide +kernel
theorem dL_isSound_114 : decode cL_isSound 114 = .ok (.iconst 1, 1) := by decide +kernel
theorem dL_isSound_115 : decode cL_isSound 115 = .ok (.goto 4, 3) := by decide +kernel
theorem dL_isSound_118 : decode cL_isSound 118 = .ok (.iconst 0, 1) := by decide +kernel
theorem dL_isSound_119 : decode cL_isSound 119 = .ok (.istore 8, 2) := by decide +kernel
theorem dL_isSound_121 : decode cL_isSound 121 = .ok (.iload_n 1, 1) := by decide +kernel
theorem dL_isSound_122 : decode cL_isSound 122 = .ok (.iload 8, 2) := by decide +kernel
theorem dL_isSound_124 : decode cL_isSound 124 = .ok (.ifCond .eq 7, 3) := by decide +kernel
theorem dL_isSound_127 : decode cL_isSound 127 = .ok (.iconst 1, 1) := by decide +kernel
theorem dL_isSound_128 : decode cL_isSound 128 = .ok (.goto 4, 3) := by decide +kernel
theorem dL_isSound_131 : decode cL_isSound 131 = .ok (.iconst 0, 1) := by decide +kernel
theorem dL_isSound_132 : decode cL_isSound 132 = .ok (.iadd, 1) := by decide +kernel
theorem dL_isSound_133 : decode cL_isSound 133 = .ok (.istore_n 1, 1) := by decide +kernel
theorem dL_isSound_134 : decode cL_isSound 134 = .ok (.iload_n 2, 1) := by decide +kernel
theorem dL_isSound_135 : decode cL_isSound 135 = .ok (.aload_n 0, 1) := by decide +kernel
theorem dL_isSound_136 : decode cL_isSound 136 = .ok (.iload 6, 2) := by decide +kernel
theorem dL_isSound_138 : decode cL_isSound 138 = .ok (.invokevirtual 20, 3) := by decide +kernel
theorem dL_isSound_141 : decode cL_isSound 141 = .ok (.iconst 1, 1) := by decide +kernel
theorem dL_isSound_142 : decode cL_isSound 142 = .ok (.if_icmp .ne 7, 3) := by decide +kernel
theorem dL_isSound_145 : decode cL_isSound 145 = .ok (.iconst 0, 1) := by decide +kernel
theorem dL_isSound_146 : decode cL_isSound 146 = .ok (.goto 4, 3) := by decide +kernel
theorem dL_isSound_149 : decode cL_isSound 149 = .ok (.iconst 1, 1) := by decide +kernel
theorem dL_isSound_150 : decode cL_isSound 150 = .ok (.iadd, 1) := by decide +kernel
theorem dL_isSound_151 : decode cL_isSound 151 = .ok (.istore_n 2, 1) := by decide +kernel
theorem dL_isSound_152 : decode cL_isSound 152 = .ok (.iload_n 3, 1) := by decide +kernel
theorem dL_isSound_153 : decode cL_isSound 153 = .ok (.iload 8, 2) := by decide +kernel
theorem dL_isSound_155 : decode cL_isSound 155 = .ok (.ifCond .eq 17, 3) := by decide +kernel
theorem dL_isSound_158 : decode cL_isSound 158 = .ok (.aload_n 0, 1) := by decide +kernel
theorem dL_isSound_159 : decode cL_isSound 159 = .ok (.iload 6, 2) := by decide +kernel
theorem dL_isSound_161 : decode cL_isSound 161 = .ok (.invokevirtual 20, 3) := by decide +kernel
theorem dL_isSound_164 : decode cL_isSound 164 = .ok (.iconst 1, 1) := by decide +kernel
theorem dL_isSound_165 : decode cL_isSound 165 = .ok (.if_icmp .ne 7, 3) := by decide +kernel
theorem dL_isSound_168 : decode cL_isSound 168 = .ok (.iconst 1, 1) := by decide +kernel
theorem dL_isSound_169 : decode cL_isSound 169 = .ok (.goto 4, 3) := by decide +kernel
theorem dL_isSound_172 : decode cL_isSound 172 = .ok (.iconst 0, 1) := by decide +kernel
theorem dL_isSound_173 : decode cL_isSound 173 = .ok (.iadd, 1) := by decide +kernel
theorem dL_isSound_174 : decode cL_isSound 174 = .ok (.istore_n 3, 1) := by decide +kernel
theorem dL_isSound_175 : decode cL_isSound 175 = .ok (.iload 4, 2) := by decide +kernel
theorem dL_isSound_177 : decode cL_isSound 177 = .ok (.aload_n 0, 1) := by decide +kernel
theorem dL_isSound_178 : decode cL_isSound 178 = .ok (.iload 6, 2) := by decide +kernel
theorem dL_isSound_180 : decode cL_isSound 180 = .ok (.invokevirtual 23, 3) := by decide +kernel
theorem dL_isSound_183 : decode cL_isSound 183 = .ok (.aload_n 0, 1) := by decide +kernel
theorem dL_isSound_184 : decode cL_isSound 184 = .ok (.iload 6, 2) := by decide +kernel
theorem dL_isSound_186 : decode cL_isSound 186 = .ok (.invokevirtual 26, 3) := by decide +kernel
theorem dL_isSound_189 : decode cL_isSound 189 = .ok (.if_icmp .eq 7, 3) := by decide +kernel
theorem dL_isSound_192 : decode cL_isSound 192 = .ok (.iconst 1, 1) := by decide +kernel
theorem dL_isSound_193 : decode cL_isSound 193 = .ok (.goto 4, 3) := by decide +kernel
theorem dL_isSound_196 : decode cL_isSound 196 = .ok (.iconst 0, 1) := by decide +kernel
theorem dL_isSound_197 : decode cL_isSound 197 = .ok (.iadd, 1) := by decide +kernel
theorem dL_isSound_198 : decode cL_isSound 198 = .ok (.istore 4, 2) := by decide +kernel
theorem dL_isSound_200 : decode cL_isSound 200 = .ok (.aload_n 0, 1) := by decide +kernel
theorem dL_isSound_201 : decode cL_isSound 201 = .ok (.bipush 6, 2) := by decide +kernel
theorem dL_isSound_203 : decode cL_isSound 203 = .ok (.invokevirtual 8, 3) := by decide +kernel
theorem dL_isSound_206 : decode cL_isSound 206 = .ok (.ifCond .ne 59, 3) := by decide +kernel
theorem dL_isSound_209 : decode cL_isSound 209 = .ok (.aload_n 0, 1) := by decide +kernel
theorem dL_isSound_210 : decode cL_isSound 210 = .ok (.iload 6, 2) := by decide +kernel
theorem dL_isSound_212 : decode cL_isSound 212 = .ok (.invokevirtual 23, 3) := by decide +kernel
theorem dL_isSound_215 : decode cL_isSound 215 = .ok (.aload_n 0, 1) := by decide +kernel
theorem dL_isSound_216 : decode cL_isSound 216 = .ok (.iload 6, 2) := by decide +kernel
theorem dL_isSound_218 : decode cL_isSound 218 = .ok (.invokevirtual 26, 3) := by decide +kernel
theorem dL_isSound_221 : decode cL_isSound 221 = .ok (.if_icmp .ne 42, 3) := by decide +kernel
theorem dL_isSound_224 : decode cL_isSound 224 = .ok (.aload_n 0, 1) := by decide +kernel
theorem dL_isSound_225 : decode cL_isSound 225 = .ok (.iload 6, 2) := by decide +kernel
theorem dL_isSound_227 : decode cL_isSound 227 = .ok (.invokevirtual 20, 3) := by decide +kernel
theorem dL_isSound_230 : decode cL_isSound 230 = .ok (.iconst 1, 1) := by decide +kernel
theorem dL_isSound_231 : decode cL_isSound 231 = .ok (.if_icmp .ne 32, 3) := by decide +kernel
theorem dL_isSound_234 : decode cL_isSound 234 = .ok (.aload_n 0, 1) := by decide +kernel
theorem dL_isSound_235 : decode cL_isSound 235 = .ok (.aload_n 0, 1) := by decide +kernel
theorem dL_isSound_236 : decode cL_isSound 236 = .ok (.iload 6, 2) := by decide +kernel
theorem dL_isSound_238 : decode cL_isSound 238 = .ok (.aload_n 0, 1) := by decide +kernel
theorem dL_isSound_239 : decode cL_isSound 239 = .ok (.iconst 2, 1) := by decide +kernel
theorem dL_isSound_240 : decode cL_isSound 240 = .ok (.invokevirtual 8, 3) := by decide +kernel
theorem dL_isSound_243 : decode cL_isSound 243 = .ok (.idiv, 1) := by decide +kernel
theorem dL_isSound_244 : decode cL_isSound 244 = .ok (.invokevirtual 29, 3) := by decide +kernel
theorem dL_isSound_247 : decode cL_isSound 247 = .ok (.invokevirtual 32, 3) := by decide +kernel
theorem dL_isSound_250 : decode cL_isSound 250 = .ok (.iconst 1, 1) := by decide +kernel
theorem dL_isSound_251 : decode cL_isSound 251 = .ok (.iload 6, 2) := by decide +kernel
theorem dL_isSound_253 : decode cL_isSound 253 = .ok (.aload_n 0, 1) := by decide +kernel
theorem dL_isSound_254 : decode cL_isSound 254 = .ok (.iconst 2, 1) := by decide +kernel
theorem dL_isSound_255 : decode cL_isSound 255 = .ok (.invokevirtual 8, 3) := by decide +kernel
theorem dL_isSound_258 : decode cL_isSound 258 = .ok (.idiv, 1) := by decide +kernel
theorem dL_isSound_259 : decode cL_isSound 259 = .ok (.ishl, 1) := by decide +kernel
theorem dL_isSound_260 : decode cL_isSound 260 = .ok (.if_icmp .eq 5, 3) := by decide +kernel
theorem dL_isSound_263 : decode cL_isSound 263 = .ok (.iconst 0, 1) := by decide +kernel
theorem dL_isSound_264 : decode cL_isSound 264 = .ok (.ireturn, 1) := by decide +kernel
theorem dL_isSound_265 : decode cL_isSound 265 = .ok (.iinc 6 1, 3) := by decide +kernel
theorem dL_isSound_268 : decode cL_isSound 268 = .ok (.goto (-253), 3) := by decide +kernel
theorem dL_isSound_271 : decode cL_isSound 271 = .ok (.iconst 0, 1) := by decide +kernel
theorem dL_isSound_272 : decode cL_isSound 272 = .ok (.istore 6, 2) := by decide +kernel
theorem dL_isSound_274 : decode cL_isSound 274 = .ok (.iconst 0, 1) := by decide +kernel
theorem dL_isSound_275 : decode cL_isSound 275 = .ok (.istore 7, 2) := by decide +kernel
theorem dL_isSound_277 : decode cL_isSound 277 = .ok (.iload 7, 2) := by decide +kernel
theorem dL_isSound_279 : decode cL_isSound 279 = .ok (.aload_n 0, 1) := by decide +kernel
theorem dL_isSound_280 : decode cL_isSound 280 = .ok (.iconst 4, 1) := by decide +kernel
theorem dL_isSound_281 : decode cL_isSound 281 = .ok (.invokevirtual 8, 3) := by decide +kernel
theorem dL_isSound_284 : decode cL_isSound 284 = .ok (.if_icmp .ge 60, 3) := by decide +kernel
theorem dL_isSound_287 : decode cL_isSound 287 = .ok (.iload 6, 2) := by decide +kernel
theorem dL_isSound_289 : decode cL_isSound 289 = .ok (.aload_n 0, 1) := by decide +kernel
theorem dL_isSound_290 : decode cL_isSound 290 = .ok (.iload 7, 2) := by decide +kernel
theorem dL_isSound_292 : decode cL_isSound 292 = .ok (.invokevirtual 35, 3) := by decide +kernel
theorem dL_isSound_295 : decode cL_isSound 295 = .ok (.iadd, 1) := by decide +kernel
theorem dL_isSound_296 : decode cL_isSound 296 = .ok (.istore 6, 2) := by decide +kernel
theorem dL_isSound_298 : decode cL_isSound 298 = .ok (.iload 7, 2) := by decide +kernel
theorem dL_isSound_300 : decode cL_isSound 300 = .ok (.bipush 8, 2) := by decide +kernel
theorem dL_isSound_302 : decode cL_isSound 302 = .ok (.if_icmp .ge 36, 3) := by decide +kernel
theorem dL_isSound_305 : decode cL_isSound 305 = .ok (.iload 7, 2) := by decide +kernel
theorem dL_isSound_307 : decode cL_isSound 307 = .ok (.iconst 2, 1) := by decide +kernel
theorem dL_isSound_308 : decode cL_isSound 308 = .ok (.irem, 1) := by decide +kernel
theorem dL_isSound_309 : decode cL_isSound 309 = .ok (.iconst 1, 1) := by decide +kernel
theorem dL_isSound_310 : decode cL_isSound 310 = .ok (.if_icmp .ne 28, 3) := by decide +kernel
theorem dL_isSound_313 : decode cL_isSound 313 = .ok (.aload_n 0, 1) := by decide +kernel
theorem dL_isSound_314 : decode cL_isSound 314 = .ok (.iload 7, 2) := by decide +kernel
theorem dL_isSound_316 : decode cL_isSound 316 = .ok (.invokevirtual 35, 3) := by decide +kernel
theorem dL_isSound_319 : decode cL_isSound 319 = .ok (.aload_n 0, 1) := by decide +kernel
theorem dL_isSound_320 : decode cL_isSound 320 = .ok (.iload 7, 2) := by decide +kernel
theorem dL_isSound_322 : decode cL_isSound 322 = .ok (.iconst 1, 1) := by decide +kernel
theorem dL_isSound_323 : decode cL_isSound 323 = .ok (.isub, 1) := by decide +kernel
theorem dL_isSound_324 : decode cL_isSound 324 = .ok (.invokevirtual 35, 3) := by decide +kernel
theorem dL_isSound_327 : decode cL_isSound 327 = .ok (.iadd, 1) := by decide +kernel
theorem dL_isSound_328 : decode cL_isSound 328 = .ok (.aload_n 0, 1) := by decide +kernel
theorem dL_isSound_329 : decode cL_isSound 329 = .ok (.iconst 0, 1) := by decide +kernel
theorem dL_isSound_330 : decode cL_isSound 330 = .ok (.invokevirtual 8, 3) := by decide +kernel
theorem dL_isSound_333 : decode cL_isSound 333 = .ok (.if_icmp .eq 5, 3) := by decide +kernel
theorem dL_isSound_336 : decode cL_isSound 336 = .ok (.iconst 0, 1) := by decide +kernel
theorem dL_isSound_337 : decode cL_isSound 337 = .ok (.ireturn, 1) := by decide +kernel
theorem dL_isSound_338 : decode cL_isSound 338 = .ok (.iinc 7 1, 3) := by decide +kernel
theorem dL_isSound_341 : decode cL_isSound 341 = .ok (.goto (-64), 3) := by decide +kernel
theorem dL_isSound_344 : decode cL_isSound 344 = .ok (.aload_n 0, 1) := by decide +kernel
theorem dL_isSound_345 : decode cL_isSound 345 = .ok (.iconst 0, 1) := by decide +kernel
theorem dL_isSound_346 : decode cL_isSound 346 = .ok (.invokevirtual 38, 3) := by decide +kernel
theorem dL_isSound_349 : decode cL_isSound 349 = .ok (.iload_n 1, 1) := by decide +kernel
theorem dL_isSound_350 : decode cL_isSound 350 = .ok (.if_icmp .ne 106, 3) := by decide +kernel
theorem dL_isSound_353 : decode cL_isSound 353 = .ok (.aload_n 0, 1) := by decide +kernel
theorem dL_isSound_354 : decode cL_isSound 354 = .ok (.iconst 1, 1) := by decide +kernel
theorem dL_isSound_355 : decode cL_isSound 355 = .ok (.invokevirtual 38, 3) := by decide +kernel
theorem dL_isSound_358 : decode cL_isSound 358 = .ok (.iload_n 2, 1) := by decide +kernel
theorem dL_isSound_359 : decode cL_isSound 359 = .ok (.if_icmp .ne 97, 3) := by decide +kernel
theorem dL_isSound_362 : decode cL_isSound 362 = .ok (.aload_n 0, 1) := by decide +kernel
theorem dL_isSound_363 : decode cL_isSound 363 = .ok (.iconst 2, 1) := by decide +kernel
theorem dL_isSound_364 : decode cL_isSound 364 = .ok (.invokevirtual 38, 3) := by decide +kernel
theorem dL_isSound_367 : decode cL_isSound 367 = .ok (.iload_n 3, 1) := by decide +kernel
theorem dL_isSound_368 : decode cL_isSound 368 = .ok (.if_icmp .ne 88, 3) := by decide +kernel
theorem dL_isSound_371 : decode cL_isSound 371 = .ok (.aload_n 0, 1) := by decide +kernel
theorem dL_isSound_372 : decode cL_isSound 372 = .ok (.iconst 3, 1) := by decide +kernel
theorem dL_isSound_373 : decode cL_isSound 373 = .ok (.invokevirtual 38, 3) := by decide +kernel
theorem dL_isSound_376 : decode cL_isSound 376 = .ok (.iload 4, 2) := by decide +kernel
theorem dL_isSound_378 : decode cL_isSound 378 = .ok (.if_icmp .ne 78, 3) := by decide +kernel
theorem dL_isSound_381 : decode cL_isSound 381 = .ok (.aload_n 0, 1) := by decide +kernel
theorem dL_isSound_382 : decode cL_isSound 382 = .ok (.bipush 7, 2) := by decide +kernel
theorem dL_isSound_384 : decode cL_isSound 384 = .ok (.invokevirtual 8, 3) := by decide +kernel
theorem dL_isSound_387 : decode cL_isSound 387 = .ok (.iload 5, 2) := by decide +kernel
theorem dL_isSound_389 : decode cL_isSound 389 = .ok (.if_icmp .ne 67, 3) := by decide +kernel
theorem dL_isSound_392 : decode cL_isSound 392 = .ok (.iload 5, 2) := by decide +kernel
theorem dL_isSound_394 : decode cL_isSound 394 = .ok (.iconst 4, 1) := by decide +kernel
theorem dL_isSound_395 : decode cL_isSound 395 = .ok (.if_icmp .gt 61, 3) := by decide +kernel
theorem dL_isSound_398 : decode cL_isSound 398 = .ok (.aload_n 0, 1) := by decide +kernel
theorem dL_isSound_399 : decode cL_isSound 399 = .ok (.bipush 8, 2) := by decide +kernel
theorem dL_isSound_401 : decode cL_isSound 401 = .ok (.invokevirtual 8, 3) := by decide +kernel
theorem dL_isSound_404 : decode cL_isSound 404 = .ok (.iload 6, 2) := by decide +kernel
theorem dL_isSound_406 : decode cL_isSound 406 = .ok (.if_icmp .ne 50, 3) := by decide +kernel
theorem dL_isSound_409 : decode cL_isSound 409 = .ok (.aload_n 0, 1) := by decide +kernel
theorem dL_isSound_410 : decode cL_isSound 410 = .ok (.iconst 3, 1) := by decide +kernel
theorem dL_isSound_411 : decode cL_isSound 411 = .ok (.invokevirtual 8, 3) := by decide +kernel
theorem dL_isSound_414 : decode cL_isSound 414 = .ok (.aload_n 0, 1) := by decide +kernel
theorem dL_isSound_415 : decode cL_isSound 415 = .ok (.iconst 0, 1) := by decide +kernel
theorem dL_isSound_416 : decode cL_isSound 416 = .ok (.invokevirtual 8, 3) := by decide +kernel
theorem dL_isSound_419 : decode cL_isSound 419 = .ok (.aload_n 0, 1) := by decide +kernel
theorem dL_isSound_420 : decode cL_isSound 420 = .ok (.iconst 2, 1) := by decide +kernel
theorem dL_isSound_421 : decode cL_isSound 421 = .ok (.invokevirtual 8, 3) := by decide +kernel
theorem dL_isSound_424 : decode cL_isSound 424 = .ok (.imul, 1) := by decide +kernel
theorem dL_isSound_425 : decode cL_isSound 425 = .ok (.if_icmp .ne 31, 3) := by decide +kernel
theorem dL_isSound_428 : decode cL_isSound 428 = .ok (.aload_n 0, 1) := by decide +kernel
theorem dL_isSound_429 : decode cL_isSound 429 = .ok (.iconst 4, 1) := by decide +kernel
theorem dL_isSound_430 : decode cL_isSound 430 = .ok (.invokevirtual 8, 3) := by decide +kernel
theorem dL_isSound_433 : decode cL_isSound 433 = .ok (.bipush 8, 2) := by decide +kernel
theorem dL_isSound_435 : decode cL_isSound 435 = .ok (.aload_n 0, 1) := by decide +kernel
theorem dL_isSound_436 : decode cL_isSound 436 = .ok (.iconst 2, 1) := by decide +kernel
theorem dL_isSound_437 : decode cL_isSound 437 = .ok (.invokevirtual 8, 3) := by decide +kernel
theorem dL_isSound_440 : decode cL_isSound 440 = .ok (.aload_n 0, 1) := by decide +kernel
theorem dL_isSound_441 : decode cL_isSound 441 = .ok (.iconst 1, 1) := by decide +kernel
theorem dL_isSound_442 : decode cL_isSound 442 = .ok (.invokevirtual 8, 3) := by decide +kernel
theorem dL_isSound_445 : decode cL_isSound 445 = .ok (.iconst 1, 1) := by decide +kernel
theorem dL_isSound_446 : decode cL_isSound 446 = .ok (.iadd, 1) := by decide +kernel
theorem dL_isSound_447 : decode cL_isSound 447 = .ok (.imul, 1) := by decide +kernel
theorem dL_isSound_448 : decode cL_isSound 448 = .ok (.iadd, 1) := by decide +kernel
theorem dL_isSound_449 : decode cL_isSound 449 = .ok (.if_icmp .ne 7, 3) := by decide +kernel
theorem dL_isSound_452 : decode cL_isSound 452 = .ok (.iconst 1, 1) := by decide +kernel
theorem dL_isSound_453 : decode cL_isSound 453 = .ok (.goto 4, 3) := by decide +kernel
theorem dL_isSound_456 : decode cL_isSound 456 = .ok (.iconst 0, 1) := by decide +kernel
theorem dL_isSound_457 : decode cL_isSound 457 = .ok (.ireturn, 1) := by decide +kernel
theorem dL_changes_0 : decode cL_changes 0 = .ok (.iload_n 1, 1) := by decide +kernel
theorem dL_changes_1 : decode cL_changes 1 = .ok (.iconst 4, 1) := by decide +kernel
theorem dL_changes_2 : decode cL_changes 2 = .ok (.ishr, 1) := by decide +kernel
theorem dL_changes_3 : decode cL_changes 3 = .ok (.aload_n 0, 1) := by decide +kernel
theorem dL_changes_4 : decode cL_changes 4 = .ok (.iconst 0, 1) := by decide +kernel
theorem dL_changes_5 : decode cL_changes 5 = .ok (.invokevirtual 8, 3) := by decide +kernel
theorem dL_changes_8 : decode cL_changes 8 = .ok (.iconst 1, 1) := by decide +kernel
theorem dL_changes_9 : decode cL_changes 9 = .ok (.iadd, 1) := by decide +kernel
theorem dL_changes_10 : decode cL_changes 10 = .ok (.invokestatic 41, 3) := by decide +kernel
theorem dL_changes_13 : decode cL_changes 13 = .ok (.istore_n 2, 1) := by decide +kernel
theorem dL_changes_14 : decode cL_changes 14 = .ok (.iload_n 1, 1) := by decide +kernel
theorem dL_changes_15 : decode cL_changes 15 = .ok (.iconst 4, 1) := by decide +kernel
theorem dL_changes_16 : decode cL_changes 16 = .ok (.ishr, 1) := by decide +kernel
theorem dL_changes_17 : decode cL_changes 17 = .ok (.aload_n 0, 1) := by decide +kernel
theorem dL_changes_18 : decode cL_changes 18 = .ok (.iconst 3, 1) := by decide +kernel
theorem dL_changes_19 : decode cL_changes 19 = .ok (.invokevirtual 8, 3) := by decide +kernel
theorem dL_changes_22 : decode cL_changes 22 = .ok (.iconst 1, 1) := by decide +kernel
theorem dL_changes_23 : decode cL_changes 23 = .ok (.iadd, 1) := by decide +kernel
theorem dL_changes_24 : decode cL_changes 24 = .ok (.invokestatic 41, 3) := by decide +kernel
theorem dL_changes_27 : decode cL_changes 27 = .ok (.istore_n 3, 1) := by decide +kernel
theorem dL_changes_28 : decode cL_changes 28 = .ok (.iload_n 1, 1) := by decide +kernel
theorem dL_changes_29 : decode cL_changes 29 = .ok (.bipush 9, 2) := by decide +kernel
theorem dL_changes_31 : decode cL_changes 31 = .ok (.ishr, 1) := by decide +kernel
theorem dL_changes_32 : decode cL_changes 32 = .ok (.aload_n 0, 1) := by decide +kernel
theorem dL_changes_33 : decode cL_changes 33 = .ok (.iconst 4, 1) := by decide +kernel
theorem dL_changes_34 : decode cL_changes 34 = .ok (.invokevirtual 8, 3) := by decide +kernel
theorem dL_changes_37 : decode cL_changes 37 = .ok (.iconst 1, 1) := by decide +kernel
theorem dL_changes_38 : decode cL_changes 38 = .ok (.iadd, 1) := by decide +kernel
theorem dL_changes_39 : decode cL_changes 39 = .ok (.invokestatic 41, 3) := by decide +kernel
theorem dL_changes_42 : decode cL_changes 42 = .ok (.istore 4, 2) := by decide +kernel
theorem dL_changes_44 : decode cL_changes 44 = .ok (.iload_n 1, 1) := by decide +kernel
theorem dL_changes_45 : decode cL_changes 45 = .ok (.bipush 14, 2) := by decide +kernel
theorem dL_changes_47 : decode cL_changes 47 = .ok (.invokestatic 41, 3) := by decide +kernel
theorem dL_changes_50 : decode cL_changes 50 = .ok (.tableswitch 207 0 12 #[66, 81, 81, 81, 101, 108, 113, 113, 113, 121, 141, 147, 152], 66) := by decide +kernel
theorem dL_changes_116 : decode cL_changes 116 = .ok (.aload_n 0, 1) := by decide +kernel
theorem dL_changes_117 : decode cL_changes 117 = .ok (.iload_n 2, 1) := by decide +kernel
theorem dL_changes_118 : decode cL_changes 118 = .ok (.iload_n 1, 1) := by decide +kernel
theorem dL_changes_119 : decode cL_changes 119 = .ok (.bipush 9, 2) := by decide +kernel
theorem dL_changes_121 : decode cL_changes 121 = .ok (.ishr, 1) := by decide +kernel
theorem dL_changes_122 : decode cL_changes 122 = .ok (.bipush 16, 2) := by decide +kernel
theorem dL_changes_124 : decode cL_changes 124 = .ok (.invokestatic 41, 3) := by decide +kernel
theorem dL_changes_127 : decode cL_changes 127 = .ok (.invokevirtual 47, 3) := by decide +kernel
theorem dL_changes_130 : decode cL_changes 130 = .ok (.ireturn, 1) := by decide +kernel
theorem dL_changes_131 : decode cL_changes 131 = .ok (.aload_n 0, 1) := by decide +kernel
theorem dL_changes_132 : decode cL_changes 132 = .ok (.iload_n 3, 1) := by decide +kernel
theorem dL_changes_133 : decode cL_changes 133 = .ok (.iload_n 1, 1) := by decide +kernel
theorem dL_changes_134 : decode cL_changes 134 = .ok (.bipush 9, 2) := by decide +kernel
theorem dL_changes_136 : decode cL_changes 136 = .ok (.ishr, 1) := by decide +kernel
theorem dL_changes_137 : decode cL_changes 137 = .ok (.iconst 1, 1) := by decide +kernel
theorem dL_changes_138 : decode cL_changes 138 = .ok (.aload_n 0, 1) := by decide +kernel
theorem dL_changes_139 : decode cL_changes 139 = .ok (.iconst 1, 1) := by decide +kernel
theorem dL_changes_140 : decode cL_changes 140 = .ok (.invokevirtual 8, 3) := by decide +kernel
theorem dL_changes_143 : decode cL_changes 143 = .ok (.ishl, 1) := by decide +kernel
theorem dL_changes_144 : decode cL_changes 144 = .ok (.invokestatic 41, 3) := by decide +kernel
theorem dL_changes_147 : decode cL_changes 147 = .ok (.invokevirtual 50, 3) := by decide +kernel
theorem dL_changes_150 : decode cL_changes 150 = .ok (.ireturn, 1) := by decide +kernel
theorem dL_changes_151 : decode cL_changes 151 = .ok (.aload_n 0, 1) := by decide +kernel
theorem dL_changes_152 : decode cL_changes 152 = .ok (.iload 4, 2) := by decide +kernel
theorem dL_changes_154 : decode cL_changes 154 = .ok (.invokevirtual 53, 3) := by decide +kernel
theorem dL_changes_157 : decode cL_changes 157 = .ok (.ireturn, 1) := by decide +kernel
theorem dL_changes_158 : decode cL_changes 158 = .ok (.aload_n 0, 1) := by decide +kernel
theorem dL_changes_159 : decode cL_changes 159 = .ok (.invokevirtual 56, 3) := by decide +kernel
theorem dL_changes_162 : decode cL_changes 162 = .ok (.ireturn, 1) := by decide +kernel
theorem dL_changes_163 : decode cL_changes 163 = .ok (.aload_n 0, 1) := by decide +kernel
theorem dL_changes_164 : decode cL_changes 164 = .ok (.iload 4, 2) := by decide +kernel
theorem dL_changes_166 : decode cL_changes 166 = .ok (.iload_n 2, 1) := by decide +kernel
theorem dL_changes_167 : decode cL_changes 167 = .ok (.invokevirtual 60, 3) := by decide +kernel
theorem dL_changes_170 : decode cL_changes 170 = .ok (.ireturn, 1) := by decide +kernel
theorem dL_changes_171 : decode cL_changes 171 = .ok (.aload_n 0, 1) := by decide +kernel
theorem dL_changes_172 : decode cL_changes 172 = .ok (.iload_n 3, 1) := by decide +kernel
theorem dL_changes_173 : decode cL_changes 173 = .ok (.iload_n 1, 1) := by decide +kernel
theorem dL_changes_174 : decode cL_changes 174 = .ok (.bipush 9, 2) := by decide +kernel
theorem dL_changes_176 : decode cL_changes 176 = .ok (.ishr, 1) := by decide +kernel
theorem dL_changes_177 : decode cL_changes 177 = .ok (.iconst 1, 1) := by decide +kernel
theorem dL_changes_178 : decode cL_changes 178 = .ok (.aload_n 0, 1) := by decide +kernel
theorem dL_changes_179 : decode cL_changes 179 = .ok (.iconst 1, 1) := by decide +kernel
theorem dL_changes_180 : decode cL_changes 180 = .ok (.invokevirtual 8, 3) := by decide +kernel
theorem dL_changes_183 : decode cL_changes 183 = .ok (.ishl, 1) := by decide +kernel
theorem dL_changes_184 : decode cL_changes 184 = .ok (.invokestatic 41, 3) := by decide +kernel
theorem dL_changes_187 : decode cL_changes 187 = .ok (.invokevirtual 63, 3) := by decide +kernel
theorem dL_changes_190 : decode cL_changes 190 = .ok (.ireturn, 1) := by decide +kernel
theorem dL_changes_191 : decode cL_changes 191 = .ok (.aload_n 0, 1) := by decide +kernel
theorem dL_changes_192 : decode cL_changes 192 = .ok (.iload_n 3, 1) := by decide +kernel
theorem dL_changes_193 : decode cL_changes 193 = .ok (.invokevirtual 66, 3) := by decide +kernel
theorem dL_changes_196 : decode cL_changes 196 = .ok (.ireturn, 1) := by decide +kernel
theorem dL_changes_197 : decode cL_changes 197 = .ok (.aload_n 0, 1) := by decide +kernel
theorem dL_changes_198 : decode cL_changes 198 = .ok (.invokevirtual 69, 3) := by decide +kernel
theorem dL_changes_201 : decode cL_changes 201 = .ok (.ireturn, 1) := by decide +kernel
theorem dL_changes_202 : decode cL_changes 202 = .ok (.iload_n 1, 1) := by decide +kernel
theorem dL_changes_203 : decode cL_changes 203 = .ok (.iconst 4, 1) := by decide +kernel
theorem dL_changes_204 : decode cL_changes 204 = .ok (.ishr, 1) := by decide +kernel
theorem dL_changes_205 : decode cL_changes 205 = .ok (.iconst 3, 1) := by decide +kernel
theorem dL_changes_206 : decode cL_changes 206 = .ok (.iand, 1) := by decide +kernel
theorem dL_changes_207 : decode cL_changes 207 = .ok (.ifCond .ne 42, 3) := by decide +kernel
theorem dL_changes_210 : decode cL_changes 210 = .ok (.aload_n 0, 1) := by decide +kernel
theorem dL_changes_211 : decode cL_changes 211 = .ok (.iconst 2, 1) := by decide +kernel
theorem dL_changes_212 : decode cL_changes 212 = .ok (.iload_n 1, 1) := by decide +kernel
theorem dL_changes_213 : decode cL_changes 213 = .ok (.bipush 6, 2) := by decide +kernel
theorem dL_changes_215 : decode cL_changes 215 = .ok (.ishr, 1) := by decide +kernel
theorem dL_changes_216 : decode cL_changes 216 = .ok (.bipush 15, 2) := by decide +kernel
theorem dL_changes_218 : decode cL_changes 218 = .ok (.invokestatic 41, 3) := by decide +kernel
theorem dL_changes_221 : decode cL_changes 221 = .ok (.iadd, 1) := by decide +kernel
theorem dL_changes_222 : decode cL_changes 222 = .ok (.iconst 1, 1) := by decide +kernel
theorem dL_changes_223 : decode cL_changes 223 = .ok (.iload_n 1, 1) := by decide +kernel
theorem dL_changes_224 : decode cL_changes 224 = .ok (.bipush 10, 2) := by decide +kernel
theorem dL_changes_226 : decode cL_changes 226 = .ok (.ishr, 1) := by decide +kernel
theorem dL_changes_227 : decode cL_changes 227 = .ok (.bipush 10, 2) := by decide +kernel
theorem dL_changes_229 : decode cL_changes 229 = .ok (.invokestatic 41, 3) := by decide +kernel
theorem dL_changes_232 : decode cL_changes 232 = .ok (.iadd, 1) := by decide +kernel
theorem dL_changes_233 : decode cL_changes 233 = .ok (.iconst 1, 1) := by decide +kernel
theorem dL_changes_234 : decode cL_changes 234 = .ok (.iload_n 1, 1) := by decide +kernel
theorem dL_changes_235 : decode cL_changes 235 = .ok (.bipush 14, 2) := by decide +kernel
theorem dL_changes_237 : decode cL_changes 237 = .ok (.ishr, 1) := by decide +kernel
theorem dL_changes_238 : decode cL_changes 238 = .ok (.iconst 3, 1) := by decide +kernel
theorem dL_changes_239 : decode cL_changes 239 = .ok (.invokestatic 41, 3) := by decide +kernel
theorem dL_changes_242 : decode cL_changes 242 = .ok (.iadd, 1) := by decide +kernel
theorem dL_changes_243 : decode cL_changes 243 = .ok (.invokevirtual 72, 3) := by decide +kernel
theorem dL_changes_246 : decode cL_changes 246 = .ok (.goto 10, 3) := by decide +kernel
theorem dL_changes_249 : decode cL_changes 249 = .ok (.aload_n 0, 1) := by decide +kernel
theorem dL_changes_250 : decode cL_changes 250 = .ok (.iload 4, 2) := by decide +kernel
theorem dL_changes_252 : decode cL_changes 252 = .ok (.iload_n 2, 1) := by decide +kernel
theorem dL_changes_253 : decode cL_changes 253 = .ok (.invokevirtual 60, 3) := by decide +kernel
theorem dL_changes_256 : decode cL_changes 256 = .ok (.ireturn, 1) := by decide +kernel
theorem dL_changes_257 : decode cL_changes 257 = .ok (.aload_n 0, 1) := by decide +kernel
theorem dL_changes_258 : decode cL_changes 258 = .ok (.iload_n 3, 1) := by decide +kernel
theorem dL_changes_259 : decode cL_changes 259 = .ok (.iconst 0, 1) := by decide +kernel
theorem dL_changes_260 : decode cL_changes 260 = .ok (.invokevirtual 50, 3) := by decide +kernel
theorem dL_changes_263 : decode cL_changes 263 = .ok (.ireturn, 1) := by decide +kernel
theorem dL_law_0 : decode cL_law 0 = .ok (.new 9, 3) := by decide +kernel
theorem dL_law_3 : decode cL_law 3 = .ok (.dup, 1) := by decide +kernel
theorem dL_law_4 : decode cL_law 4 = .ok (.invokespecial 76, 3) := by decide +kernel
theorem dL_law_7 : decode cL_law 7 = .ok (.astore_n 1, 1) := by decide +kernel
theorem dL_law_8 : decode cL_law 8 = .ok (.aload_n 0, 1) := by decide +kernel
theorem dL_law_9 : decode cL_law 9 = .ok (.iconst 0, 1) := by decide +kernel
theorem dL_law_10 : decode cL_law 10 = .ok (.invokestatic 77, 3) := by decide +kernel
theorem dL_law_13 : decode cL_law 13 = .ok (.istore_n 2, 1) := by decide +kernel
theorem dL_law_14 : decode cL_law 14 = .ok (.aload_n 1, 1) := by decide +kernel
theorem dL_law_15 : decode cL_law 15 = .ok (.invokevirtual 81, 3) := by decide +kernel
theorem dL_law_18 : decode cL_law 18 = .ok (.bipush (-4), 2) := by decide +kernel
theorem dL_law_20 : decode cL_law 20 = .ok (.if_icmp .ne 61, 3) := by decide +kernel
theorem dL_law_23 : decode cL_law 23 = .ok (.aload_n 1, 1) := by decide +kernel
theorem dL_law_24 : decode cL_law 24 = .ok (.invokevirtual 84, 3) := by decide +kernel
theorem dL_law_27 : decode cL_law 27 = .ok (.bipush (-4), 2) := by decide +kernel
theorem dL_law_29 : decode cL_law 29 = .ok (.if_icmp .ne 52, 3) := by decide +kernel
theorem dL_law_32 : decode cL_law 32 = .ok (.aload_n 1, 1) := by decide +kernel
theorem dL_law_33 : decode cL_law 33 = .ok (.iconst 3, 1) := by decide +kernel
theorem dL_law_34 : decode cL_law 34 = .ok (.invokevirtual 8, 3) := by decide +kernel
theorem dL_law_37 : decode cL_law 37 = .ok (.bipush 16, 2) := by decide +kernel
theorem dL_law_39 : decode cL_law 39 = .ok (.if_icmp .ne 42, 3) := by decide +kernel
theorem dL_law_42 : decode cL_law 42 = .ok (.aload_n 1, 1) := by decide +kernel
theorem dL_law_43 : decode cL_law 43 = .ok (.iconst 4, 1) := by decide +kernel
theorem dL_law_44 : decode cL_law 44 = .ok (.invokevirtual 8, 3) := by decide +kernel
theorem dL_law_47 : decode cL_law 47 = .ok (.bipush 22, 2) := by decide +kernel
theorem dL_law_49 : decode cL_law 49 = .ok (.if_icmp .ne 32, 3) := by decide +kernel
theorem dL_law_52 : decode cL_law 52 = .ok (.aload_n 1, 1) := by decide +kernel
theorem dL_law_53 : decode cL_law 53 = .ok (.iconst 0, 1) := by decide +kernel
theorem dL_law_54 : decode cL_law 54 = .ok (.invokevirtual 38, 3) := by decide +kernel
theorem dL_law_57 : decode cL_law 57 = .ok (.ifCond .ne 24, 3) := by decide +kernel
theorem dL_law_60 : decode cL_law 60 = .ok (.aload_n 1, 1) := by decide +kernel
theorem dL_law_61 : decode cL_law 61 = .ok (.iconst 0, 1) := by decide +kernel
theorem dL_law_62 : decode cL_law 62 = .ok (.invokevirtual 66, 3) := by decide +kernel
theorem dL_law_65 : decode cL_law 65 = .ok (.bipush (-4), 2) := by decide +kernel
theorem dL_law_67 : decode cL_law 67 = .ok (.if_icmp .ne 14, 3) := by decide +kernel
theorem dL_law_70 : decode cL_law 70 = .ok (.aload_n 1, 1) := by decide +kernel
theorem dL_law_71 : decode cL_law 71 = .ok (.bipush 7, 2) := by decide +kernel
theorem dL_law_73 : decode cL_law 73 = .ok (.invokevirtual 53, 3) := by decide +kernel
theorem dL_law_76 : decode cL_law 76 = .ok (.bipush (-4), 2) := by decide +kernel
theorem dL_law_78 : decode cL_law 78 = .ok (.if_icmp .eq 5, 3) := by decide +kernel
theorem dL_law_81 : decode cL_law 81 = .ok (.iconst 0, 1) := by decide +kernel
theorem dL_law_82 : decode cL_law 82 = .ok (.ireturn, 1) := by decide +kernel
theorem dL_law_83 : decode cL_law 83 = .ok (.aload_n 1, 1) := by decide +kernel
theorem dL_law_84 : decode cL_law 84 = .ok (.iconst 2, 1) := by decide +kernel
theorem dL_law_85 : decode cL_law 85 = .ok (.iload_n 2, 1) := by decide +kernel
theorem dL_law_86 : decode cL_law 86 = .ok (.bipush 15, 2) := by decide +kernel
theorem dL_law_88 : decode cL_law 88 = .ok (.invokestatic 41, 3) := by decide +kernel
theorem dL_law_91 : decode cL_law 91 = .ok (.iadd, 1) := by decide +kernel
theorem dL_law_92 : decode cL_law 92 = .ok (.iconst 1, 1) := by decide +kernel
theorem dL_law_93 : decode cL_law 93 = .ok (.iload_n 2, 1) := by decide +kernel
theorem dL_law_94 : decode cL_law 94 = .ok (.iconst 4, 1) := by decide +kernel
theorem dL_law_95 : decode cL_law 95 = .ok (.ishr, 1) := by decide +kernel
theorem dL_law_96 : decode cL_law 96 = .ok (.bipush 10, 2) := by decide +kernel
theorem dL_law_98 : decode cL_law 98 = .ok (.invokestatic 41, 3) := by decide +kernel
theorem dL_law_101 : decode cL_law 101 = .ok (.iadd, 1) := by decide +kernel
theorem dL_law_102 : decode cL_law 102 = .ok (.iconst 1, 1) := by decide +kernel
theorem dL_law_103 : decode cL_law 103 = .ok (.iload_n 2, 1) := by decide +kernel
theorem dL_law_104 : decode cL_law 104 = .ok (.bipush 8, 2) := by decide +kernel
theorem dL_law_106 : decode cL_law 106 = .ok (.ishr, 1) := by decide +kernel
theorem dL_law_107 : decode cL_law 107 = .ok (.iconst 3, 1) := by decide +kernel
theorem dL_law_108 : decode cL_law 108 = .ok (.invokestatic 41, 3) := by decide +kernel
theorem dL_law_111 : decode cL_law 111 = .ok (.iadd, 1) := by decide +kernel
theorem dL_law_112 : decode cL_law 112 = .ok (.invokevirtual 72, 3) := by decide +kernel
theorem dL_law_115 : decode cL_law 115 = .ok (.bipush 16, 2) := by decide +kernel
theorem dL_law_117 : decode cL_law 117 = .ok (.if_icmp .eq 5, 3) := by decide +kernel
theorem dL_law_120 : decode cL_law 120 = .ok (.iconst 0, 1) := by decide +kernel
theorem dL_law_121 : decode cL_law 121 = .ok (.ireturn, 1) := by decide +kernel
theorem dL_law_122 : decode cL_law 122 = .ok (.iconst 0, 1) := by decide +kernel
theorem dL_law_123 : decode cL_law 123 = .ok (.istore_n 3, 1) := by decide +kernel
theorem dL_law_124 : decode cL_law 124 = .ok (.iload_n 3, 1) := by decide +kernel
theorem dL_law_125 : decode cL_law 125 = .ok (.bipush 20, 2) := by decide +kernel
theorem dL_law_127 : decode cL_law 127 = .ok (.if_icmp .ge 158, 3) := by decide +kernel
theorem dL_law_130 : decode cL_law 130 = .ok (.aload_n 0, 1) := by decide +kernel
theorem dL_law_131 : decode cL_law 131 = .ok (.iconst 1, 1) := by decide +kernel
theorem dL_law_132 : decode cL_law 132 = .ok (.iload_n 3, 1) := by decide +kernel
theorem dL_law_133 : decode cL_law 133 = .ok (.iadd, 1) := by decide +kernel
theorem dL_law_134 : decode cL_law 134 = .ok (.invokestatic 77, 3) := by decide +kernel
theorem dL_law_137 : decode cL_law 137 = .ok (.istore 4, 2) := by decide +kernel
theorem dL_law_139 : decode cL_law 139 = .ok (.aload_n 1, 1) := by decide +kernel
theorem dL_law_140 : decode cL_law 140 = .ok (.invokevirtual 87, 3) := by decide +kernel
theorem dL_law_143 : decode cL_law 143 = .ok (.lstore 5, 2) := by decide +kernel
theorem dL_law_145 : decode cL_law 145 = .ok (.aload_n 1, 1) := by decide +kernel
theorem dL_law_146 : decode cL_law 146 = .ok (.bipush 8, 2) := by decide +kernel
theorem dL_law_148 : decode cL_law 148 = .ok (.invokevirtual 8, 3) := by decide +kernel
theorem dL_law_151 : decode cL_law 151 = .ok (.istore 7, 2) := by decide +kernel
theorem dL_law_153 : decode cL_law 153 = .ok (.aload_n 1, 1) := by decide +kernel
theorem dL_law_154 : decode cL_law 154 = .ok (.iconst 0, 1) := by decide +kernel
theorem dL_law_155 : decode cL_law 155 = .ok (.invokevirtual 38, 3) := by decide +kernel
theorem dL_law_158 : decode cL_law 158 = .ok (.istore 8, 2) := by decide +kernel
theorem dL_law_160 : decode cL_law 160 = .ok (.aload_n 1, 1) := by decide +kernel
theorem dL_law_161 : decode cL_law 161 = .ok (.iload 4, 2) := by decide +kernel
theorem dL_law_163 : decode cL_law 163 = .ok (.invokestatic 91, 3) := by decide +kernel
theorem dL_law_166 : decode cL_law 166 = .ok (.istore 9, 2) := by decide +kernel
theorem dL_law_168 : decode cL_law 168 = .ok (.iload 9, 2) := by decide +kernel
theorem dL_law_170 : decode cL_law 170 = .ok (.ifCond .ge 13, 3) := by decide +kernel
theorem dL_law_173 : decode cL_law 173 = .ok (.aload_n 1, 1) := by decide +kernel
theorem dL_law_174 : decode cL_law 174 = .ok (.invokevirtual 87, 3) := by decide +kernel
theorem dL_law_177 : decode cL_law 177 = .ok (.lload 5, 2) := by decide +kernel
theorem dL_law_179 : decode cL_law 179 = .ok (.lcmp, 1) := by decide +kernel
theorem dL_law_180 : decode cL_law 180 = .ok (.ifCond .ne 10, 3) := by decide +kernel
theorem dL_law_183 : decode cL_law 183 = .ok (.aload_n 1, 1) := by decide +kernel
theorem dL_law_184 : decode cL_law 184 = .ok (.invokestatic 95, 3) := by decide +kernel
theorem dL_law_187 : decode cL_law 187 = .ok (.ifCond .ne 5, 3) := by decide +kernel
theorem dL_law_190 : decode cL_law 190 = .ok (.iconst 0, 1) := by decide +kernel
theorem dL_law_191 : decode cL_law 191 = .ok (.ireturn, 1) := by decide +kernel
theorem dL_law_192 : decode cL_law 192 = .ok (.iload 4, 2) := by decide +kernel
theorem dL_law_194 : decode cL_law 194 = .ok (.bipush 14, 2) := by decide +kernel
theorem dL_law_196 : decode cL_law 196 = .ok (.invokestatic 41, 3) := by decide +kernel
theorem dL_law_199 : decode cL_law 199 = .ok (.iconst 5, 1) := by decide +kernel
theorem dL_law_200 : decode cL_law 200 = .ok (.if_icmp .ne 14, 3) := by decide +kernel
theorem dL_law_203 : decode cL_law 203 = .ok (.aload_n 1, 1) := by decide +kernel
theorem dL_law_204 : decode cL_law 204 = .ok (.bipush 8, 2) := by decide +kernel
theorem dL_law_206 : decode cL_law 206 = .ok (.invokevirtual 8, 3) := by decide +kernel
theorem dL_law_209 : decode cL_law 209 = .ok (.iload 7, 2) := by decide +kernel
theorem dL_law_211 : decode cL_law 211 = .ok (.if_icmp .gt 32, 3) := by decide +kernel
theorem dL_law_214 : decode cL_law 214 = .ok (.iload 4, 2) := by decide +kernel
theorem dL_law_216 : decode cL_law 216 = .ok (.bipush 14, 2) := by decide +kernel
theorem dL_law_218 : decode cL_law 218 = .ok (.invokestatic 41, 3) := by decide +kernel
theorem dL_law_221 : decode cL_law 221 = .ok (.bipush 11, 2) := by decide +kernel
theorem dL_law_223 : decode cL_law 223 = .ok (.if_icmp .ne 22, 3) := by decide +kernel
theorem dL_law_226 : decode cL_law 226 = .ok (.iload 9, 2) := by decide +kernel
theorem dL_law_228 : decode cL_law 228 = .ok (.iload 8, 2) := by decide +kernel
theorem dL_law_230 : decode cL_law 230 = .ok (.if_icmp .gt 13, 3) := by decide +kernel
theorem dL_law_233 : decode cL_law 233 = .ok (.iload 9, 2) := by decide +kernel
theorem dL_law_235 : decode cL_law 235 = .ok (.aload_n 1, 1) := by decide +kernel
theorem dL_law_236 : decode cL_law 236 = .ok (.iconst 0, 1) := by decide +kernel
theorem dL_law_237 : decode cL_law 237 = .ok (.invokevirtual 38, 3) := by decide +kernel
theorem dL_law_240 : decode cL_law 240 = .ok (.if_icmp .eq 5, 3) := by decide +kernel
theorem dL_law_243 : decode cL_law 243 = .ok (.iconst 0, 1) := by decide +kernel
theorem dL_law_244 : decode cL_law 244 = .ok (.ireturn, 1) := by decide +kernel
theorem dL_law_245 : decode cL_law 245 = .ok (.iload 9, 2) := by decide +kernel
theorem dL_law_247 : decode cL_law 247 = .ok (.ifCond .lt 32, 3) := by decide +kernel
theorem dL_law_250 : decode cL_law 250 = .ok (.iload 4, 2) := by decide +kernel
theorem dL_law_252 : decode cL_law 252 = .ok (.bipush 27, 2) := by decide +kernel
theorem dL_law_254 : decode cL_law 254 = .ok (.ishr, 1) := by decide +kernel
theorem dL_law_255 : decode cL_law 255 = .ok (.iconst 3, 1) := by decide +kernel
theorem dL_law_256 : decode cL_law 256 = .ok (.iand, 1) := by decide +kernel
theorem dL_law_257 : decode cL_law 257 = .ok (.ifCond .ne 22, 3) := by decide +kernel
theorem dL_law_260 : decode cL_law 260 = .ok (.aload_n 1, 1) := by decide +kernel
theorem dL_law_261 : decode cL_law 261 = .ok (.invokevirtual 81, 3) := by decide +kernel
theorem dL_law_264 : decode cL_law 264 = .ok (.ifCond .lt 13, 3) := by decide +kernel
theorem dL_law_267 : decode cL_law 267 = .ok (.aload_n 1, 1) := by decide +kernel
theorem dL_law_268 : decode cL_law 268 = .ok (.invokevirtual 87, 3) := by decide +kernel
theorem dL_law_271 : decode cL_law 271 = .ok (.lload 5, 2) := by decide +kernel
theorem dL_law_273 : decode cL_law 273 = .ok (.lcmp, 1) := by decide +kernel
theorem dL_law_274 : decode cL_law 274 = .ok (.ifCond .eq 5, 3) := by decide +kernel
theorem dL_law_277 : decode cL_law 277 = .ok (.iconst 0, 1) := by decide +kernel
theorem dL_law_278 : decode cL_law 278 = .ok (.ireturn, 1) := by decide +kernel
theorem dL_law_279 : decode cL_law 279 = .ok (.iinc 3 1, 3) := by decide +kernel
theorem dL_law_282 : decode cL_law 282 = .ok (.goto (-158), 3) := by decide +kernel
theorem dL_law_285 : decode cL_law 285 = .ok (.aload_n 1, 1) := by decide +kernel
theorem dL_law_286 : decode cL_law 286 = .ok (.invokevirtual 87, 3) := by decide +kernel
theorem dL_law_289 : decode cL_law 289 = .ok (.lstore_n 3, 1) := by decide +kernel
theorem dL_law_290 : decode cL_law 290 = .ok (.bipush 8, 2) := by decide +kernel
theorem dL_law_292 : decode cL_law 292 = .ok (.iload_n 2, 1) := by decide +kernel
theorem dL_law_293 : decode cL_law 293 = .ok (.bipush 10, 2) := by decide +kernel
theorem dL_law_295 : decode cL_law 295 = .ok (.ishr, 1) := by decide +kernel
theorem dL_law_296 : decode cL_law 296 = .ok (.aload_n 1, 1) := by decide +kernel
theorem dL_law_297 : decode cL_law 297 = .ok (.iconst 4, 1) := by decide +kernel
theorem dL_law_298 : decode cL_law 298 = .ok (.invokevirtual 8, 3) := by decide +kernel
theorem dL_law_301 : decode cL_law 301 = .ok (.bipush 8, 2) := by decide +kernel
theorem dL_law_303 : decode cL_law 303 = .ok (.isub, 1) := by decide +kernel
theorem dL_law_304 : decode cL_law 304 = .ok (.invokestatic 41, 3) := by decide +kernel
theorem dL_law_307 : decode cL_law 307 = .ok (.iadd, 1) := by decide +kernel
theorem dL_law_308 : decode cL_law 308 = .ok (.istore 5, 2) := by decide +kernel
theorem dL_law_310 : decode cL_law 310 = .ok (.iload_n 2, 1) := by decide +kernel
theorem dL_law_311 : decode cL_law 311 = .ok (.bipush 16, 2) := by decide +kernel
theorem dL_law_313 : decode cL_law 313 = .ok (.ishr, 1) := by decide +kernel
theorem dL_law_314 : decode cL_law 314 = .ok (.aload_n 1, 1) := by decide +kernel
theorem dL_law_315 : decode cL_law 315 = .ok (.iconst 0, 1) := by decide +kernel
theorem dL_law_316 : decode cL_law 316 = .ok (.invokevirtual 8, 3) := by decide +kernel
theorem dL_law_319 : decode cL_law 319 = .ok (.invokestatic 41, 3) := by decide +kernel
theorem dL_law_322 : decode cL_law 322 = .ok (.istore 6, 2) := by decide +kernel
theorem dL_law_324 : decode cL_law 324 = .ok (.aload_n 1, 1) := by decide +kernel
theorem dL_law_325 : decode cL_law 325 = .ok (.iload 5, 2) := by decide +kernel
theorem dL_law_327 : decode cL_law 327 = .ok (.invokevirtual 53, 3) := by decide +kernel
theorem dL_law_330 : decode cL_law 330 = .ok (.istore 7, 2) := by decide +kernel
theorem dL_law_332 : decode cL_law 332 = .ok (.iload 7, 2) := by decide +kernel
theorem dL_law_334 : decode cL_law 334 = .ok (.ifCond .lt 25, 3) := by decide +kernel
theorem dL_law_337 : decode cL_law 337 = .ok (.aload_n 1, 1) := by decide +kernel
theorem dL_law_338 : decode cL_law 338 = .ok (.iload 5, 2) := by decide +kernel
theorem dL_law_340 : decode cL_law 340 = .ok (.invokevirtual 53, 3) := by decide +kernel
theorem dL_law_343 : decode cL_law 343 = .ok (.iconst 1, 1) := by decide +kernel
theorem dL_law_344 : decode cL_law 344 = .ok (.iload 7, 2) := by decide +kernel
theorem dL_law_346 : decode cL_law 346 = .ok (.isub, 1) := by decide +kernel
theorem dL_law_347 : decode cL_law 347 = .ok (.if_icmp .ne 12, 3) := by decide +kernel
theorem dL_law_350 : decode cL_law 350 = .ok (.aload_n 1, 1) := by decide +kernel
theorem dL_law_351 : decode cL_law 351 = .ok (.invokevirtual 87, 3) := by decide +kernel
theorem dL_law_354 : decode cL_law 354 = .ok (.lload_n 3, 1) := by decide +kernel
theorem dL_law_355 : decode cL_law 355 = .ok (.lcmp, 1) := by decide +kernel
theorem dL_law_356 : decode cL_law 356 = .ok (.ifCond .eq 5, 3) := by decide +kernel
theorem dL_law_359 : decode cL_law 359 = .ok (.iconst 0, 1) := by decide +kernel
theorem dL_law_360 : decode cL_law 360 = .ok (.ireturn, 1) := by decide +kernel
theorem dL_law_361 : decode cL_law 361 = .ok (.iload_n 2, 1) := by decide +kernel
theorem dL_law_362 : decode cL_law 362 = .ok (.bipush 20, 2) := by decide +kernel
theorem dL_law_364 : decode cL_law 364 = .ok (.ishr, 1) := by decide +kernel
theorem dL_law_365 : decode cL_law 365 = .ok (.aload_n 1, 1) := by decide +kernel
theorem dL_law_366 : decode cL_law 366 = .ok (.iconst 4, 1) := by decide +kernel
theorem dL_law_367 : decode cL_law 367 = .ok (.invokevirtual 8, 3) := by decide +kernel
theorem dL_law_370 : decode cL_law 370 = .ok (.invokestatic 41, 3) := by decide +kernel
theorem dL_law_373 : decode cL_law 373 = .ok (.istore 8, 2) := by decide +kernel
theorem dL_law_375 : decode cL_law 375 = .ok (.aload_n 1, 1) := by decide +kernel
theorem dL_law_376 : decode cL_law 376 = .ok (.iload 8, 2) := by decide +kernel
theorem dL_law_378 : decode cL_law 378 = .ok (.iload 6, 2) := by decide +kernel
theorem dL_law_380 : decode cL_law 380 = .ok (.invokevirtual 60, 3) := by decide +kernel
theorem dL_law_383 : decode cL_law 383 = .ok (.istore 9, 2) := by decide +kernel
theorem dL_law_385 : decode cL_law 385 = .ok (.iload 9, 2) := by decide +kernel
theorem dL_law_387 : decode cL_law 387 = .ok (.ifCond .lt 27, 3) := by decide +kernel
theorem dL_law_390 : decode cL_law 390 = .ok (.aload_n 1, 1) := by decide +kernel
theorem dL_law_391 : decode cL_law 391 = .ok (.iload 8, 2) := by decide +kernel
theorem dL_law_393 : decode cL_law 393 = .ok (.iload 6, 2) := by decide +kernel
theorem dL_law_395 : decode cL_law 395 = .ok (.invokevirtual 60, 3) := by decide +kernel
theorem dL_law_398 : decode cL_law 398 = .ok (.iconst 1, 1) := by decide +kernel
theorem dL_law_399 : decode cL_law 399 = .ok (.iload 9, 2) := by decide +kernel
theorem dL_law_401 : decode cL_law 401 = .ok (.isub, 1) := by decide +kernel
theorem dL_law_402 : decode cL_law 402 = .ok (.if_icmp .ne 12, 3) := by decide +kernel
theorem dL_law_405 : decode cL_law 405 = .ok (.aload_n 1, 1) := by decide +kernel
theorem dL_law_406 : decode cL_law 406 = .ok (.invokevirtual 87, 3) := by decide +kernel
theorem dL_law_409 : decode cL_law 409 = .ok (.lload_n 3, 1) := by decide +kernel
theorem dL_law_410 : decode cL_law 410 = .ok (.lcmp, 1) := by decide +kernel
theorem dL_law_411 : decode cL_law 411 = .ok (.ifCond .eq 5, 3) := by decide +kernel
theorem dL_law_414 : decode cL_law 414 = .ok (.iconst 0, 1) := by decide +kernel
theorem dL_law_415 : decode cL_law 415 = .ok (.ireturn, 1) := by decide +kernel
theorem dL_law_416 : decode cL_law 416 = .ok (.aload_n 1, 1) := by decide +kernel
theorem dL_law_417 : decode cL_law 417 = .ok (.invokevirtual 56, 3) := by decide +kernel
theorem dL_law_420 : decode cL_law 420 = .ok (.pop, 1) := by decide +kernel
theorem dL_law_421 : decode cL_law 421 = .ok (.bipush 8, 2) := by decide +kernel
theorem dL_law_423 : decode cL_law 423 = .ok (.istore 10, 2) := by decide +kernel
theorem dL_law_425 : decode cL_law 425 = .ok (.iload 10, 2) := by decide +kernel
theorem dL_law_427 : decode cL_law 427 = .ok (.aload_n 1, 1) := by decide +kernel
theorem dL_law_428 : decode cL_law 428 = .ok (.iconst 4, 1) := by decide +kernel
theorem dL_law_429 : decode cL_law 429 = .ok (.invokevirtual 8, 3) := by decide +kernel
theorem dL_law_432 : decode cL_law 432 = .ok (.if_icmp .ge 55, 3) := by decide +kernel
theorem dL_law_435 : decode cL_law 435 = .ok (.aload_n 1, 1) := by decide +kernel
theorem dL_law_436 : decode cL_law 436 = .ok (.iload 10, 2) := by decide +kernel
theorem dL_law_438 : decode cL_law 438 = .ok (.invokevirtual 35, 3) := by decide +kernel
theorem dL_law_441 : decode cL_law 441 = .ok (.istore 11, 2) := by decide +kernel
theorem dL_law_443 : decode cL_law 443 = .ok (.aload_n 1, 1) := by decide +kernel
theorem dL_law_444 : decode cL_law 444 = .ok (.iload 10, 2) := by decide +kernel
theorem dL_law_446 : decode cL_law 446 = .ok (.invokevirtual 53, 3) := by decide +kernel
theorem dL_law_449 : decode cL_law 449 = .ok (.pop, 1) := by decide +kernel
theorem dL_law_450 : decode cL_law 450 = .ok (.aload_n 1, 1) := by decide +kernel
theorem dL_law_451 : decode cL_law 451 = .ok (.iload 10, 2) := by decide +kernel
theorem dL_law_453 : decode cL_law 453 = .ok (.invokevirtual 35, 3) := by decide +kernel
theorem dL_law_456 : decode cL_law 456 = .ok (.iload 11, 2) := by decide +kernel
theorem dL_law_458 : decode cL_law 458 = .ok (.if_icmp .lt 21, 3) := by decide +kernel
theorem dL_law_461 : decode cL_law 461 = .ok (.aload_n 1, 1) := by decide +kernel
theorem dL_law_462 : decode cL_law 462 = .ok (.invokevirtual 81, 3) := by decide +kernel
theorem dL_law_465 : decode cL_law 465 = .ok (.ifCond .lt 14, 3) := by decide +kernel
theorem dL_law_468 : decode cL_law 468 = .ok (.aload_n 1, 1) := by decide +kernel
theorem dL_law_469 : decode cL_law 469 = .ok (.iload 10, 2) := by decide +kernel
theorem dL_law_471 : decode cL_law 471 = .ok (.invokevirtual 35, 3) := by decide +kernel
theorem dL_law_474 : decode cL_law 474 = .ok (.iload 11, 2) := by decide +kernel
theorem dL_law_476 : decode cL_law 476 = .ok (.if_icmp .eq 5, 3) := by decide +kernel
theorem dL_law_479 : decode cL_law 479 = .ok (.iconst 0, 1) := by decide +kernel
theorem dL_law_480 : decode cL_law 480 = .ok (.ireturn, 1) := by decide +kernel
theorem dL_law_481 : decode cL_law 481 = .ok (.iinc 10 1, 3) := by decide +kernel
theorem dL_law_484 : decode cL_law 484 = .ok (.goto (-59), 3) := by decide +kernel
theorem dL_law_487 : decode cL_law 487 = .ok (.iconst 0, 1) := by decide +kernel
theorem dL_law_488 : decode cL_law 488 = .ok (.istore 10, 2) := by decide +kernel
theorem dL_law_490 : decode cL_law 490 = .ok (.iload 10, 2) := by decide +kernel
theorem dL_law_492 : decode cL_law 492 = .ok (.aload_n 1, 1) := by decide +kernel
theorem dL_law_493 : decode cL_law 493 = .ok (.iconst 4, 1) := by decide +kernel
theorem dL_law_494 : decode cL_law 494 = .ok (.invokevirtual 8, 3) := by decide +kernel
theorem dL_law_497 : decode cL_law 497 = .ok (.if_icmp .ge 261, 3) := by decide +kernel
theorem dL_law_500 : decode cL_law 500 = .ok (.iconst 0, 1) := by decide +kernel
theorem dL_law_501 : decode cL_law 501 = .ok (.istore 11, 2) := by decide +kernel
theorem dL_law_503 : decode cL_law 503 = .ok (.iload 11, 2) := by decide +kernel
theorem dL_law_505 : decode cL_law 505 = .ok (.aload_n 1, 1) := by decide +kernel
theorem dL_law_506 : decode cL_law 506 = .ok (.iconst 0, 1) := by decide +kernel
theorem dL_law_507 : decode cL_law 507 = .ok (.invokevirtual 8, 3) := by decide +kernel
theorem dL_law_510 : decode cL_law 510 = .ok (.if_icmp .ge 242, 3) := by decide +kernel
theorem dL_law_513 : decode cL_law 513 = .ok (.aload_n 1, 1) := by decide +kernel
theorem dL_law_514 : decode cL_law 514 = .ok (.iload 10, 2) := by decide +kernel
theorem dL_law_516 : decode cL_law 516 = .ok (.iload 11, 2) := by decide +kernel
theorem dL_law_518 : decode cL_law 518 = .ok (.invokevirtual 99, 3) := by decide +kernel
theorem dL_law_521 : decode cL_law 521 = .ok (.iconst 1, 1) := by decide +kernel
theorem dL_law_522 : decode cL_law 522 = .ok (.if_icmp .ne 7, 3) := by decide +kernel
