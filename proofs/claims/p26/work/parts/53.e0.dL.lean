theorem dL_cell_0 : decode cL_cell 0 = .ok (.iload_n 1, 1) := by decide +kernel
theorem dL_cell_1 : decode cL_cell 1 = .ok (.aload_n 0, 1) := by decide +kernel
theorem dL_cell_2 : decode cL_cell 2 = .ok (.arraylength, 1) := by decide +kernel
theorem dL_cell_3 : decode cL_cell 3 = .ok (.if_icmp .ge 9, 3) := by decide +kernel
theorem dL_cell_6 : decode cL_cell 6 = .ok (.aload_n 0, 1) := by decide +kernel
theorem dL_cell_7 : decode cL_cell 7 = .ok (.iload_n 1, 1) := by decide +kernel
theorem dL_cell_8 : decode cL_cell 8 = .ok (.iaload, 1) := by decide +kernel
theorem dL_cell_9 : decode cL_cell 9 = .ok (.goto 11, 3) := by decide +kernel
theorem dL_cell_12 : decode cL_cell 12 = .ok (.ldc 7, 2) := by decide +kernel
theorem dL_cell_14 : decode cL_cell 14 = .ok (.iload_n 1, 1) := by decide +kernel
theorem dL_cell_15 : decode cL_cell 15 = .ok (.imul, 1) := by decide +kernel
theorem dL_cell_16 : decode cL_cell 16 = .ok (.sipush 617, 3) := by decide +kernel
theorem dL_cell_19 : decode cL_cell 19 = .ok (.iadd, 1) := by decide +kernel
theorem dL_cell_20 : decode cL_cell 20 = .ok (.ldc 8, 2) := by decide +kernel
theorem dL_cell_22 : decode cL_cell 22 = .ok (.iand, 1) := by decide +kernel
theorem dL_cell_23 : decode cL_cell 23 = .ok (.ireturn, 1) := by decide +kernel
theorem dL_ones_0 : decode cL_ones 0 = .ok (.iconst 0, 1) := by decide +kernel
theorem dL_ones_1 : decode cL_ones 1 = .ok (.istore_n 1, 1) := by decide +kernel
theorem dL_ones_2 : decode cL_ones 2 = .ok (.iconst 0, 1) := by decide +kernel
theorem dL_ones_3 : decode cL_ones 3 = .ok (.istore_n 2, 1) := by decide +kernel
theorem dL_ones_4 : decode cL_ones 4 = .ok (.iload_n 2, 1) := by decide +kernel
theorem dL_ones_5 : decode cL_ones 5 = .ok (.bipush 8, 2) := by decide +kernel
theorem dL_ones_7 : decode cL_ones 7 = .ok (.if_icmp .ge 17, 3) := by decide +kernel
theorem dL_ones_10 : decode cL_ones 10 = .ok (.iload_n 1, 1) := by decide +kernel
theorem dL_ones_11 : decode cL_ones 11 = .ok (.iload_n 0, 1) := by decide +kernel
theorem dL_ones_12 : decode cL_ones 12 = .ok (.iload_n 2, 1) := by decide +kernel
theorem dL_ones_13 : decode cL_ones 13 = .ok (.ishr, 1) := by decide +kernel
theorem dL_ones_14 : decode cL_ones 14 = .ok (.iconst 1, 1) := by decide +kernel
theorem dL_ones_15 : decode cL_ones 15 = .ok (.iand, 1) := by decide +kernel
theorem dL_ones_16 : decode cL_ones 16 = .ok (.iadd, 1) := by decide +kernel
theorem dL_ones_17 : decode cL_ones 17 = .ok (.istore_n 1, 1) := by decide +kernel
theorem dL_ones_18 : decode cL_ones 18 = .ok (.iinc 2 1, 3) := by decide +kernel
theorem dL_ones_21 : decode cL_ones 21 = .ok (.goto (-17), 3) := by decide +kernel
theorem dL_ones_24 : decode cL_ones 24 = .ok (.iload_n 1, 1) := by decide +kernel
theorem dL_ones_25 : decode cL_ones 25 = .ok (.ireturn, 1) := by decide +kernel
theorem dL_line_0 : decode cL_line 0 = .ok (.iconst (-1), 1) := by decide +kernel
theorem dL_line_1 : decode cL_line 1 = .ok (.istore_n 2, 1) := by decide +kernel
theorem dL_line_2 : decode cL_line 2 = .ok (.iconst 0, 1) := by decide +kernel
theorem dL_line_3 : decode cL_line 3 = .ok (.istore_n 3, 1) := by decide +kernel
theorem dL_line_4 : decode cL_line 4 = .ok (.iconst 0, 1) := by decide +kernel
theorem dL_line_5 : decode cL_line 5 = .ok (.istore 4, 2) := by decide +kernel
theorem dL_line_7 : decode cL_line 7 = .ok (.iconst 1, 1) := by decide +kernel
theorem dL_line_8 : decode cL_line 8 = .ok (.istore 5, 2) := by decide +kernel
theorem dL_line_10 : decode cL_line 10 = .ok (.iconst 0, 1) := by decide +kernel
theorem dL_line_11 : decode cL_line 11 = .ok (.istore 6, 2) := by decide +kernel
theorem dL_line_13 : decode cL_line 13 = .ok (.iload 6, 2) := by decide +kernel
theorem dL_line_15 : decode cL_line 15 = .ok (.aload_n 0, 1) := by decide +kernel
theorem dL_line_16 : decode cL_line 16 = .ok (.iconst 0, 1) := by decide +kernel
theorem dL_line_17 : decode cL_line 17 = .ok (.invokevirtual 9, 3) := by decide +kernel
theorem dL_line_20 : decode cL_line 20 = .ok (.if_icmp .ge 114, 3) := by decide +kernel
theorem dL_line_23 : decode cL_line 23 = .ok (.aload_n 0, 1) := by decide +kernel
theorem dL_line_24 : decode cL_line 24 = .ok (.iload 6, 2) := by decide +kernel
theorem dL_line_26 : decode cL_line 26 = .ok (.iload_n 1, 1) := by decide +kernel
theorem dL_line_27 : decode cL_line 27 = .ok (.iconst 0, 1) := by decide +kernel
theorem dL_line_28 : decode cL_line 28 = .ok (.invokevirtual 15, 3) := by decide +kernel
theorem dL_line_31 : decode cL_line 31 = .ok (.istore 7, 2) := by decide +kernel
theorem dL_line_33 : decode cL_line 33 = .ok (.iload 7, 2) := by decide +kernel
theorem dL_line_35 : decode cL_line 35 = .ok (.iconst 2, 1) := by decide +kernel
theorem dL_line_36 : decode cL_line 36 = .ok (.if_icmp .ne 8, 3) := by decide +kernel
theorem dL_line_39 : decode cL_line 39 = .ok (.iload 6, 2) := by decide +kernel
theorem dL_line_41 : decode cL_line 41 = .ok (.goto 4, 3) := by decide +kernel
theorem dL_line_44 : decode cL_line 44 = .ok (.iload_n 2, 1) := by decide +kernel
theorem dL_line_45 : decode cL_line 45 = .ok (.istore_n 2, 1) := by decide +kernel
theorem dL_line_46 : decode cL_line 46 = .ok (.iload_n 3, 1) := by decide +kernel
theorem dL_line_47 : decode cL_line 47 = .ok (.iload 7, 2) := by decide +kernel
theorem dL_line_49 : decode cL_line 49 = .ok (.iconst 2, 1) := by decide +kernel
theorem dL_line_50 : decode cL_line 50 = .ok (.if_icmp .ne 7, 3) := by decide +kernel
theorem dL_line_53 : decode cL_line 53 = .ok (.iconst 1, 1) := by decide +kernel
theorem dL_line_54 : decode cL_line 54 = .ok (.goto 4, 3) := by decide +kernel
theorem dL_line_57 : decode cL_line 57 = .ok (.iconst 0, 1) := by decide +kernel
theorem dL_line_58 : decode cL_line 58 = .ok (.iadd, 1) := by decide +kernel
theorem dL_line_59 : decode cL_line 59 = .ok (.istore_n 3, 1) := by decide +kernel
theorem dL_line_60 : decode cL_line 60 = .ok (.iload 4, 2) := by decide +kernel
theorem dL_line_62 : decode cL_line 62 = .ok (.iload 7, 2) := by decide +kernel
theorem dL_line_64 : decode cL_line 64 = .ok (.iconst 1, 1) := by decide +kernel
theorem dL_line_65 : decode cL_line 65 = .ok (.if_icmp .ne 10, 3) := by decide +kernel
theorem dL_line_68 : decode cL_line 68 = .ok (.iconst 1, 1) := by decide +kernel
theorem dL_line_69 : decode cL_line 69 = .ok (.iload 6, 2) := by decide +kernel
theorem dL_line_71 : decode cL_line 71 = .ok (.ishl, 1) := by decide +kernel
theorem dL_line_72 : decode cL_line 72 = .ok (.goto 4, 3) := by decide +kernel
theorem dL_line_75 : decode cL_line 75 = .ok (.iconst 0, 1) := by decide +kernel
theorem dL_line_76 : decode cL_line 76 = .ok (.ior, 1) := by decide +kernel
theorem dL_line_77 : decode cL_line 77 = .ok (.istore 4, 2) := by decide +kernel
theorem dL_line_79 : decode cL_line 79 = .ok (.iload 5, 2) := by decide +kernel
theorem dL_line_81 : decode cL_line 81 = .ok (.ifCond .eq 44, 3) := by decide +kernel
theorem dL_line_84 : decode cL_line 84 = .ok (.iload 7, 2) := by decide +kernel
theorem dL_line_86 : decode cL_line 86 = .ok (.ifCond .ne 18, 3) := by decide +kernel
theorem dL_line_89 : decode cL_line 89 = .ok (.aload_n 0, 1) := by decide +kernel
theorem dL_line_90 : decode cL_line 90 = .ok (.iload 6, 2) := by decide +kernel
theorem dL_line_92 : decode cL_line 92 = .ok (.iload_n 1, 1) := by decide +kernel
theorem dL_line_93 : decode cL_line 93 = .ok (.iconst 1, 1) := by decide +kernel
theorem dL_line_94 : decode cL_line 94 = .ok (.invokevirtual 15, 3) := by decide +kernel
theorem dL_line_97 : decode cL_line 97 = .ok (.iconst (-1), 1) := by decide +kernel
theorem dL_line_98 : decode cL_line 98 = .ok (.if_icmp .ne 27, 3) := by decide +kernel
theorem dL_line_101 : decode cL_line 101 = .ok (.goto 20, 3) := by decide +kernel
theorem dL_line_104 : decode cL_line 104 = .ok (.aload_n 0, 1) := by decide +kernel
theorem dL_line_105 : decode cL_line 105 = .ok (.iload 6, 2) := by decide +kernel
theorem dL_line_107 : decode cL_line 107 = .ok (.iload_n 1, 1) := by decide +kernel
theorem dL_line_108 : decode cL_line 108 = .ok (.iconst 1, 1) := by decide +kernel
theorem dL_line_109 : decode cL_line 109 = .ok (.invokevirtual 15, 3) := by decide +kernel
theorem dL_line_112 : decode cL_line 112 = .ok (.aload_n 0, 1) := by decide +kernel
theorem dL_line_113 : decode cL_line 113 = .ok (.iload_n 1, 1) := by decide +kernel
theorem dL_line_114 : decode cL_line 114 = .ok (.iconst 1, 1) := by decide +kernel
theorem dL_line_115 : decode cL_line 115 = .ok (.invokevirtual 19, 3) := by decide +kernel
theorem dL_line_118 : decode cL_line 118 = .ok (.if_icmp .ne 7, 3) := by decide +kernel
theorem dL_line_121 : decode cL_line 121 = .ok (.iconst 1, 1) := by decide +kernel
theorem dL_line_122 : decode cL_line 122 = .ok (.goto 4, 3) := by decide +kernel
theorem dL_line_125 : decode cL_line 125 = .ok (.iconst 0, 1) := by decide +kernel
theorem dL_line_126 : decode cL_line 126 = .ok (.istore 5, 2) := by decide +kernel
theorem dL_line_128 : decode cL_line 128 = .ok (.iinc 6 1, 3) := by decide +kernel
theorem dL_line_131 : decode cL_line 131 = .ok (.goto (-118), 3) := by decide +kernel
theorem dL_line_134 : decode cL_line 134 = .ok (.iload 5, 2) := by decide +kernel
theorem dL_line_136 : decode cL_line 136 = .ok (.ifCond .eq 42, 3) := by decide +kernel
theorem dL_line_139 : decode cL_line 139 = .ok (.iload_n 3, 1) := by decide +kernel
theorem dL_line_140 : decode cL_line 140 = .ok (.iconst 1, 1) := by decide +kernel
theorem dL_line_141 : decode cL_line 141 = .ok (.if_icmp .gt 37, 3) := by decide +kernel
theorem dL_line_144 : decode cL_line 144 = .ok (.iload_n 3, 1) := by decide +kernel
theorem dL_line_145 : decode cL_line 145 = .ok (.ifCond .eq 8, 3) := by decide +kernel
theorem dL_line_148 : decode cL_line 148 = .ok (.iload 4, 2) := by decide +kernel
theorem dL_line_150 : decode cL_line 150 = .ok (.ifCond .ne 28, 3) := by decide +kernel
theorem dL_line_153 : decode cL_line 153 = .ok (.aload_n 0, 1) := by decide +kernel
theorem dL_line_154 : decode cL_line 154 = .ok (.iload_n 1, 1) := by decide +kernel
theorem dL_line_155 : decode cL_line 155 = .ok (.iconst 2, 1) := by decide +kernel
theorem dL_line_156 : decode cL_line 156 = .ok (.invokevirtual 19, 3) := by decide +kernel
theorem dL_line_159 : decode cL_line 159 = .ok (.iload_n 2, 1) := by decide +kernel
theorem dL_line_160 : decode cL_line 160 = .ok (.if_icmp .ne 18, 3) := by decide +kernel
theorem dL_line_163 : decode cL_line 163 = .ok (.aload_n 0, 1) := by decide +kernel
theorem dL_line_164 : decode cL_line 164 = .ok (.iload_n 1, 1) := by decide +kernel
theorem dL_line_165 : decode cL_line 165 = .ok (.iconst 3, 1) := by decide +kernel
theorem dL_line_166 : decode cL_line 166 = .ok (.invokevirtual 19, 3) := by decide +kernel
theorem dL_line_169 : decode cL_line 169 = .ok (.iload 4, 2) := by decide +kernel
theorem dL_line_171 : decode cL_line 171 = .ok (.if_icmp .ne 7, 3) := by decide +kernel
theorem dL_line_174 : decode cL_line 174 = .ok (.iconst 1, 1) := by decide +kernel
theorem dL_line_175 : decode cL_line 175 = .ok (.goto 4, 3) := by decide +kernel
theorem dL_line_178 : decode cL_line 178 = .ok (.iconst 0, 1) := by decide +kernel
theorem dL_line_179 : decode cL_line 179 = .ok (.istore 5, 2) := by decide +kernel
theorem dL_line_181 : decode cL_line 181 = .ok (.iload 5, 2) := by decide +kernel
theorem dL_line_183 : decode cL_line 183 = .ok (.ifCond .eq 27, 3) := by decide +kernel
theorem dL_line_186 : decode cL_line 186 = .ok (.iload_n 3, 1) := by decide +kernel
theorem dL_line_187 : decode cL_line 187 = .ok (.iconst 1, 1) := by decide +kernel
theorem dL_line_188 : decode cL_line 188 = .ok (.if_icmp .eq 18, 3) := by decide +kernel
theorem dL_line_191 : decode cL_line 191 = .ok (.aload_n 0, 1) := by decide +kernel
theorem dL_line_192 : decode cL_line 192 = .ok (.iload_n 1, 1) := by decide +kernel
theorem dL_line_193 : decode cL_line 193 = .ok (.iconst 0, 1) := by decide +kernel
theorem dL_line_194 : decode cL_line 194 = .ok (.invokevirtual 19, 3) := by decide +kernel
theorem dL_line_197 : decode cL_line 197 = .ok (.aload_n 0, 1) := by decide +kernel
theorem dL_line_198 : decode cL_line 198 = .ok (.iload_n 1, 1) := by decide +kernel
theorem dL_line_199 : decode cL_line 199 = .ok (.iconst 1, 1) := by decide +kernel
theorem dL_line_200 : decode cL_line 200 = .ok (.invokevirtual 19, 3) := by decide +kernel
theorem dL_line_203 : decode cL_line 203 = .ok (.if_icmp .ne 7, 3) := by decide +kernel
theorem dL_line_206 : decode cL_line 206 = .ok (.iconst 1, 1) := by decide +kernel
theorem dL_line_207 : decode cL_line 207 = .ok (.goto 4, 3) := by decide +kernel
theorem dL_line_210 : decode cL_line 210 = .ok (.iconst 0, 1) := by decide +kernel
theorem dL_line_211 : decode cL_line 211 = .ok (.istore 5, 2) := by decide +kernel
theorem dL_line_213 : decode cL_line 213 = .ok (.aload_n 0, 1) := by decide +kernel
theorem dL_line_214 : decode cL_line 214 = .ok (.iload_n 1, 1) := by decide +kernel
theorem dL_line_215 : decode cL_line 215 = .ok (.iconst 4, 1) := by decide +kernel
theorem dL_line_216 : decode cL_line 216 = .ok (.invokevirtual 19, 3) := by decide +kernel
theorem dL_line_219 : decode cL_line 219 = .ok (.iconst 1, 1) := by decide +kernel
theorem dL_line_220 : decode cL_line 220 = .ok (.if_icmp .ne 46, 3) := by decide +kernel
theorem dL_line_223 : decode cL_line 223 = .ok (.iload 5, 2) := by decide +kernel
theorem dL_line_225 : decode cL_line 225 = .ok (.ifCond .eq 39, 3) := by decide +kernel
theorem dL_line_228 : decode cL_line 228 = .ok (.aload_n 0, 1) := by decide +kernel
theorem dL_line_229 : decode cL_line 229 = .ok (.iload_n 1, 1) := by decide +kernel
theorem dL_line_230 : decode cL_line 230 = .ok (.iconst 5, 1) := by decide +kernel
theorem dL_line_231 : decode cL_line 231 = .ok (.invokevirtual 19, 3) := by decide +kernel
theorem dL_line_234 : decode cL_line 234 = .ok (.iload_n 2, 1) := by decide +kernel
theorem dL_line_235 : decode cL_line 235 = .ok (.if_icmp .ne 29, 3) := by decide +kernel
theorem dL_line_238 : decode cL_line 238 = .ok (.aload_n 0, 1) := by decide +kernel
theorem dL_line_239 : decode cL_line 239 = .ok (.iload_n 1, 1) := by decide +kernel
theorem dL_line_240 : decode cL_line 240 = .ok (.bipush 6, 2) := by decide +kernel
theorem dL_line_242 : decode cL_line 242 = .ok (.invokevirtual 19, 3) := by decide +kernel
theorem dL_line_245 : decode cL_line 245 = .ok (.iload 4, 2) := by decide +kernel
theorem dL_line_247 : decode cL_line 247 = .ok (.if_icmp .ne 17, 3) := by decide +kernel
theorem dL_line_250 : decode cL_line 250 = .ok (.aload_n 0, 1) := by decide +kernel
theorem dL_line_251 : decode cL_line 251 = .ok (.iload_n 1, 1) := by decide +kernel
theorem dL_line_252 : decode cL_line 252 = .ok (.bipush 7, 2) := by decide +kernel
theorem dL_line_254 : decode cL_line 254 = .ok (.invokevirtual 19, 3) := by decide +kernel
theorem dL_line_257 : decode cL_line 257 = .ok (.ifCond .ne 7, 3) := by decide +kernel
theorem dL_line_260 : decode cL_line 260 = .ok (.iconst 1, 1) := by decide +kernel
theorem dL_line_261 : decode cL_line 261 = .ok (.goto 4, 3) := by decide +kernel
theorem dL_line_264 : decode cL_line 264 = .ok (.iconst 0, 1) := by decide +kernel
theorem dL_line_265 : decode cL_line 265 = .ok (.ireturn, 1) := by decide +kernel
theorem dL_line_266 : decode cL_line 266 = .ok (.iload 5, 2) := by decide +kernel
theorem dL_line_268 : decode cL_line 268 = .ok (.ifCond .eq 48, 3) := by decide +kernel
theorem dL_line_271 : decode cL_line 271 = .ok (.aload_n 0, 1) := by decide +kernel
theorem dL_line_272 : decode cL_line 272 = .ok (.iload_n 1, 1) := by decide +kernel
theorem dL_line_273 : decode cL_line 273 = .ok (.iconst 5, 1) := by decide +kernel
theorem dL_line_274 : decode cL_line 274 = .ok (.invokevirtual 19, 3) := by decide +kernel
theorem dL_line_277 : decode cL_line 277 = .ok (.iconst (-1), 1) := by decide +kernel
theorem dL_line_278 : decode cL_line 278 = .ok (.if_icmp .ne 38, 3) := by decide +kernel
theorem dL_line_281 : decode cL_line 281 = .ok (.aload_n 0, 1) := by decide +kernel
theorem dL_line_282 : decode cL_line 282 = .ok (.iload_n 1, 1) := by decide +kernel
theorem dL_line_283 : decode cL_line 283 = .ok (.bipush 6, 2) := by decide +kernel
theorem dL_line_285 : decode cL_line 285 = .ok (.invokevirtual 19, 3) := by decide +kernel
theorem dL_line_288 : decode cL_line 288 = .ok (.iconst (-1), 1) := by decide +kernel
theorem dL_line_289 : decode cL_line 289 = .ok (.if_icmp .ne 27, 3) := by decide +kernel
theorem dL_line_292 : decode cL_line 292 = .ok (.aload_n 0, 1) := by decide +kernel
theorem dL_line_293 : decode cL_line 293 = .ok (.iload_n 1, 1) := by decide +kernel
theorem dL_line_294 : decode cL_line 294 = .ok (.bipush 7, 2) := by decide +kernel
theorem dL_line_296 : decode cL_line 296 = .ok (.invokevirtual 19, 3) := by decide +kernel
theorem dL_line_299 : decode cL_line 299 = .ok (.iconst 1, 1) := by decide +kernel
theorem dL_line_300 : decode cL_line 300 = .ok (.if_icmp .eq 12, 3) := by decide +kernel
theorem dL_line_303 : decode cL_line 303 = .ok (.iload_n 3, 1) := by decide +kernel
theorem dL_line_304 : decode cL_line 304 = .ok (.ifCond .ne 12, 3) := by decide +kernel
theorem dL_line_307 : decode cL_line 307 = .ok (.iload 4, 2) := by decide +kernel
theorem dL_line_309 : decode cL_line 309 = .ok (.ifCond .ne 7, 3) := by decide +kernel
theorem dL_line_312 : decode cL_line 312 = .ok (.iconst 1, 1) := by decide +kernel
theorem dL_line_313 : decode cL_line 313 = .ok (.goto 4, 3) := by decide +kernel
theorem dL_line_316 : decode cL_line 316 = .ok (.iconst 0, 1) := by decide +kernel
theorem dL_line_317 : decode cL_line 317 = .ok (.ireturn, 1) := by decide +kernel
theorem dL_cache_0 : decode cL_cache 0 = .ok (.iconst 0, 1) := by decide +kernel
theorem dL_cache_1 : decode cL_cache 1 = .ok (.istore_n 2, 1) := by decide +kernel
theorem dL_cache_2 : decode cL_cache 2 = .ok (.iconst 0, 1) := by decide +kernel
theorem dL_cache_3 : decode cL_cache 3 = .ok (.istore_n 3, 1) := by decide +kernel
theorem dL_cache_4 : decode cL_cache 4 = .ok (.iconst 0, 1) := by decide +kernel
theorem dL_cache_5 : decode cL_cache 5 = .ok (.istore 4, 2) := by decide +kernel
theorem dL_cache_7 : decode cL_cache 7 = .ok (.iconst (-1), 1) := by decide +kernel
theorem dL_cache_8 : decode cL_cache 8 = .ok (.istore 5, 2) := by decide +kernel
theorem dL_cache_10 : decode cL_cache 10 = .ok (.iconst 0, 1) := by decide +kernel
theorem dL_cache_11 : decode cL_cache 11 = .ok (.istore 6, 2) := by decide +kernel
theorem dL_cache_13 : decode cL_cache 13 = .ok (.iload 6, 2) := by decide +kernel
theorem dL_cache_15 : decode cL_cache 15 = .ok (.bipush 9, 2) := by decide +kernel
theorem dL_cache_17 : decode cL_cache 17 = .ok (.if_icmp .ge 84, 3) := by decide +kernel
theorem dL_cache_20 : decode cL_cache 20 = .ok (.aload_n 0, 1) := by decide +kernel
theorem dL_cache_21 : decode cL_cache 21 = .ok (.iload_n 1, 1) := by decide +kernel
theorem dL_cache_22 : decode cL_cache 22 = .ok (.iload 6, 2) := by decide +kernel
theorem dL_cache_24 : decode cL_cache 24 = .ok (.iconst 0, 1) := by decide +kernel
theorem dL_cache_25 : decode cL_cache 25 = .ok (.invokevirtual 15, 3) := by decide +kernel
theorem dL_cache_28 : decode cL_cache 28 = .ok (.ifCond .le 67, 3) := by decide +kernel
theorem dL_cache_31 : decode cL_cache 31 = .ok (.iinc 2 1, 3) := by decide +kernel
theorem dL_cache_34 : decode cL_cache 34 = .ok (.iload_n 3, 1) := by decide +kernel
theorem dL_cache_35 : decode cL_cache 35 = .ok (.iconst 1, 1) := by decide +kernel
theorem dL_cache_36 : decode cL_cache 36 = .ok (.aload_n 0, 1) := by decide +kernel
theorem dL_cache_37 : decode cL_cache 37 = .ok (.iload_n 1, 1) := by decide +kernel
theorem dL_cache_38 : decode cL_cache 38 = .ok (.iload 6, 2) := by decide +kernel
theorem dL_cache_40 : decode cL_cache 40 = .ok (.iconst 3, 1) := by decide +kernel
theorem dL_cache_41 : decode cL_cache 41 = .ok (.invokevirtual 15, 3) := by decide +kernel
theorem dL_cache_44 : decode cL_cache 44 = .ok (.ishl, 1) := by decide +kernel
theorem dL_cache_45 : decode cL_cache 45 = .ok (.ior, 1) := by decide +kernel
theorem dL_cache_46 : decode cL_cache 46 = .ok (.istore_n 3, 1) := by decide +kernel
theorem dL_cache_47 : decode cL_cache 47 = .ok (.iload 4, 2) := by decide +kernel
theorem dL_cache_49 : decode cL_cache 49 = .ok (.iconst 1, 1) := by decide +kernel
theorem dL_cache_50 : decode cL_cache 50 = .ok (.aload_n 0, 1) := by decide +kernel
theorem dL_cache_51 : decode cL_cache 51 = .ok (.iload_n 1, 1) := by decide +kernel
theorem dL_cache_52 : decode cL_cache 52 = .ok (.iload 6, 2) := by decide +kernel
theorem dL_cache_54 : decode cL_cache 54 = .ok (.iconst 2, 1) := by decide +kernel
theorem dL_cache_55 : decode cL_cache 55 = .ok (.invokevirtual 15, 3) := by decide +kernel
theorem dL_cache_58 : decode cL_cache 58 = .ok (.ishl, 1) := by decide +kernel
theorem dL_cache_59 : decode cL_cache 59 = .ok (.ior, 1) := by decide +kernel
theorem dL_cache_60 : decode cL_cache 60 = .ok (.istore 4, 2) := by decide +kernel
theorem dL_cache_62 : decode cL_cache 62 = .ok (.iload 5, 2) := by decide +kernel
theorem dL_cache_64 : decode cL_cache 64 = .ok (.ifCond .lt 22, 3) := by decide +kernel
theorem dL_cache_67 : decode cL_cache 67 = .ok (.aload_n 0, 1) := by decide +kernel
theorem dL_cache_68 : decode cL_cache 68 = .ok (.iload_n 1, 1) := by decide +kernel
theorem dL_cache_69 : decode cL_cache 69 = .ok (.iload 6, 2) := by decide +kernel
theorem dL_cache_71 : decode cL_cache 71 = .ok (.iconst 3, 1) := by decide +kernel
theorem dL_cache_72 : decode cL_cache 72 = .ok (.invokevirtual 15, 3) := by decide +kernel
theorem dL_cache_75 : decode cL_cache 75 = .ok (.aload_n 0, 1) := by decide +kernel
theorem dL_cache_76 : decode cL_cache 76 = .ok (.iload_n 1, 1) := by decide +kernel
theorem dL_cache_77 : decode cL_cache 77 = .ok (.iload 5, 2) := by decide +kernel
theorem dL_cache_79 : decode cL_cache 79 = .ok (.iconst 3, 1) := by decide +kernel
theorem dL_cache_80 : decode cL_cache 80 = .ok (.invokevirtual 15, 3) := by decide +kernel
theorem dL_cache_83 : decode cL_cache 83 = .ok (.if_icmp .le 8, 3) := by decide +kernel
theorem dL_cache_86 : decode cL_cache 86 = .ok (.iload 6, 2) := by decide +kernel
theorem dL_cache_88 : decode cL_cache 88 = .ok (.goto 5, 3) := by decide +kernel
theorem dL_cache_91 : decode cL_cache 91 = .ok (.iload 5, 2) := by decide +kernel
theorem dL_cache_93 : decode cL_cache 93 = .ok (.istore 5, 2) := by decide +kernel
theorem dL_cache_95 : decode cL_cache 95 = .ok (.iinc 6 1, 3) := by decide +kernel
theorem dL_cache_98 : decode cL_cache 98 = .ok (.goto (-85), 3) := by decide +kernel
theorem dL_cache_101 : decode cL_cache 101 = .ok (.iload_n 2, 1) := by decide +kernel
theorem dL_cache_102 : decode cL_cache 102 = .ok (.aload_n 0, 1) := by decide +kernel
theorem dL_cache_103 : decode cL_cache 103 = .ok (.iconst 1, 1) := by decide +kernel
theorem dL_cache_104 : decode cL_cache 104 = .ok (.invokevirtual 9, 3) := by decide +kernel
theorem dL_cache_107 : decode cL_cache 107 = .ok (.if_icmp .gt 28, 3) := by decide +kernel
theorem dL_cache_110 : decode cL_cache 110 = .ok (.iload_n 3, 1) := by decide +kernel
theorem dL_cache_111 : decode cL_cache 111 = .ok (.iconst 1, 1) := by decide +kernel
theorem dL_cache_112 : decode cL_cache 112 = .ok (.iload_n 2, 1) := by decide +kernel
theorem dL_cache_113 : decode cL_cache 113 = .ok (.ishl, 1) := by decide +kernel
theorem dL_cache_114 : decode cL_cache 114 = .ok (.iconst 1, 1) := by decide +kernel
theorem dL_cache_115 : decode cL_cache 115 = .ok (.isub, 1) := by decide +kernel
theorem dL_cache_116 : decode cL_cache 116 = .ok (.if_icmp .ne 19, 3) := by decide +kernel
theorem dL_cache_119 : decode cL_cache 119 = .ok (.iload 4, 2) := by decide +kernel
theorem dL_cache_121 : decode cL_cache 121 = .ok (.iconst 1, 1) := by decide +kernel
theorem dL_cache_122 : decode cL_cache 122 = .ok (.aload_n 0, 1) := by decide +kernel
theorem dL_cache_123 : decode cL_cache 123 = .ok (.iconst 1, 1) := by decide +kernel
theorem dL_cache_124 : decode cL_cache 124 = .ok (.invokevirtual 9, 3) := by decide +kernel
theorem dL_cache_127 : decode cL_cache 127 = .ok (.ishl, 1) := by decide +kernel
theorem dL_cache_128 : decode cL_cache 128 = .ok (.if_icmp .ge 7, 3) := by decide +kernel
theorem dL_cache_131 : decode cL_cache 131 = .ok (.iconst 1, 1) := by decide +kernel
theorem dL_cache_132 : decode cL_cache 132 = .ok (.goto 4, 3) := by decide +kernel
theorem dL_cache_135 : decode cL_cache 135 = .ok (.iconst 0, 1) := by decide +kernel
theorem dL_cache_136 : decode cL_cache 136 = .ok (.istore 6, 2) := by decide +kernel
theorem dL_cache_138 : decode cL_cache 138 = .ok (.iload 6, 2) := by decide +kernel
theorem dL_cache_140 : decode cL_cache 140 = .ok (.ifCond .eq 39, 3) := by decide +kernel
theorem dL_cache_143 : decode cL_cache 143 = .ok (.iload 4, 2) := by decide +kernel
theorem dL_cache_145 : decode cL_cache 145 = .ok (.invokestatic 23, 3) := by decide +kernel
theorem dL_cache_148 : decode cL_cache 148 = .ok (.iload_n 2, 1) := by decide +kernel
theorem dL_cache_149 : decode cL_cache 149 = .ok (.if_icmp .ne 30, 3) := by decide +kernel
theorem dL_cache_152 : decode cL_cache 152 = .ok (.aload_n 0, 1) := by decide +kernel
