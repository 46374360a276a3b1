theorem dX9_serves_37 : decode cX9_serves 37 = .ok (.iload_n 2, 1) := by decide +kernel
theorem dX9_serves_38 : decode cX9_serves 38 = .ok (.invokevirtual 52, 3) := by decide +kernel
theorem dX9_serves_41 : decode cX9_serves 41 = .ok (.istore 6, 2) := by decide +kernel
theorem dX9_serves_43 : decode cX9_serves 43 = .ok (.iload_n 3, 1) := by decide +kernel
theorem dX9_serves_44 : decode cX9_serves 44 = .ok (.ifCond .lt 23, 3) := by decide +kernel
theorem dX9_serves_47 : decode cX9_serves 47 = .ok (.aload_n 0, 1) := by decide +kernel
theorem dX9_serves_48 : decode cX9_serves 48 = .ok (.getfield 7, 3) := by decide +kernel
theorem dX9_serves_51 : decode cX9_serves 51 = .ok (.iload 6, 2) := by decide +kernel
theorem dX9_serves_53 : decode cX9_serves 53 = .ok (.iconst 2, 1) := by decide +kernel
theorem dX9_serves_54 : decode cX9_serves 54 = .ok (.iadd, 1) := by decide +kernel
theorem dX9_serves_55 : decode cX9_serves 55 = .ok (.iload_n 3, 1) := by decide +kernel
theorem dX9_serves_56 : decode cX9_serves 56 = .ok (.iastore, 1) := by decide +kernel
theorem dX9_serves_57 : decode cX9_serves 57 = .ok (.aload_n 0, 1) := by decide +kernel
theorem dX9_serves_58 : decode cX9_serves 58 = .ok (.getfield 7, 3) := by decide +kernel
theorem dX9_serves_61 : decode cX9_serves 61 = .ok (.bipush 46, 2) := by decide +kernel
theorem dX9_serves_63 : decode cX9_serves 63 = .ok (.iload_n 2, 1) := by decide +kernel
theorem dX9_serves_64 : decode cX9_serves 64 = .ok (.iadd, 1) := by decide +kernel
theorem dX9_serves_65 : decode cX9_serves 65 = .ok (.iload_n 3, 1) := by decide +kernel
theorem dX9_serves_66 : decode cX9_serves 66 = .ok (.iastore, 1) := by decide +kernel
theorem dX9_serves_67 : decode cX9_serves 67 = .ok (.aload_n 0, 1) := by decide +kernel
theorem dX9_serves_68 : decode cX9_serves 68 = .ok (.getfield 7, 3) := by decide +kernel
theorem dX9_serves_71 : decode cX9_serves 71 = .ok (.bipush 13, 2) := by decide +kernel
theorem dX9_serves_73 : decode cX9_serves 73 = .ok (.dup2, 1) := by decide +kernel
theorem dX9_serves_74 : decode cX9_serves 74 = .ok (.iaload, 1) := by decide +kernel
theorem dX9_serves_75 : decode cX9_serves 75 = .ok (.iconst 1, 1) := by decide +kernel
theorem dX9_serves_76 : decode cX9_serves 76 = .ok (.iadd, 1) := by decide +kernel
theorem dX9_serves_77 : decode cX9_serves 77 = .ok (.iastore, 1) := by decide +kernel
theorem dX9_serves_78 : decode cX9_serves 78 = .ok (.aload_n 0, 1) := by decide +kernel
theorem dX9_serves_79 : decode cX9_serves 79 = .ok (.getfield 7, 3) := by decide +kernel
theorem dX9_serves_82 : decode cX9_serves 82 = .ok (.iload 6, 2) := by decide +kernel
theorem dX9_serves_84 : decode cX9_serves 84 = .ok (.iconst 3, 1) := by decide +kernel
theorem dX9_serves_85 : decode cX9_serves 85 = .ok (.iadd, 1) := by decide +kernel
theorem dX9_serves_86 : decode cX9_serves 86 = .ok (.aload_n 0, 1) := by decide +kernel
theorem dX9_serves_87 : decode cX9_serves 87 = .ok (.getfield 7, 3) := by decide +kernel
theorem dX9_serves_90 : decode cX9_serves 90 = .ok (.bipush 13, 2) := by decide +kernel
theorem dX9_serves_92 : decode cX9_serves 92 = .ok (.iaload, 1) := by decide +kernel
theorem dX9_serves_93 : decode cX9_serves 93 = .ok (.iastore, 1) := by decide +kernel
theorem dX9_serves_94 : decode cX9_serves 94 = .ok (.aload_n 0, 1) := by decide +kernel
theorem dX9_serves_95 : decode cX9_serves 95 = .ok (.getfield 7, 3) := by decide +kernel
theorem dX9_serves_98 : decode cX9_serves 98 = .ok (.bipush 6, 2) := by decide +kernel
theorem dX9_serves_100 : decode cX9_serves 100 = .ok (.dup2, 1) := by decide +kernel
theorem dX9_serves_101 : decode cX9_serves 101 = .ok (.iaload, 1) := by decide +kernel
theorem dX9_serves_102 : decode cX9_serves 102 = .ok (.iload 4, 2) := by decide +kernel
theorem dX9_serves_104 : decode cX9_serves 104 = .ok (.ifCond .eq 7, 3) := by decide +kernel
theorem dX9_serves_107 : decode cX9_serves 107 = .ok (.iconst 1, 1) := by decide +kernel
theorem dX9_serves_108 : decode cX9_serves 108 = .ok (.goto 4, 3) := by decide +kernel
theorem dX9_serves_111 : decode cX9_serves 111 = .ok (.iconst 0, 1) := by decide +kernel
theorem dX9_serves_112 : decode cX9_serves 112 = .ok (.iadd, 1) := by decide +kernel
theorem dX9_serves_113 : decode cX9_serves 113 = .ok (.iastore, 1) := by decide +kernel
theorem dX9_serves_114 : decode cX9_serves 114 = .ok (.aload_n 0, 1) := by decide +kernel
theorem dX9_serves_115 : decode cX9_serves 115 = .ok (.getfield 7, 3) := by decide +kernel
theorem dX9_serves_118 : decode cX9_serves 118 = .ok (.bipush 7, 2) := by decide +kernel
theorem dX9_serves_120 : decode cX9_serves 120 = .ok (.dup2, 1) := by decide +kernel
theorem dX9_serves_121 : decode cX9_serves 121 = .ok (.iaload, 1) := by decide +kernel
theorem dX9_serves_122 : decode cX9_serves 122 = .ok (.iload 4, 2) := by decide +kernel
theorem dX9_serves_124 : decode cX9_serves 124 = .ok (.ifCond .eq 7, 3) := by decide +kernel
theorem dX9_serves_127 : decode cX9_serves 127 = .ok (.iconst 0, 1) := by decide +kernel
theorem dX9_serves_128 : decode cX9_serves 128 = .ok (.goto 4, 3) := by decide +kernel
theorem dX9_serves_131 : decode cX9_serves 131 = .ok (.iconst 1, 1) := by decide +kernel
theorem dX9_serves_132 : decode cX9_serves 132 = .ok (.iadd, 1) := by decide +kernel
theorem dX9_serves_133 : decode cX9_serves 133 = .ok (.iastore, 1) := by decide +kernel
theorem dX9_serves_134 : decode cX9_serves 134 = .ok (.aload_n 0, 1) := by decide +kernel
theorem dX9_serves_135 : decode cX9_serves 135 = .ok (.getfield 7, 3) := by decide +kernel
theorem dX9_serves_138 : decode cX9_serves 138 = .ok (.iconst 5, 1) := by decide +kernel
theorem dX9_serves_139 : decode cX9_serves 139 = .ok (.dup2, 1) := by decide +kernel
theorem dX9_serves_140 : decode cX9_serves 140 = .ok (.iaload, 1) := by decide +kernel
theorem dX9_serves_141 : decode cX9_serves 141 = .ok (.iload 5, 2) := by decide +kernel
theorem dX9_serves_143 : decode cX9_serves 143 = .ok (.iadd, 1) := by decide +kernel
theorem dX9_serves_144 : decode cX9_serves 144 = .ok (.iastore, 1) := by decide +kernel
theorem dX9_serves_145 : decode cX9_serves 145 = .ok (.bipush 71, 2) := by decide +kernel
theorem dX9_serves_147 : decode cX9_serves 147 = .ok (.istore 7, 2) := by decide +kernel
theorem dX9_serves_149 : decode cX9_serves 149 = .ok (.iload 7, 2) := by decide +kernel
theorem dX9_serves_151 : decode cX9_serves 151 = .ok (.iconst 5, 1) := by decide +kernel
theorem dX9_serves_152 : decode cX9_serves 152 = .ok (.if_icmp .le 34, 3) := by decide +kernel
theorem dX9_serves_155 : decode cX9_serves 155 = .ok (.aload_n 0, 1) := by decide +kernel
theorem dX9_serves_156 : decode cX9_serves 156 = .ok (.getfield 7, 3) := by decide +kernel
theorem dX9_serves_159 : decode cX9_serves 159 = .ok (.sipush 384, 3) := by decide +kernel
theorem dX9_serves_162 : decode cX9_serves 162 = .ok (.iload 7, 2) := by decide +kernel
theorem dX9_serves_164 : decode cX9_serves 164 = .ok (.iadd, 1) := by decide +kernel
theorem dX9_serves_165 : decode cX9_serves 165 = .ok (.aload_n 0, 1) := by decide +kernel
theorem dX9_serves_166 : decode cX9_serves 166 = .ok (.getfield 7, 3) := by decide +kernel
theorem dX9_serves_169 : decode cX9_serves 169 = .ok (.sipush 384, 3) := by decide +kernel
theorem dX9_serves_172 : decode cX9_serves 172 = .ok (.iload 7, 2) := by decide +kernel
theorem dX9_serves_174 : decode cX9_serves 174 = .ok (.iadd, 1) := by decide +kernel
theorem dX9_serves_175 : decode cX9_serves 175 = .ok (.bipush 6, 2) := by decide +kernel
theorem dX9_serves_177 : decode cX9_serves 177 = .ok (.isub, 1) := by decide +kernel
theorem dX9_serves_178 : decode cX9_serves 178 = .ok (.iaload, 1) := by decide +kernel
theorem dX9_serves_179 : decode cX9_serves 179 = .ok (.iastore, 1) := by decide +kernel
theorem dX9_serves_180 : decode cX9_serves 180 = .ok (.iinc 7 (-1), 3) := by decide +kernel
theorem dX9_serves_183 : decode cX9_serves 183 = .ok (.goto (-34), 3) := by decide +kernel
theorem dX9_serves_186 : decode cX9_serves 186 = .ok (.aload_n 0, 1) := by decide +kernel
theorem dX9_serves_187 : decode cX9_serves 187 = .ok (.getfield 7, 3) := by decide +kernel
theorem dX9_serves_190 : decode cX9_serves 190 = .ok (.sipush 384, 3) := by decide +kernel
theorem dX9_serves_193 : decode cX9_serves 193 = .ok (.iload_n 1, 1) := by decide +kernel
theorem dX9_serves_194 : decode cX9_serves 194 = .ok (.iastore, 1) := by decide +kernel
theorem dX9_serves_195 : decode cX9_serves 195 = .ok (.aload_n 0, 1) := by decide +kernel
theorem dX9_serves_196 : decode cX9_serves 196 = .ok (.getfield 7, 3) := by decide +kernel
theorem dX9_serves_199 : decode cX9_serves 199 = .ok (.sipush 385, 3) := by decide +kernel
theorem dX9_serves_202 : decode cX9_serves 202 = .ok (.iload_n 2, 1) := by decide +kernel
theorem dX9_serves_203 : decode cX9_serves 203 = .ok (.iastore, 1) := by decide +kernel
theorem dX9_serves_204 : decode cX9_serves 204 = .ok (.aload_n 0, 1) := by decide +kernel
theorem dX9_serves_205 : decode cX9_serves 205 = .ok (.getfield 7, 3) := by decide +kernel
theorem dX9_serves_208 : decode cX9_serves 208 = .ok (.sipush 386, 3) := by decide +kernel
theorem dX9_serves_211 : decode cX9_serves 211 = .ok (.iload_n 3, 1) := by decide +kernel
theorem dX9_serves_212 : decode cX9_serves 212 = .ok (.ifCond .lt 7, 3) := by decide +kernel
theorem dX9_serves_215 : decode cX9_serves 215 = .ok (.iconst 1, 1) := by decide +kernel
theorem dX9_serves_216 : decode cX9_serves 216 = .ok (.goto 4, 3) := by decide +kernel
theorem dX9_serves_219 : decode cX9_serves 219 = .ok (.iconst 0, 1) := by decide +kernel
theorem dX9_serves_220 : decode cX9_serves 220 = .ok (.iastore, 1) := by decide +kernel
theorem dX9_serves_221 : decode cX9_serves 221 = .ok (.aload_n 0, 1) := by decide +kernel
theorem dX9_serves_222 : decode cX9_serves 222 = .ok (.getfield 7, 3) := by decide +kernel
theorem dX9_serves_225 : decode cX9_serves 225 = .ok (.sipush 387, 3) := by decide +kernel
theorem dX9_serves_228 : decode cX9_serves 228 = .ok (.aload_n 0, 1) := by decide +kernel
theorem dX9_serves_229 : decode cX9_serves 229 = .ok (.getfield 7, 3) := by decide +kernel
theorem dX9_serves_232 : decode cX9_serves 232 = .ok (.iload 6, 2) := by decide +kernel
theorem dX9_serves_234 : decode cX9_serves 234 = .ok (.iconst 2, 1) := by decide +kernel
theorem dX9_serves_235 : decode cX9_serves 235 = .ok (.iadd, 1) := by decide +kernel
theorem dX9_serves_236 : decode cX9_serves 236 = .ok (.iaload, 1) := by decide +kernel
theorem dX9_serves_237 : decode cX9_serves 237 = .ok (.iastore, 1) := by decide +kernel
theorem dX9_serves_238 : decode cX9_serves 238 = .ok (.aload_n 0, 1) := by decide +kernel
theorem dX9_serves_239 : decode cX9_serves 239 = .ok (.getfield 7, 3) := by decide +kernel
theorem dX9_serves_242 : decode cX9_serves 242 = .ok (.sipush 388, 3) := by decide +kernel
theorem dX9_serves_245 : decode cX9_serves 245 = .ok (.iload 5, 2) := by decide +kernel
theorem dX9_serves_247 : decode cX9_serves 247 = .ok (.iastore, 1) := by decide +kernel
theorem dX9_serves_248 : decode cX9_serves 248 = .ok (.aload_n 0, 1) := by decide +kernel
theorem dX9_serves_249 : decode cX9_serves 249 = .ok (.getfield 7, 3) := by decide +kernel
theorem dX9_serves_252 : decode cX9_serves 252 = .ok (.sipush 389, 3) := by decide +kernel
theorem dX9_serves_255 : decode cX9_serves 255 = .ok (.aload_n 0, 1) := by decide +kernel
theorem dX9_serves_256 : decode cX9_serves 256 = .ok (.getfield 7, 3) := by decide +kernel
theorem dX9_serves_259 : decode cX9_serves 259 = .ok (.iconst 4, 1) := by decide +kernel
theorem dX9_serves_260 : decode cX9_serves 260 = .ok (.iaload, 1) := by decide +kernel
theorem dX9_serves_261 : decode cX9_serves 261 = .ok (.iastore, 1) := by decide +kernel
theorem dX9_serves_262 : decode cX9_serves 262 = .ok (.aload_n 0, 1) := by decide +kernel
theorem dX9_serves_263 : decode cX9_serves 263 = .ok (.getfield 7, 3) := by decide +kernel
theorem dX9_serves_266 : decode cX9_serves 266 = .ok (.bipush 12, 2) := by decide +kernel
theorem dX9_serves_268 : decode cX9_serves 268 = .ok (.dup2, 1) := by decide +kernel
theorem dX9_serves_269 : decode cX9_serves 269 = .ok (.iaload, 1) := by decide +kernel
theorem dX9_serves_270 : decode cX9_serves 270 = .ok (.aload_n 0, 1) := by decide +kernel
theorem dX9_serves_271 : decode cX9_serves 271 = .ok (.getfield 7, 3) := by decide +kernel
theorem dX9_serves_274 : decode cX9_serves 274 = .ok (.bipush 12, 2) := by decide +kernel
theorem dX9_serves_276 : decode cX9_serves 276 = .ok (.iaload, 1) := by decide +kernel
theorem dX9_serves_277 : decode cX9_serves 277 = .ok (.bipush 12, 2) := by decide +kernel
theorem dX9_serves_279 : decode cX9_serves 279 = .ok (.if_icmp .ge 7, 3) := by decide +kernel
theorem dX9_serves_282 : decode cX9_serves 282 = .ok (.iconst 1, 1) := by decide +kernel
theorem dX9_serves_283 : decode cX9_serves 283 = .ok (.goto 4, 3) := by decide +kernel
theorem dX9_serves_286 : decode cX9_serves 286 = .ok (.iconst 0, 1) := by decide +kernel
theorem dX9_serves_287 : decode cX9_serves 287 = .ok (.iadd, 1) := by decide +kernel
theorem dX9_serves_288 : decode cX9_serves 288 = .ok (.iastore, 1) := by decide +kernel
theorem dX9_serves_289 : decode cX9_serves 289 = .ok (.iload 5, 2) := by decide +kernel
theorem dX9_serves_291 : decode cX9_serves 291 = .ok (.ireturn, 1) := by decide +kernel
theorem dX9_tick_0 : decode cX9_tick 0 = .ok (.iconst 0, 1) := by decide +kernel
theorem dX9_tick_1 : decode cX9_tick 1 = .ok (.istore_n 1, 1) := by decide +kernel
theorem dX9_tick_2 : decode cX9_tick 2 = .ok (.iconst 0, 1) := by decide +kernel
theorem dX9_tick_3 : decode cX9_tick 3 = .ok (.istore_n 2, 1) := by decide +kernel
theorem dX9_tick_4 : decode cX9_tick 4 = .ok (.iconst 0, 1) := by decide +kernel
theorem dX9_tick_5 : decode cX9_tick 5 = .ok (.istore_n 3, 1) := by decide +kernel
theorem dX9_tick_6 : decode cX9_tick 6 = .ok (.iload_n 3, 1) := by decide +kernel
theorem dX9_tick_7 : decode cX9_tick 7 = .ok (.aload_n 0, 1) := by decide +kernel
theorem dX9_tick_8 : decode cX9_tick 8 = .ok (.getfield 7, 3) := by decide +kernel
theorem dX9_tick_11 : decode cX9_tick 11 = .ok (.iconst 0, 1) := by decide +kernel
theorem dX9_tick_12 : decode cX9_tick 12 = .ok (.iaload, 1) := by decide +kernel
theorem dX9_tick_13 : decode cX9_tick 13 = .ok (.if_icmp .ge 163, 3) := by decide +kernel
theorem dX9_tick_16 : decode cX9_tick 16 = .ok (.aload_n 0, 1) := by decide +kernel
theorem dX9_tick_17 : decode cX9_tick 17 = .ok (.getfield 7, 3) := by decide +kernel
theorem dX9_tick_20 : decode cX9_tick 20 = .ok (.iconst 4, 1) := by decide +kernel
theorem dX9_tick_21 : decode cX9_tick 21 = .ok (.iaload, 1) := by decide +kernel
theorem dX9_tick_22 : decode cX9_tick 22 = .ok (.iload_n 3, 1) := by decide +kernel
theorem dX9_tick_23 : decode cX9_tick 23 = .ok (.iadd, 1) := by decide +kernel
theorem dX9_tick_24 : decode cX9_tick 24 = .ok (.aload_n 0, 1) := by decide +kernel
theorem dX9_tick_25 : decode cX9_tick 25 = .ok (.getfield 7, 3) := by decide +kernel
theorem dX9_tick_28 : decode cX9_tick 28 = .ok (.iconst 0, 1) := by decide +kernel
theorem dX9_tick_29 : decode cX9_tick 29 = .ok (.iaload, 1) := by decide +kernel
theorem dX9_tick_30 : decode cX9_tick 30 = .ok (.irem, 1) := by decide +kernel
theorem dX9_tick_31 : decode cX9_tick 31 = .ok (.istore 4, 2) := by decide +kernel
theorem dX9_tick_33 : decode cX9_tick 33 = .ok (.sipush 366, 3) := by decide +kernel
theorem dX9_tick_36 : decode cX9_tick 36 = .ok (.iconst 3, 1) := by decide +kernel
theorem dX9_tick_37 : decode cX9_tick 37 = .ok (.iload 4, 2) := by decide +kernel
theorem dX9_tick_39 : decode cX9_tick 39 = .ok (.imul, 1) := by decide +kernel
theorem dX9_tick_40 : decode cX9_tick 40 = .ok (.iadd, 1) := by decide +kernel
theorem dX9_tick_41 : decode cX9_tick 41 = .ok (.istore 5, 2) := by decide +kernel
theorem dX9_tick_43 : decode cX9_tick 43 = .ok (.aload_n 0, 1) := by decide +kernel
theorem dX9_tick_44 : decode cX9_tick 44 = .ok (.getfield 7, 3) := by decide +kernel
theorem dX9_tick_47 : decode cX9_tick 47 = .ok (.iload 5, 2) := by decide +kernel
theorem dX9_tick_49 : decode cX9_tick 49 = .ok (.iaload, 1) := by decide +kernel
theorem dX9_tick_50 : decode cX9_tick 50 = .ok (.istore 6, 2) := by decide +kernel
theorem dX9_tick_52 : decode cX9_tick 52 = .ok (.iload 6, 2) := by decide +kernel
theorem dX9_tick_54 : decode cX9_tick 54 = .ok (.ifCond .lt 116, 3) := by decide +kernel
theorem dX9_tick_57 : decode cX9_tick 57 = .ok (.aload_n 0, 1) := by decide +kernel
theorem dX9_tick_58 : decode cX9_tick 58 = .ok (.iload 4, 2) := by decide +kernel
theorem dX9_tick_60 : decode cX9_tick 60 = .ok (.iload 6, 2) := by decide +kernel
theorem dX9_tick_62 : decode cX9_tick 62 = .ok (.aload_n 0, 1) := by decide +kernel
theorem dX9_tick_63 : decode cX9_tick 63 = .ok (.getfield 7, 3) := by decide +kernel
theorem dX9_tick_66 : decode cX9_tick 66 = .ok (.iload 5, 2) := by decide +kernel
theorem dX9_tick_68 : decode cX9_tick 68 = .ok (.iconst 1, 1) := by decide +kernel
theorem dX9_tick_69 : decode cX9_tick 69 = .ok (.iadd, 1) := by decide +kernel
theorem dX9_tick_70 : decode cX9_tick 70 = .ok (.iaload, 1) := by decide +kernel
theorem dX9_tick_71 : decode cX9_tick 71 = .ok (.ifCond .lt 7, 3) := by decide +kernel
theorem dX9_tick_74 : decode cX9_tick 74 = .ok (.iconst 1, 1) := by decide +kernel
theorem dX9_tick_75 : decode cX9_tick 75 = .ok (.goto 4, 3) := by decide +kernel
theorem dX9_tick_78 : decode cX9_tick 78 = .ok (.iconst 0, 1) := by decide +kernel
theorem dX9_tick_79 : decode cX9_tick 79 = .ok (.invokevirtual 81, 3) := by decide +kernel
theorem dX9_tick_82 : decode cX9_tick 82 = .ok (.istore 7, 2) := by decide +kernel
theorem dX9_tick_84 : decode cX9_tick 84 = .ok (.iload 7, 2) := by decide +kernel
theorem dX9_tick_86 : decode cX9_tick 86 = .ok (.ifCond .ne 12, 3) := by decide +kernel
theorem dX9_tick_89 : decode cX9_tick 89 = .ok (.iload_n 1, 1) := by decide +kernel
theorem dX9_tick_90 : decode cX9_tick 90 = .ok (.iload 6, 2) := by decide +kernel
theorem dX9_tick_92 : decode cX9_tick 92 = .ok (.iushr, 1) := by decide +kernel
theorem dX9_tick_93 : decode cX9_tick 93 = .ok (.iconst 1, 1) := by decide +kernel
theorem dX9_tick_94 : decode cX9_tick 94 = .ok (.iand, 1) := by decide +kernel
theorem dX9_tick_95 : decode cX9_tick 95 = .ok (.ifCond .ne 51, 3) := by decide +kernel
theorem dX9_tick_98 : decode cX9_tick 98 = .ok (.iload_n 1, 1) := by decide +kernel
theorem dX9_tick_99 : decode cX9_tick 99 = .ok (.iload 7, 2) := by decide +kernel
theorem dX9_tick_101 : decode cX9_tick 101 = .ok (.ifCond .eq 7, 3) := by decide +kernel
theorem dX9_tick_104 : decode cX9_tick 104 = .ok (.iconst 0, 1) := by decide +kernel
theorem dX9_tick_105 : decode cX9_tick 105 = .ok (.goto 7, 3) := by decide +kernel
theorem dX9_tick_108 : decode cX9_tick 108 = .ok (.iconst 1, 1) := by decide +kernel
theorem dX9_tick_109 : decode cX9_tick 109 = .ok (.iload 6, 2) := by decide +kernel
theorem dX9_tick_111 : decode cX9_tick 111 = .ok (.ishl, 1) := by decide +kernel
theorem dX9_tick_112 : decode cX9_tick 112 = .ok (.ior, 1) := by decide +kernel
theorem dX9_tick_113 : decode cX9_tick 113 = .ok (.istore_n 1, 1) := by decide +kernel
theorem dX9_tick_114 : decode cX9_tick 114 = .ok (.aload_n 0, 1) := by decide +kernel
theorem dX9_tick_115 : decode cX9_tick 115 = .ok (.iload 4, 2) := by decide +kernel
theorem dX9_tick_117 : decode cX9_tick 117 = .ok (.iload 6, 2) := by decide +kernel
theorem dX9_tick_119 : decode cX9_tick 119 = .ok (.aload_n 0, 1) := by decide +kernel
theorem dX9_tick_120 : decode cX9_tick 120 = .ok (.getfield 7, 3) := by decide +kernel
theorem dX9_tick_123 : decode cX9_tick 123 = .ok (.iload 5, 2) := by decide +kernel
theorem dX9_tick_125 : decode cX9_tick 125 = .ok (.iconst 1, 1) := by decide +kernel
theorem dX9_tick_126 : decode cX9_tick 126 = .ok (.iadd, 1) := by decide +kernel
theorem dX9_tick_127 : decode cX9_tick 127 = .ok (.iaload, 1) := by decide +kernel
theorem dX9_tick_128 : decode cX9_tick 128 = .ok (.invokevirtual 89, 3) := by decide +kernel
theorem dX9_tick_131 : decode cX9_tick 131 = .ok (.pop, 1) := by decide +kernel
theorem dX9_tick_132 : decode cX9_tick 132 = .ok (.aload_n 0, 1) := by decide +kernel
theorem dX9_tick_133 : decode cX9_tick 133 = .ok (.getfield 7, 3) := by decide +kernel
theorem dX9_tick_136 : decode cX9_tick 136 = .ok (.iload 5, 2) := by decide +kernel
theorem dX9_tick_138 : decode cX9_tick 138 = .ok (.iconst (-1), 1) := by decide +kernel
theorem dX9_tick_139 : decode cX9_tick 139 = .ok (.iastore, 1) := by decide +kernel
theorem dX9_tick_140 : decode cX9_tick 140 = .ok (.iinc 2 1, 3) := by decide +kernel
theorem dX9_tick_143 : decode cX9_tick 143 = .ok (.goto 27, 3) := by decide +kernel
theorem dX9_tick_146 : decode cX9_tick 146 = .ok (.aload_n 0, 1) := by decide +kernel
theorem dX9_tick_147 : decode cX9_tick 147 = .ok (.getfield 7, 3) := by decide +kernel
theorem dX9_tick_150 : decode cX9_tick 150 = .ok (.iload 5, 2) := by decide +kernel
theorem dX9_tick_152 : decode cX9_tick 152 = .ok (.iconst 2, 1) := by decide +kernel
theorem dX9_tick_153 : decode cX9_tick 153 = .ok (.iadd, 1) := by decide +kernel
theorem dX9_tick_154 : decode cX9_tick 154 = .ok (.dup2, 1) := by decide +kernel
theorem dX9_tick_155 : decode cX9_tick 155 = .ok (.iaload, 1) := by decide +kernel
theorem dX9_tick_156 : decode cX9_tick 156 = .ok (.iconst 1, 1) := by decide +kernel
theorem dX9_tick_157 : decode cX9_tick 157 = .ok (.iadd, 1) := by decide +kernel
theorem dX9_tick_158 : decode cX9_tick 158 = .ok (.iastore, 1) := by decide +kernel
theorem dX9_tick_159 : decode cX9_tick 159 = .ok (.aload_n 0, 1) := by decide +kernel
theorem dX9_tick_160 : decode cX9_tick 160 = .ok (.getfield 7, 3) := by decide +kernel
theorem dX9_tick_163 : decode cX9_tick 163 = .ok (.bipush 8, 2) := by decide +kernel
theorem dX9_tick_165 : decode cX9_tick 165 = .ok (.dup2, 1) := by decide +kernel
theorem dX9_tick_166 : decode cX9_tick 166 = .ok (.iaload, 1) := by decide +kernel
theorem dX9_tick_167 : decode cX9_tick 167 = .ok (.iconst 1, 1) := by decide +kernel
theorem dX9_tick_168 : decode cX9_tick 168 = .ok (.iadd, 1) := by decide +kernel
theorem dX9_tick_169 : decode cX9_tick 169 = .ok (.iastore, 1) := by decide +kernel
theorem dX9_tick_170 : decode cX9_tick 170 = .ok (.iinc 3 1, 3) := by decide +kernel
theorem dX9_tick_173 : decode cX9_tick 173 = .ok (.goto (-167), 3) := by decide +kernel
theorem dX9_tick_176 : decode cX9_tick 176 = .ok (.aload_n 0, 1) := by decide +kernel
theorem dX9_tick_177 : decode cX9_tick 177 = .ok (.getfield 7, 3) := by decide +kernel
theorem dX9_tick_180 : decode cX9_tick 180 = .ok (.iconst 4, 1) := by decide +kernel
theorem dX9_tick_181 : decode cX9_tick 181 = .ok (.dup2, 1) := by decide +kernel
theorem dX9_tick_182 : decode cX9_tick 182 = .ok (.iaload, 1) := by decide +kernel
theorem dX9_tick_183 : decode cX9_tick 183 = .ok (.iconst 1, 1) := by decide +kernel
theorem dX9_tick_184 : decode cX9_tick 184 = .ok (.iadd, 1) := by decide +kernel
theorem dX9_tick_185 : decode cX9_tick 185 = .ok (.iastore, 1) := by decide +kernel
theorem dX9_tick_186 : decode cX9_tick 186 = .ok (.iload_n 2, 1) := by decide +kernel
theorem dX9_tick_187 : decode cX9_tick 187 = .ok (.ireturn, 1) := by decide +kernel
theorem dX9_ticks_0 : decode cX9_ticks 0 = .ok (.iconst 0, 1) := by decide +kernel
theorem dX9_ticks_1 : decode cX9_ticks 1 = .ok (.istore_n 2, 1) := by decide +kernel
theorem dX9_ticks_2 : decode cX9_ticks 2 = .ok (.iconst 0, 1) := by decide +kernel
theorem dX9_ticks_3 : decode cX9_ticks 3 = .ok (.istore_n 3, 1) := by decide +kernel
theorem dX9_ticks_4 : decode cX9_ticks 4 = .ok (.iload_n 3, 1) := by decide +kernel
theorem dX9_ticks_5 : decode cX9_ticks 5 = .ok (.iload_n 1, 1) := by decide +kernel
theorem dX9_ticks_6 : decode cX9_ticks 6 = .ok (.if_icmp .ge 16, 3) := by decide +kernel
theorem dX9_ticks_9 : decode cX9_ticks 9 = .ok (.iload_n 2, 1) := by decide +kernel
theorem dX9_ticks_10 : decode cX9_ticks 10 = .ok (.aload_n 0, 1) := by decide +kernel
theorem dX9_ticks_11 : decode cX9_ticks 11 = .ok (.invokevirtual 92, 3) := by decide +kernel
theorem dX9_ticks_14 : decode cX9_ticks 14 = .ok (.iadd, 1) := by decide +kernel
theorem dX9_ticks_15 : decode cX9_ticks 15 = .ok (.istore_n 2, 1) := by decide +kernel
theorem dX9_ticks_16 : decode cX9_ticks 16 = .ok (.iinc 3 1, 3) := by decide +kernel
theorem dX9_ticks_19 : decode cX9_ticks 19 = .ok (.goto (-15), 3) := by decide +kernel
theorem dX9_ticks_22 : decode cX9_ticks 22 = .ok (.iload_n 2, 1) := by decide +kernel
theorem dX9_ticks_23 : decode cX9_ticks 23 = .ok (.ireturn, 1) := by decide +kernel
theorem dX9_asks_0 : decode cX9_asks 0 = .ok (.aload_n 0, 1) := by decide +kernel
theorem dX9_asks_1 : decode cX9_asks 1 = .ok (.getfield 7, 3) := by decide +kernel
theorem dX9_asks_4 : decode cX9_asks 4 = .ok (.sipush 366, 3) := by decide +kernel
theorem dX9_asks_7 : decode cX9_asks 7 = .ok (.iconst 3, 1) := by decide +kernel
theorem dX9_asks_8 : decode cX9_asks 8 = .ok (.iload_n 1, 1) := by decide +kernel
theorem dX9_asks_9 : decode cX9_asks 9 = .ok (.imul, 1) := by decide +kernel
theorem dX9_asks_10 : decode cX9_asks 10 = .ok (.iadd, 1) := by decide +kernel
theorem dX9_asks_11 : decode cX9_asks 11 = .ok (.iload_n 2, 1) := by decide +kernel
theorem dX9_asks_12 : decode cX9_asks 12 = .ok (.iastore, 1) := by decide +kernel
theorem dX9_asks_13 : decode cX9_asks 13 = .ok (.aload_n 0, 1) := by decide +kernel
theorem dX9_asks_14 : decode cX9_asks 14 = .ok (.getfield 7, 3) := by decide +kernel
theorem dX9_asks_17 : decode cX9_asks 17 = .ok (.sipush 366, 3) := by decide +kernel
theorem dX9_asks_20 : decode cX9_asks 20 = .ok (.iconst 3, 1) := by decide +kernel
theorem dX9_asks_21 : decode cX9_asks 21 = .ok (.iload_n 1, 1) := by decide +kernel
theorem dX9_asks_22 : decode cX9_asks 22 = .ok (.imul, 1) := by decide +kernel
theorem dX9_asks_23 : decode cX9_asks 23 = .ok (.iadd, 1) := by decide +kernel
theorem dX9_asks_24 : decode cX9_asks 24 = .ok (.iconst 1, 1) := by decide +kernel
theorem dX9_asks_25 : decode cX9_asks 25 = .ok (.iadd, 1) := by decide +kernel
theorem dX9_asks_26 : decode cX9_asks 26 = .ok (.iload_n 3, 1) := by decide +kernel
theorem dX9_asks_27 : decode cX9_asks 27 = .ok (.iastore, 1) := by decide +kernel
theorem dX9_asks_28 : decode cX9_asks 28 = .ok (.aload_n 0, 1) := by decide +kernel
theorem dX9_asks_29 : decode cX9_asks 29 = .ok (.getfield 7, 3) := by decide +kernel
theorem dX9_asks_32 : decode cX9_asks 32 = .ok (.sipush 366, 3) := by decide +kernel
theorem dX9_asks_35 : decode cX9_asks 35 = .ok (.iconst 3, 1) := by decide +kernel
theorem dX9_asks_36 : decode cX9_asks 36 = .ok (.iload_n 1, 1) := by decide +kernel
theorem dX9_asks_37 : decode cX9_asks 37 = .ok (.imul, 1) := by decide +kernel
theorem dX9_asks_38 : decode cX9_asks 38 = .ok (.iadd, 1) := by decide +kernel
theorem dX9_asks_39 : decode cX9_asks 39 = .ok (.iconst 2, 1) := by decide +kernel
theorem dX9_asks_40 : decode cX9_asks 40 = .ok (.iadd, 1) := by decide +kernel
theorem dX9_asks_41 : decode cX9_asks 41 = .ok (.iconst 0, 1) := by decide +kernel
theorem dX9_asks_42 : decode cX9_asks 42 = .ok (.iastore, 1) := by decide +kernel
theorem dX9_asks_43 : decode cX9_asks 43 = .ok (.aload_n 0, 1) := by decide +kernel
theorem dX9_asks_44 : decode cX9_asks 44 = .ok (.iload_n 1, 1) := by decide +kernel
theorem dX9_asks_45 : decode cX9_asks 45 = .ok (.iload_n 2, 1) := by decide +kernel
theorem dX9_asks_46 : decode cX9_asks 46 = .ok (.iload_n 3, 1) := by decide +kernel
theorem dX9_asks_47 : decode cX9_asks 47 = .ok (.ifCond .lt 7, 3) := by decide +kernel
theorem dX9_asks_50 : decode cX9_asks 50 = .ok (.iconst 1, 1) := by decide +kernel
theorem dX9_asks_51 : decode cX9_asks 51 = .ok (.goto 4, 3) := by decide +kernel
theorem dX9_asks_54 : decode cX9_asks 54 = .ok (.iconst 0, 1) := by decide +kernel
theorem dX9_asks_55 : decode cX9_asks 55 = .ok (.invokevirtual 81, 3) := by decide +kernel
theorem dX9_asks_58 : decode cX9_asks 58 = .ok (.ifCond .eq 7, 3) := by decide +kernel
theorem dX9_asks_61 : decode cX9_asks 61 = .ok (.iconst 1, 1) := by decide +kernel
theorem dX9_asks_62 : decode cX9_asks 62 = .ok (.goto 4, 3) := by decide +kernel
theorem dX9_asks_65 : decode cX9_asks 65 = .ok (.iconst 0, 1) := by decide +kernel
theorem dX9_asks_66 : decode cX9_asks 66 = .ok (.ireturn, 1) := by decide +kernel
theorem dX9_isAsking_0 : decode cX9_isAsking 0 = .ok (.aload_n 0, 1) := by decide +kernel
theorem dX9_isAsking_1 : decode cX9_isAsking 1 = .ok (.getfield 7, 3) := by decide +kernel
theorem dX9_isAsking_4 : decode cX9_isAsking 4 = .ok (.sipush 366, 3) := by decide +kernel
theorem dX9_isAsking_7 : decode cX9_isAsking 7 = .ok (.iconst 3, 1) := by decide +kernel
theorem dX9_isAsking_8 : decode cX9_isAsking 8 = .ok (.iload_n 1, 1) := by decide +kernel
theorem dX9_isAsking_9 : decode cX9_isAsking 9 = .ok (.imul, 1) := by decide +kernel
theorem dX9_isAsking_10 : decode cX9_isAsking 10 = .ok (.iadd, 1) := by decide +kernel
theorem dX9_isAsking_11 : decode cX9_isAsking 11 = .ok (.iaload, 1) := by decide +kernel
theorem dX9_isAsking_12 : decode cX9_isAsking 12 = .ok (.ifCond .lt 7, 3) := by decide +kernel
theorem dX9_isAsking_15 : decode cX9_isAsking 15 = .ok (.iconst 1, 1) := by decide +kernel
theorem dX9_isAsking_16 : decode cX9_isAsking 16 = .ok (.goto 4, 3) := by decide +kernel
theorem dX9_isAsking_19 : decode cX9_isAsking 19 = .ok (.iconst 0, 1) := by decide +kernel
theorem dX9_isAsking_20 : decode cX9_isAsking 20 = .ok (.ireturn, 1) := by decide +kernel
theorem dX9_waiting_0 : decode cX9_waiting 0 = .ok (.iconst 0, 1) := by decide +kernel
theorem dX9_waiting_1 : decode cX9_waiting 1 = .ok (.istore_n 1, 1) := by decide +kernel
theorem dX9_waiting_2 : decode cX9_waiting 2 = .ok (.iconst 0, 1) := by decide +kernel
theorem dX9_waiting_3 : decode cX9_waiting 3 = .ok (.istore_n 2, 1) := by decide +kernel
theorem dX9_waiting_4 : decode cX9_waiting 4 = .ok (.iload_n 2, 1) := by decide +kernel
theorem dX9_waiting_5 : decode cX9_waiting 5 = .ok (.aload_n 0, 1) := by decide +kernel
theorem dX9_waiting_6 : decode cX9_waiting 6 = .ok (.getfield 7, 3) := by decide +kernel
theorem dX9_waiting_9 : decode cX9_waiting 9 = .ok (.iconst 0, 1) := by decide +kernel
theorem dX9_waiting_10 : decode cX9_waiting 10 = .ok (.iaload, 1) := by decide +kernel
theorem dX9_waiting_11 : decode cX9_waiting 11 = .ok (.if_icmp .ge 25, 3) := by decide +kernel
theorem dX9_waiting_14 : decode cX9_waiting 14 = .ok (.iload_n 1, 1) := by decide +kernel
theorem dX9_waiting_15 : decode cX9_waiting 15 = .ok (.aload_n 0, 1) := by decide +kernel
theorem dX9_waiting_16 : decode cX9_waiting 16 = .ok (.iload_n 2, 1) := by decide +kernel
theorem dX9_waiting_17 : decode cX9_waiting 17 = .ok (.invokevirtual 95, 3) := by decide +kernel
theorem dX9_waiting_20 : decode cX9_waiting 20 = .ok (.ifCond .eq 7, 3) := by decide +kernel
theorem dX9_waiting_23 : decode cX9_waiting 23 = .ok (.iconst 1, 1) := by decide +kernel
theorem dX9_waiting_24 : decode cX9_waiting 24 = .ok (.goto 4, 3) := by decide +kernel
theorem dX9_waiting_27 : decode cX9_waiting 27 = .ok (.iconst 0, 1) := by decide +kernel
theorem dX9_waiting_28 : decode cX9_waiting 28 = .ok (.iadd, 1) := by decide +kernel
theorem dX9_waiting_29 : decode cX9_waiting 29 = .ok (.istore_n 1, 1) := by decide +kernel
theorem dX9_waiting_30 : decode cX9_waiting 30 = .ok (.iinc 2 1, 3) := by decide +kernel
theorem dX9_waiting_33 : decode cX9_waiting 33 = .ok (.goto (-29), 3) := by decide +kernel
theorem dX9_waiting_36 : decode cX9_waiting 36 = .ok (.iload_n 1, 1) := by decide +kernel
theorem dX9_waiting_37 : decode cX9_waiting 37 = .ok (.ireturn, 1) := by decide +kernel
theorem dX9_begin_0 : decode cX9_begin 0 = .ok (.aload_n 0, 1) := by decide +kernel
theorem dX9_begin_1 : decode cX9_begin 1 = .ok (.iconst 0, 1) := by decide +kernel
theorem dX9_begin_2 : decode cX9_begin 2 = .ok (.putfield 29, 3) := by decide +kernel
theorem dX9_begin_5 : decode cX9_begin 5 = .ok (.iload_n 1, 1) := by decide +kernel
theorem dX9_begin_6 : decode cX9_begin 6 = .ok (.iconst 2, 1) := by decide +kernel
theorem dX9_begin_7 : decode cX9_begin 7 = .ok (.bipush 6, 2) := by decide +kernel
theorem dX9_begin_9 : decode cX9_begin 9 = .ok (.invokestatic 36, 3) := by decide +kernel
theorem dX9_begin_12 : decode cX9_begin 12 = .ok (.ifCond .eq 23, 3) := by decide +kernel
theorem dX9_begin_15 : decode cX9_begin 15 = .ok (.iload_n 2, 1) := by decide +kernel
theorem dX9_begin_16 : decode cX9_begin 16 = .ok (.iconst 1, 1) := by decide +kernel
theorem dX9_begin_17 : decode cX9_begin 17 = .ok (.bipush 8, 2) := by decide +kernel
theorem dX9_begin_19 : decode cX9_begin 19 = .ok (.invokestatic 36, 3) := by decide +kernel
theorem dX9_begin_22 : decode cX9_begin 22 = .ok (.ifCond .eq 13, 3) := by decide +kernel
theorem dX9_begin_25 : decode cX9_begin 25 = .ok (.iload_n 3, 1) := by decide +kernel
theorem dX9_begin_26 : decode cX9_begin 26 = .ok (.iconst 1, 1) := by decide +kernel
theorem dX9_begin_27 : decode cX9_begin 27 = .ok (.bipush 16, 2) := by decide +kernel
theorem dX9_begin_29 : decode cX9_begin 29 = .ok (.invokestatic 36, 3) := by decide +kernel
theorem dX9_begin_32 : decode cX9_begin 32 = .ok (.ifCond .ne 9, 3) := by decide +kernel
theorem dX9_begin_35 : decode cX9_begin 35 = .ok (.aload_n 0, 1) := by decide +kernel
theorem dX9_begin_36 : decode cX9_begin 36 = .ok (.iconst 1, 1) := by decide +kernel
theorem dX9_begin_37 : decode cX9_begin 37 = .ok (.invokevirtual 99, 3) := by decide +kernel
theorem dX9_begin_40 : decode cX9_begin 40 = .ok (.ireturn, 1) := by decide +kernel
theorem dX9_begin_41 : decode cX9_begin 41 = .ok (.aload_n 0, 1) := by decide +kernel
theorem dX9_begin_42 : decode cX9_begin 42 = .ok (.invokevirtual 102, 3) := by decide +kernel
theorem dX9_begin_45 : decode cX9_begin 45 = .ok (.aload_n 0, 1) := by decide +kernel
theorem dX9_begin_46 : decode cX9_begin 46 = .ok (.getfield 7, 3) := by decide +kernel
theorem dX9_begin_49 : decode cX9_begin 49 = .ok (.iconst 4, 1) := by decide +kernel
theorem dX9_begin_50 : decode cX9_begin 50 = .ok (.iaload, 1) := by decide +kernel
theorem dX9_begin_51 : decode cX9_begin 51 = .ok (.istore 4, 2) := by decide +kernel
theorem dX9_begin_53 : decode cX9_begin 53 = .ok (.aload_n 0, 1) := by decide +kernel
theorem dX9_begin_54 : decode cX9_begin 54 = .ok (.iload_n 1, 1) := by decide +kernel
theorem dX9_begin_55 : decode cX9_begin 55 = .ok (.iload_n 2, 1) := by decide +kernel
theorem dX9_begin_56 : decode cX9_begin 56 = .ok (.iload_n 3, 1) := by decide +kernel
theorem dX9_begin_57 : decode cX9_begin 57 = .ok (.invokevirtual 25, 3) := by decide +kernel
theorem dX9_begin_60 : decode cX9_begin 60 = .ok (.iload 4, 2) := by decide +kernel
theorem dX9_begin_62 : decode cX9_begin 62 = .ok (.ireturn, 1) := by decide +kernel
theorem dX9_read_0 : decode cX9_read 0 = .ok (.aload_n 0, 1) := by decide +kernel
theorem dX9_read_1 : decode cX9_read 1 = .ok (.iconst 0, 1) := by decide +kernel
theorem dX9_read_2 : decode cX9_read 2 = .ok (.putfield 29, 3) := by decide +kernel
theorem dX9_read_5 : decode cX9_read 5 = .ok (.aload_n 0, 1) := by decide +kernel
theorem dX9_read_6 : decode cX9_read 6 = .ok (.iload_n 1, 1) := by decide +kernel
theorem dX9_read_7 : decode cX9_read 7 = .ok (.invokevirtual 105, 3) := by decide +kernel
theorem dX9_read_10 : decode cX9_read 10 = .ok (.ifCond .eq 10, 3) := by decide +kernel
theorem dX9_read_13 : decode cX9_read 13 = .ok (.iload_n 2, 1) := by decide +kernel
theorem dX9_read_14 : decode cX9_read 14 = .ok (.invokestatic 108, 3) := by decide +kernel
theorem dX9_read_17 : decode cX9_read 17 = .ok (.ifCond .ne 9, 3) := by decide +kernel
theorem dX9_read_20 : decode cX9_read 20 = .ok (.aload_n 0, 1) := by decide +kernel
theorem dX9_read_21 : decode cX9_read 21 = .ok (.iconst 1, 1) := by decide +kernel
theorem dX9_read_22 : decode cX9_read 22 = .ok (.invokevirtual 99, 3) := by decide +kernel
theorem dX9_read_25 : decode cX9_read 25 = .ok (.ireturn, 1) := by decide +kernel
theorem dX9_read_26 : decode cX9_read 26 = .ok (.aload_n 0, 1) := by decide +kernel
theorem dX9_read_27 : decode cX9_read 27 = .ok (.iload_n 1, 1) := by decide +kernel
theorem dX9_read_28 : decode cX9_read 28 = .ok (.invokevirtual 95, 3) := by decide +kernel
theorem dX9_read_31 : decode cX9_read 31 = .ok (.ifCond .eq 9, 3) := by decide +kernel
theorem dX9_read_34 : decode cX9_read 34 = .ok (.aload_n 0, 1) := by decide +kernel
theorem dX9_read_35 : decode cX9_read 35 = .ok (.iconst 2, 1) := by decide +kernel
theorem dX9_read_36 : decode cX9_read 36 = .ok (.invokevirtual 99, 3) := by decide +kernel
theorem dX9_read_39 : decode cX9_read 39 = .ok (.ireturn, 1) := by decide +kernel
theorem dX9_read_40 : decode cX9_read 40 = .ok (.aload_n 0, 1) := by decide +kernel
theorem dX9_read_41 : decode cX9_read 41 = .ok (.invokevirtual 102, 3) := by decide +kernel
theorem dX9_read_44 : decode cX9_read 44 = .ok (.aload_n 0, 1) := by decide +kernel
theorem dX9_read_45 : decode cX9_read 45 = .ok (.iload_n 1, 1) := by decide +kernel
theorem dX9_read_46 : decode cX9_read 46 = .ok (.iload_n 2, 1) := by decide +kernel
theorem dX9_read_47 : decode cX9_read 47 = .ok (.iconst (-1), 1) := by decide +kernel
theorem dX9_read_48 : decode cX9_read 48 = .ok (.invokevirtual 111, 3) := by decide +kernel
theorem dX9_read_51 : decode cX9_read 51 = .ok (.ireturn, 1) := by decide +kernel
theorem dX9_write_0 : decode cX9_write 0 = .ok (.aload_n 0, 1) := by decide +kernel
theorem dX9_write_1 : decode cX9_write 1 = .ok (.iconst 0, 1) := by decide +kernel
theorem dX9_write_2 : decode cX9_write 2 = .ok (.putfield 29, 3) := by decide +kernel
theorem dX9_write_5 : decode cX9_write 5 = .ok (.aload_n 0, 1) := by decide +kernel
theorem dX9_write_6 : decode cX9_write 6 = .ok (.iload_n 1, 1) := by decide +kernel
theorem dX9_write_7 : decode cX9_write 7 = .ok (.invokevirtual 105, 3) := by decide +kernel
theorem dX9_write_10 : decode cX9_write 10 = .ok (.ifCond .eq 10, 3) := by decide +kernel
theorem dX9_write_13 : decode cX9_write 13 = .ok (.iload_n 2, 1) := by decide +kernel
theorem dX9_write_14 : decode cX9_write 14 = .ok (.invokestatic 108, 3) := by decide +kernel
theorem dX9_write_17 : decode cX9_write 17 = .ok (.ifCond .ne 9, 3) := by decide +kernel
theorem dX9_write_20 : decode cX9_write 20 = .ok (.aload_n 0, 1) := by decide +kernel
theorem dX9_write_21 : decode cX9_write 21 = .ok (.iconst 1, 1) := by decide +kernel
theorem dX9_write_22 : decode cX9_write 22 = .ok (.invokevirtual 99, 3) := by decide +kernel
theorem dX9_write_25 : decode cX9_write 25 = .ok (.ireturn, 1) := by decide +kernel
theorem dX9_write_26 : decode cX9_write 26 = .ok (.iload_n 3, 1) := by decide +kernel
theorem dX9_write_27 : decode cX9_write 27 = .ok (.iconst 0, 1) := by decide +kernel
theorem dX9_write_28 : decode cX9_write 28 = .ok (.sipush 999, 3) := by decide +kernel
theorem dX9_write_31 : decode cX9_write 31 = .ok (.invokestatic 36, 3) := by decide +kernel
theorem dX9_write_34 : decode cX9_write 34 = .ok (.ifCond .ne 9, 3) := by decide +kernel
theorem dX9_write_37 : decode cX9_write 37 = .ok (.aload_n 0, 1) := by decide +kernel
theorem dX9_write_38 : decode cX9_write 38 = .ok (.iconst 2, 1) := by decide +kernel
theorem dX9_write_39 : decode cX9_write 39 = .ok (.invokevirtual 99, 3) := by decide +kernel
theorem dX9_write_42 : decode cX9_write 42 = .ok (.ireturn, 1) := by decide +kernel
theorem dX9_write_43 : decode cX9_write 43 = .ok (.aload_n 0, 1) := by decide +kernel
theorem dX9_write_44 : decode cX9_write 44 = .ok (.iload_n 1, 1) := by decide +kernel
theorem dX9_write_45 : decode cX9_write 45 = .ok (.invokevirtual 95, 3) := by decide +kernel
theorem dX9_write_48 : decode cX9_write 48 = .ok (.ifCond .eq 9, 3) := by decide +kernel
theorem dX9_write_51 : decode cX9_write 51 = .ok (.aload_n 0, 1) := by decide +kernel
theorem dX9_write_52 : decode cX9_write 52 = .ok (.iconst 3, 1) := by decide +kernel
theorem dX9_write_53 : decode cX9_write 53 = .ok (.invokevirtual 99, 3) := by decide +kernel
theorem dX9_write_56 : decode cX9_write 56 = .ok (.ireturn, 1) := by decide +kernel
theorem dX9_write_57 : decode cX9_write 57 = .ok (.aload_n 0, 1) := by decide +kernel
theorem dX9_write_58 : decode cX9_write 58 = .ok (.invokevirtual 102, 3) := by decide +kernel
theorem dX9_write_61 : decode cX9_write 61 = .ok (.aload_n 0, 1) := by decide +kernel
theorem dX9_write_62 : decode cX9_write 62 = .ok (.iload_n 1, 1) := by decide +kernel
theorem dX9_write_63 : decode cX9_write 63 = .ok (.iload_n 2, 1) := by decide +kernel
theorem dX9_write_64 : decode cX9_write 64 = .ok (.iload_n 3, 1) := by decide +kernel
theorem dX9_write_65 : decode cX9_write 65 = .ok (.invokevirtual 111, 3) := by decide +kernel
theorem dX9_write_68 : decode cX9_write 68 = .ok (.ireturn, 1) := by decide +kernel
theorem dX9_takeBack_0 : decode cX9_takeBack 0 = .ok (.aload_n 0, 1) := by decide +kernel
theorem dX9_takeBack_1 : decode cX9_takeBack 1 = .ok (.iconst 0, 1) := by decide +kernel
theorem dX9_takeBack_2 : decode cX9_takeBack 2 = .ok (.putfield 29, 3) := by decide +kernel
theorem dX9_takeBack_5 : decode cX9_takeBack 5 = .ok (.aload_n 0, 1) := by decide +kernel
theorem dX9_takeBack_6 : decode cX9_takeBack 6 = .ok (.iload_n 1, 1) := by decide +kernel
theorem dX9_takeBack_7 : decode cX9_takeBack 7 = .ok (.invokevirtual 105, 3) := by decide +kernel
theorem dX9_takeBack_10 : decode cX9_takeBack 10 = .ok (.ifCond .ne 9, 3) := by decide +kernel
theorem dX9_takeBack_13 : decode cX9_takeBack 13 = .ok (.aload_n 0, 1) := by decide +kernel
theorem dX9_takeBack_14 : decode cX9_takeBack 14 = .ok (.iconst 1, 1) := by decide +kernel
theorem dX9_takeBack_15 : decode cX9_takeBack 15 = .ok (.invokevirtual 99, 3) := by decide +kernel
theorem dX9_takeBack_18 : decode cX9_takeBack 18 = .ok (.ireturn, 1) := by decide +kernel
theorem dX9_takeBack_19 : decode cX9_takeBack 19 = .ok (.aload_n 0, 1) := by decide +kernel
theorem dX9_takeBack_20 : decode cX9_takeBack 20 = .ok (.iload_n 1, 1) := by decide +kernel
theorem dX9_takeBack_21 : decode cX9_takeBack 21 = .ok (.invokevirtual 95, 3) := by decide +kernel
theorem dX9_takeBack_24 : decode cX9_takeBack 24 = .ok (.ifCond .ne 9, 3) := by decide +kernel
theorem dX9_takeBack_27 : decode cX9_takeBack 27 = .ok (.aload_n 0, 1) := by decide +kernel
theorem dX9_takeBack_28 : decode cX9_takeBack 28 = .ok (.iconst 2, 1) := by decide +kernel
theorem dX9_takeBack_29 : decode cX9_takeBack 29 = .ok (.invokevirtual 99, 3) := by decide +kernel
theorem dX9_takeBack_32 : decode cX9_takeBack 32 = .ok (.ireturn, 1) := by decide +kernel
theorem dX9_takeBack_33 : decode cX9_takeBack 33 = .ok (.aload_n 0, 1) := by decide +kernel
theorem dX9_takeBack_34 : decode cX9_takeBack 34 = .ok (.invokevirtual 102, 3) := by decide +kernel
theorem dX9_takeBack_37 : decode cX9_takeBack 37 = .ok (.aload_n 0, 1) := by decide +kernel
theorem dX9_takeBack_38 : decode cX9_takeBack 38 = .ok (.getfield 7, 3) := by decide +kernel
theorem dX9_takeBack_41 : decode cX9_takeBack 41 = .ok (.sipush 366, 3) := by decide +kernel
theorem dX9_takeBack_44 : decode cX9_takeBack 44 = .ok (.iconst 3, 1) := by decide +kernel
theorem dX9_takeBack_45 : decode cX9_takeBack 45 = .ok (.iload_n 1, 1) := by decide +kernel
theorem dX9_takeBack_46 : decode cX9_takeBack 46 = .ok (.imul, 1) := by decide +kernel
theorem dX9_takeBack_47 : decode cX9_takeBack 47 = .ok (.iadd, 1) := by decide +kernel
theorem dX9_takeBack_48 : decode cX9_takeBack 48 = .ok (.iaload, 1) := by decide +kernel
theorem dX9_takeBack_49 : decode cX9_takeBack 49 = .ok (.istore_n 2, 1) := by decide +kernel
theorem dX9_takeBack_50 : decode cX9_takeBack 50 = .ok (.aload_n 0, 1) := by decide +kernel
theorem dX9_takeBack_51 : decode cX9_takeBack 51 = .ok (.getfield 7, 3) := by decide +kernel
theorem dX9_takeBack_54 : decode cX9_takeBack 54 = .ok (.sipush 366, 3) := by decide +kernel
theorem dX9_takeBack_57 : decode cX9_takeBack 57 = .ok (.iconst 3, 1) := by decide +kernel
theorem dX9_takeBack_58 : decode cX9_takeBack 58 = .ok (.iload_n 1, 1) := by decide +kernel
theorem dX9_takeBack_59 : decode cX9_takeBack 59 = .ok (.imul, 1) := by decide +kernel
theorem dX9_takeBack_60 : decode cX9_takeBack 60 = .ok (.iadd, 1) := by decide +kernel
theorem dX9_takeBack_61 : decode cX9_takeBack 61 = .ok (.iconst (-1), 1) := by decide +kernel
theorem dX9_takeBack_62 : decode cX9_takeBack 62 = .ok (.iastore, 1) := by decide +kernel
theorem dX9_takeBack_63 : decode cX9_takeBack 63 = .ok (.iload_n 2, 1) := by decide +kernel
theorem dX9_takeBack_64 : decode cX9_takeBack 64 = .ok (.ireturn, 1) := by decide +kernel
theorem dX9_pass_0 : decode cX9_pass 0 = .ok (.aload_n 0, 1) := by decide +kernel
theorem dX9_pass_1 : decode cX9_pass 1 = .ok (.iconst 0, 1) := by decide +kernel
theorem dX9_pass_2 : decode cX9_pass 2 = .ok (.putfield 29, 3) := by decide +kernel
theorem dX9_pass_5 : decode cX9_pass 5 = .ok (.iload_n 1, 1) := by decide +kernel
theorem dX9_pass_6 : decode cX9_pass 6 = .ok (.iconst 1, 1) := by decide +kernel
theorem dX9_pass_7 : decode cX9_pass 7 = .ok (.bipush 100, 2) := by decide +kernel
theorem dX9_pass_9 : decode cX9_pass 9 = .ok (.invokestatic 36, 3) := by decide +kernel
theorem dX9_pass_12 : decode cX9_pass 12 = .ok (.ifCond .ne 9, 3) := by decide +kernel
theorem dX9_pass_15 : decode cX9_pass 15 = .ok (.aload_n 0, 1) := by decide +kernel
theorem dX9_pass_16 : decode cX9_pass 16 = .ok (.iconst 1, 1) := by decide +kernel
theorem dX9_pass_17 : decode cX9_pass 17 = .ok (.invokevirtual 99, 3) := by decide +kernel
theorem dX9_pass_20 : decode cX9_pass 20 = .ok (.ireturn, 1) := by decide +kernel
theorem dX9_pass_21 : decode cX9_pass 21 = .ok (.aload_n 0, 1) := by decide +kernel
theorem dX9_pass_22 : decode cX9_pass 22 = .ok (.getfield 7, 3) := by decide +kernel
theorem dX9_pass_25 : decode cX9_pass 25 = .ok (.iconst 4, 1) := by decide +kernel
theorem dX9_pass_26 : decode cX9_pass 26 = .ok (.iaload, 1) := by decide +kernel
theorem dX9_pass_27 : decode cX9_pass 27 = .ok (.iload_n 1, 1) := by decide +kernel
theorem dX9_pass_28 : decode cX9_pass 28 = .ok (.iadd, 1) := by decide +kernel
theorem dX9_pass_29 : decode cX9_pass 29 = .ok (.ldc 114, 2) := by decide +kernel
theorem dX9_pass_31 : decode cX9_pass 31 = .ok (.if_icmp .le 9, 3) := by decide +kernel
theorem dX9_pass_34 : decode cX9_pass 34 = .ok (.aload_n 0, 1) := by decide +kernel
theorem dX9_pass_35 : decode cX9_pass 35 = .ok (.iconst 2, 1) := by decide +kernel
theorem dX9_pass_36 : decode cX9_pass 36 = .ok (.invokevirtual 99, 3) := by decide +kernel
theorem dX9_pass_39 : decode cX9_pass 39 = .ok (.ireturn, 1) := by decide +kernel
theorem dX9_pass_40 : decode cX9_pass 40 = .ok (.aload_n 0, 1) := by decide +kernel
theorem dX9_pass_41 : decode cX9_pass 41 = .ok (.invokevirtual 102, 3) := by decide +kernel
theorem dX9_pass_44 : decode cX9_pass 44 = .ok (.aload_n 0, 1) := by decide +kernel
theorem dX9_pass_45 : decode cX9_pass 45 = .ok (.iload_n 1, 1) := by decide +kernel
theorem dX9_pass_46 : decode cX9_pass 46 = .ok (.invokevirtual 115, 3) := by decide +kernel
theorem dX9_pass_49 : decode cX9_pass 49 = .ok (.ireturn, 1) := by decide +kernel
theorem dX9_drop_0 : decode cX9_drop 0 = .ok (.aload_n 0, 1) := by decide +kernel
theorem dX9_drop_1 : decode cX9_drop 1 = .ok (.iconst 0, 1) := by decide +kernel
theorem dX9_drop_2 : decode cX9_drop 2 = .ok (.putfield 29, 3) := by decide +kernel
theorem dX9_drop_5 : decode cX9_drop 5 = .ok (.aload_n 0, 1) := by decide +kernel
theorem dX9_drop_6 : decode cX9_drop 6 = .ok (.iload_n 1, 1) := by decide +kernel
theorem dX9_drop_7 : decode cX9_drop 7 = .ok (.invokevirtual 105, 3) := by decide +kernel
theorem dX9_drop_10 : decode cX9_drop 10 = .ok (.ifCond .eq 10, 3) := by decide +kernel
theorem dX9_drop_13 : decode cX9_drop 13 = .ok (.iload_n 2, 1) := by decide +kernel
theorem dX9_drop_14 : decode cX9_drop 14 = .ok (.invokestatic 108, 3) := by decide +kernel
theorem dX9_drop_17 : decode cX9_drop 17 = .ok (.ifCond .ne 9, 3) := by decide +kernel
theorem dX9_drop_20 : decode cX9_drop 20 = .ok (.aload_n 0, 1) := by decide +kernel
theorem dX9_drop_21 : decode cX9_drop 21 = .ok (.iconst 1, 1) := by decide +kernel
theorem dX9_drop_22 : decode cX9_drop 22 = .ok (.invokevirtual 99, 3) := by decide +kernel
theorem dX9_drop_25 : decode cX9_drop 25 = .ok (.ireturn, 1) := by decide +kernel
theorem dX9_drop_26 : decode cX9_drop 26 = .ok (.aload_n 0, 1) := by decide +kernel
theorem dX9_drop_27 : decode cX9_drop 27 = .ok (.iload_n 1, 1) := by decide +kernel
theorem dX9_drop_28 : decode cX9_drop 28 = .ok (.iload_n 2, 1) := by decide +kernel
theorem dX9_drop_29 : decode cX9_drop 29 = .ok (.invokevirtual 52, 3) := by decide +kernel
theorem dX9_drop_32 : decode cX9_drop 32 = .ok (.istore_n 3, 1) := by decide +kernel
theorem dX9_drop_33 : decode cX9_drop 33 = .ok (.iload_n 3, 1) := by decide +kernel
theorem dX9_drop_34 : decode cX9_drop 34 = .ok (.ifCond .ge 9, 3) := by decide +kernel
theorem dX9_drop_37 : decode cX9_drop 37 = .ok (.aload_n 0, 1) := by decide +kernel
theorem dX9_drop_38 : decode cX9_drop 38 = .ok (.iconst 2, 1) := by decide +kernel
theorem dX9_drop_39 : decode cX9_drop 39 = .ok (.invokevirtual 99, 3) := by decide +kernel
theorem dX9_drop_42 : decode cX9_drop 42 = .ok (.ireturn, 1) := by decide +kernel
theorem dX9_drop_43 : decode cX9_drop 43 = .ok (.aload_n 0, 1) := by decide +kernel
theorem dX9_drop_44 : decode cX9_drop 44 = .ok (.invokevirtual 102, 3) := by decide +kernel
theorem dX9_drop_47 : decode cX9_drop 47 = .ok (.aload_n 0, 1) := by decide +kernel
theorem dX9_drop_48 : decode cX9_drop 48 = .ok (.iload_n 1, 1) := by decide +kernel
theorem dX9_drop_49 : decode cX9_drop 49 = .ok (.iload_n 3, 1) := by decide +kernel
theorem dX9_drop_50 : decode cX9_drop 50 = .ok (.invokevirtual 78, 3) := by decide +kernel
theorem dX9_drop_53 : decode cX9_drop 53 = .ok (.istore 4, 2) := by decide +kernel
theorem dX9_drop_55 : decode cX9_drop 55 = .ok (.aload_n 0, 1) := by decide +kernel
theorem dX9_drop_56 : decode cX9_drop 56 = .ok (.getfield 7, 3) := by decide +kernel
theorem dX9_drop_59 : decode cX9_drop 59 = .ok (.iconst 5, 1) := by decide +kernel
theorem dX9_drop_60 : decode cX9_drop 60 = .ok (.dup2, 1) := by decide +kernel
theorem dX9_drop_61 : decode cX9_drop 61 = .ok (.iaload, 1) := by decide +kernel
theorem dX9_drop_62 : decode cX9_drop 62 = .ok (.iload 4, 2) := by decide +kernel
theorem dX9_drop_64 : decode cX9_drop 64 = .ok (.iadd, 1) := by decide +kernel
theorem dX9_drop_65 : decode cX9_drop 65 = .ok (.iastore, 1) := by decide +kernel
theorem dX9_drop_66 : decode cX9_drop 66 = .ok (.iload 4, 2) := by decide +kernel
theorem dX9_drop_68 : decode cX9_drop 68 = .ok (.ireturn, 1) := by decide +kernel
theorem dX9_ones_0 : decode cX9_ones 0 = .ok (.iconst 0, 1) := by decide +kernel
theorem dX9_ones_1 : decode cX9_ones 1 = .ok (.istore_n 1, 1) := by decide +kernel
theorem dX9_ones_2 : decode cX9_ones 2 = .ok (.iload_n 0, 1) := by decide +kernel
theorem dX9_ones_3 : decode cX9_ones 3 = .ok (.istore_n 2, 1) := by decide +kernel
theorem dX9_ones_4 : decode cX9_ones 4 = .ok (.iload_n 2, 1) := by decide +kernel
theorem dX9_ones_5 : decode cX9_ones 5 = .ok (.ifCond .eq 15, 3) := by decide +kernel
theorem dX9_ones_8 : decode cX9_ones 8 = .ok (.iinc 1 1, 3) := by decide +kernel
theorem dX9_ones_11 : decode cX9_ones 11 = .ok (.iload_n 2, 1) := by decide +kernel
theorem dX9_ones_12 : decode cX9_ones 12 = .ok (.iload_n 2, 1) := by decide +kernel
theorem dX9_ones_13 : decode cX9_ones 13 = .ok (.iconst 1, 1) := by decide +kernel
theorem dX9_ones_14 : decode cX9_ones 14 = .ok (.isub, 1) := by decide +kernel
theorem dX9_ones_15 : decode cX9_ones 15 = .ok (.iand, 1) := by decide +kernel
theorem dX9_ones_16 : decode cX9_ones 16 = .ok (.istore_n 2, 1) := by decide +kernel
theorem dX9_ones_17 : decode cX9_ones 17 = .ok (.goto (-13), 3) := by decide +kernel
theorem dX9_ones_20 : decode cX9_ones 20 = .ok (.iload_n 1, 1) := by decide +kernel
theorem dX9_ones_21 : decode cX9_ones 21 = .ok (.ireturn, 1) := by decide +kernel
theorem dX9_tear_0 : decode cX9_tear 0 = .ok (.aload_n 0, 1) := by decide +kernel
theorem dX9_tear_1 : decode cX9_tear 1 = .ok (.iconst 0, 1) := by decide +kernel
theorem dX9_tear_2 : decode cX9_tear 2 = .ok (.putfield 29, 3) := by decide +kernel
theorem dX9_tear_5 : decode cX9_tear 5 = .ok (.iload_n 1, 1) := by decide +kernel
theorem dX9_tear_6 : decode cX9_tear 6 = .ok (.invokestatic 108, 3) := by decide +kernel
theorem dX9_tear_9 : decode cX9_tear 9 = .ok (.ifCond .ne 9, 3) := by decide +kernel
theorem dX9_tear_12 : decode cX9_tear 12 = .ok (.aload_n 0, 1) := by decide +kernel
theorem dX9_tear_13 : decode cX9_tear 13 = .ok (.iconst 1, 1) := by decide +kernel
theorem dX9_tear_14 : decode cX9_tear 14 = .ok (.invokevirtual 99, 3) := by decide +kernel
theorem dX9_tear_17 : decode cX9_tear 17 = .ok (.ireturn, 1) := by decide +kernel
theorem dX9_tear_18 : decode cX9_tear 18 = .ok (.aload_n 0, 1) := by decide +kernel
theorem dX9_tear_19 : decode cX9_tear 19 = .ok (.iload_n 1, 1) := by decide +kernel
theorem dX9_tear_20 : decode cX9_tear 20 = .ok (.invokevirtual 48, 3) := by decide +kernel
theorem dX9_tear_23 : decode cX9_tear 23 = .ok (.istore_n 2, 1) := by decide +kernel
theorem dX9_tear_24 : decode cX9_tear 24 = .ok (.iload_n 2, 1) := by decide +kernel
theorem dX9_tear_25 : decode cX9_tear 25 = .ok (.ifCond .ge 9, 3) := by decide +kernel
theorem dX9_tear_28 : decode cX9_tear 28 = .ok (.aload_n 0, 1) := by decide +kernel
theorem dX9_tear_29 : decode cX9_tear 29 = .ok (.iconst 2, 1) := by decide +kernel
theorem dX9_tear_30 : decode cX9_tear 30 = .ok (.invokevirtual 99, 3) := by decide +kernel
theorem dX9_tear_33 : decode cX9_tear 33 = .ok (.ireturn, 1) := by decide +kernel
theorem dX9_tear_34 : decode cX9_tear 34 = .ok (.aload_n 0, 1) := by decide +kernel
theorem dX9_tear_35 : decode cX9_tear 35 = .ok (.invokevirtual 102, 3) := by decide +kernel
theorem dX9_tear_38 : decode cX9_tear 38 = .ok (.aload_n 0, 1) := by decide +kernel
theorem dX9_tear_39 : decode cX9_tear 39 = .ok (.getfield 7, 3) := by decide +kernel
theorem dX9_tear_42 : decode cX9_tear 42 = .ok (.iload_n 2, 1) := by decide +kernel
theorem dX9_tear_43 : decode cX9_tear 43 = .ok (.iconst 2, 1) := by decide +kernel
theorem dX9_tear_44 : decode cX9_tear 44 = .ok (.iadd, 1) := by decide +kernel
theorem dX9_tear_45 : decode cX9_tear 45 = .ok (.iaload, 1) := by decide +kernel
theorem dX9_tear_46 : decode cX9_tear 46 = .ok (.invokestatic 118, 3) := by decide +kernel
theorem dX9_tear_49 : decode cX9_tear 49 = .ok (.aload_n 0, 1) := by decide +kernel
theorem dX9_tear_50 : decode cX9_tear 50 = .ok (.getfield 7, 3) := by decide +kernel
theorem dX9_tear_53 : decode cX9_tear 53 = .ok (.iload_n 2, 1) := by decide +kernel
theorem dX9_tear_54 : decode cX9_tear 54 = .ok (.iconst 1, 1) := by decide +kernel
theorem dX9_tear_55 : decode cX9_tear 55 = .ok (.iadd, 1) := by decide +kernel
theorem dX9_tear_56 : decode cX9_tear 56 = .ok (.iaload, 1) := by decide +kernel
theorem dX9_tear_57 : decode cX9_tear 57 = .ok (.ifCond .lt 7, 3) := by decide +kernel
theorem dX9_tear_60 : decode cX9_tear 60 = .ok (.iconst 1, 1) := by decide +kernel
theorem dX9_tear_61 : decode cX9_tear 61 = .ok (.goto 4, 3) := by decide +kernel
theorem dX9_tear_64 : decode cX9_tear 64 = .ok (.iconst 0, 1) := by decide +kernel
theorem dX9_tear_65 : decode cX9_tear 65 = .ok (.iadd, 1) := by decide +kernel
theorem dX9_tear_66 : decode cX9_tear 66 = .ok (.istore_n 3, 1) := by decide +kernel
theorem dX9_tear_67 : decode cX9_tear 67 = .ok (.aload_n 0, 1) := by decide +kernel
theorem dX9_tear_68 : decode cX9_tear 68 = .ok (.iload_n 2, 1) := by decide +kernel
theorem dX9_tear_69 : decode cX9_tear 69 = .ok (.invokevirtual 59, 3) := by decide +kernel
theorem dX9_tear_72 : decode cX9_tear 72 = .ok (.iload_n 3, 1) := by decide +kernel
theorem dX9_tear_73 : decode cX9_tear 73 = .ok (.ireturn, 1) := by decide +kernel
theorem dX9_aboutCopy_0 : decode cX9_aboutCopy 0 = .ok (.aload_n 0, 1) := by decide +kernel
theorem dX9_aboutCopy_1 : decode cX9_aboutCopy 1 = .ok (.iload_n 1, 1) := by decide +kernel
theorem dX9_aboutCopy_2 : decode cX9_aboutCopy 2 = .ok (.iload_n 2, 1) := by decide +kernel
theorem dX9_aboutCopy_3 : decode cX9_aboutCopy 3 = .ok (.invokevirtual 52, 3) := by decide +kernel
theorem dX9_aboutCopy_6 : decode cX9_aboutCopy 6 = .ok (.istore 4, 2) := by decide +kernel
theorem dX9_aboutCopy_8 : decode cX9_aboutCopy 8 = .ok (.iload 4, 2) := by decide +kernel
theorem dX9_aboutCopy_10 : decode cX9_aboutCopy 10 = .ok (.ifCond .ge 13, 3) := by decide +kernel
theorem dX9_aboutCopy_13 : decode cX9_aboutCopy 13 = .ok (.iload_n 3, 1) := by decide +kernel
theorem dX9_aboutCopy_14 : decode cX9_aboutCopy 14 = .ok (.ifCond .ne 7, 3) := by decide +kernel
theorem dX9_aboutCopy_17 : decode cX9_aboutCopy 17 = .ok (.iconst 0, 1) := by decide +kernel
theorem dX9_aboutCopy_18 : decode cX9_aboutCopy 18 = .ok (.goto 4, 3) := by decide +kernel
theorem dX9_aboutCopy_21 : decode cX9_aboutCopy 21 = .ok (.iconst (-1), 1) := by decide +kernel
theorem dX9_aboutCopy_22 : decode cX9_aboutCopy 22 = .ok (.ireturn, 1) := by decide +kernel
theorem dX9_aboutCopy_23 : decode cX9_aboutCopy 23 = .ok (.iload_n 3, 1) := by decide +kernel
theorem dX9_aboutCopy_24 : decode cX9_aboutCopy 24 = .ok (.iconst 2, 1) := by decide +kernel
theorem dX9_aboutCopy_25 : decode cX9_aboutCopy 25 = .ok (.if_icmp .ne 14, 3) := by decide +kernel
theorem dX9_aboutCopy_28 : decode cX9_aboutCopy 28 = .ok (.iload 4, 2) := by decide +kernel
theorem dX9_aboutCopy_30 : decode cX9_aboutCopy 30 = .ok (.iload_n 1, 1) := by decide +kernel
theorem dX9_aboutCopy_31 : decode cX9_aboutCopy 31 = .ok (.iconst 0, 1) := by decide +kernel
theorem dX9_aboutCopy_32 : decode cX9_aboutCopy 32 = .ok (.invokestatic 40, 3) := by decide +kernel
theorem dX9_aboutCopy_35 : decode cX9_aboutCopy 35 = .ok (.isub, 1) := by decide +kernel
theorem dX9_aboutCopy_36 : decode cX9_aboutCopy 36 = .ok (.iconst 4, 1) := by decide +kernel
theorem dX9_aboutCopy_37 : decode cX9_aboutCopy 37 = .ok (.idiv, 1) := by decide +kernel
theorem dX9_aboutCopy_38 : decode cX9_aboutCopy 38 = .ok (.ireturn, 1) := by decide +kernel
theorem dX9_aboutCopy_39 : decode cX9_aboutCopy 39 = .ok (.iconst 0, 1) := by decide +kernel
theorem dX9_aboutCopy_40 : decode cX9_aboutCopy 40 = .ok (.istore 5, 2) := by decide +kernel
theorem dX9_aboutCopy_42 : decode cX9_aboutCopy 42 = .ok (.iconst 0, 1) := by decide +kernel
theorem dX9_aboutCopy_43 : decode cX9_aboutCopy 43 = .ok (.istore 6, 2) := by decide +kernel
theorem dX9_aboutCopy_45 : decode cX9_aboutCopy 45 = .ok (.iload 6, 2) := by decide +kernel
theorem dX9_aboutCopy_47 : decode cX9_aboutCopy 47 = .ok (.aload_n 0, 1) := by decide +kernel
theorem dX9_aboutCopy_48 : decode cX9_aboutCopy 48 = .ok (.getfield 7, 3) := by decide +kernel
theorem dX9_aboutCopy_51 : decode cX9_aboutCopy 51 = .ok (.iconst 1, 1) := by decide +kernel
theorem dX9_aboutCopy_52 : decode cX9_aboutCopy 52 = .ok (.iaload, 1) := by decide +kernel
theorem dX9_aboutCopy_53 : decode cX9_aboutCopy 53 = .ok (.if_icmp .ge 58, 3) := by decide +kernel
theorem dX9_aboutCopy_56 : decode cX9_aboutCopy 56 = .ok (.iload 5, 2) := by decide +kernel
theorem dX9_aboutCopy_58 : decode cX9_aboutCopy 58 = .ok (.aload_n 0, 1) := by decide +kernel
theorem dX9_aboutCopy_59 : decode cX9_aboutCopy 59 = .ok (.getfield 7, 3) := by decide +kernel
theorem dX9_aboutCopy_62 : decode cX9_aboutCopy 62 = .ok (.iload_n 1, 1) := by decide +kernel
theorem dX9_aboutCopy_63 : decode cX9_aboutCopy 63 = .ok (.iload 6, 2) := by decide +kernel
theorem dX9_aboutCopy_65 : decode cX9_aboutCopy 65 = .ok (.invokestatic 40, 3) := by decide +kernel
theorem dX9_aboutCopy_68 : decode cX9_aboutCopy 68 = .ok (.iaload, 1) := by decide +kernel
theorem dX9_aboutCopy_69 : decode cX9_aboutCopy 69 = .ok (.ifCond .lt 32, 3) := by decide +kernel
theorem dX9_aboutCopy_72 : decode cX9_aboutCopy 72 = .ok (.aload_n 0, 1) := by decide +kernel
theorem dX9_aboutCopy_73 : decode cX9_aboutCopy 73 = .ok (.getfield 7, 3) := by decide +kernel
theorem dX9_aboutCopy_76 : decode cX9_aboutCopy 76 = .ok (.iload_n 1, 1) := by decide +kernel
theorem dX9_aboutCopy_77 : decode cX9_aboutCopy 77 = .ok (.iload 6, 2) := by decide +kernel
theorem dX9_aboutCopy_79 : decode cX9_aboutCopy 79 = .ok (.invokestatic 40, 3) := by decide +kernel
theorem dX9_aboutCopy_82 : decode cX9_aboutCopy 82 = .ok (.iconst 3, 1) := by decide +kernel
theorem dX9_aboutCopy_83 : decode cX9_aboutCopy 83 = .ok (.iadd, 1) := by decide +kernel
theorem dX9_aboutCopy_84 : decode cX9_aboutCopy 84 = .ok (.iaload, 1) := by decide +kernel
theorem dX9_aboutCopy_85 : decode cX9_aboutCopy 85 = .ok (.aload_n 0, 1) := by decide +kernel
theorem dX9_aboutCopy_86 : decode cX9_aboutCopy 86 = .ok (.getfield 7, 3) := by decide +kernel
theorem dX9_aboutCopy_89 : decode cX9_aboutCopy 89 = .ok (.iload 4, 2) := by decide +kernel
theorem dX9_aboutCopy_91 : decode cX9_aboutCopy 91 = .ok (.iconst 3, 1) := by decide +kernel
theorem dX9_aboutCopy_92 : decode cX9_aboutCopy 92 = .ok (.iadd, 1) := by decide +kernel
theorem dX9_aboutCopy_93 : decode cX9_aboutCopy 93 = .ok (.iaload, 1) := by decide +kernel
theorem dX9_aboutCopy_94 : decode cX9_aboutCopy 94 = .ok (.if_icmp .le 7, 3) := by decide +kernel
theorem dX9_aboutCopy_97 : decode cX9_aboutCopy 97 = .ok (.iconst 1, 1) := by decide +kernel
theorem dX9_aboutCopy_98 : decode cX9_aboutCopy 98 = .ok (.goto 4, 3) := by decide +kernel
theorem dX9_aboutCopy_101 : decode cX9_aboutCopy 101 = .ok (.iconst 0, 1) := by decide +kernel
theorem dX9_aboutCopy_102 : decode cX9_aboutCopy 102 = .ok (.iadd, 1) := by decide +kernel
theorem dX9_aboutCopy_103 : decode cX9_aboutCopy 103 = .ok (.istore 5, 2) := by decide +kernel
theorem dX9_aboutCopy_105 : decode cX9_aboutCopy 105 = .ok (.iinc 6 1, 3) := by decide +kernel
theorem dX9_aboutCopy_108 : decode cX9_aboutCopy 108 = .ok (.goto (-63), 3) := by decide +kernel
theorem dX9_aboutCopy_111 : decode cX9_aboutCopy 111 = .ok (.iload_n 3, 1) := by decide +kernel
theorem dX9_aboutCopy_112 : decode cX9_aboutCopy 112 = .ok (.ifCond .ne 15, 3) := by decide +kernel
theorem dX9_aboutCopy_115 : decode cX9_aboutCopy 115 = .ok (.aload_n 0, 1) := by decide +kernel
theorem dX9_aboutCopy_116 : decode cX9_aboutCopy 116 = .ok (.getfield 7, 3) := by decide +kernel
theorem dX9_aboutCopy_119 : decode cX9_aboutCopy 119 = .ok (.iload 4, 2) := by decide +kernel
theorem dX9_aboutCopy_121 : decode cX9_aboutCopy 121 = .ok (.iconst 1, 1) := by decide +kernel
theorem dX9_aboutCopy_122 : decode cX9_aboutCopy 122 = .ok (.iadd, 1) := by decide +kernel
theorem dX9_aboutCopy_123 : decode cX9_aboutCopy 123 = .ok (.iaload, 1) := by decide +kernel
theorem dX9_aboutCopy_124 : decode cX9_aboutCopy 124 = .ok (.goto 22, 3) := by decide +kernel
theorem dX9_aboutCopy_127 : decode cX9_aboutCopy 127 = .ok (.iload_n 3, 1) := by decide +kernel
theorem dX9_aboutCopy_128 : decode cX9_aboutCopy 128 = .ok (.iconst 1, 1) := by decide +kernel
theorem dX9_aboutCopy_129 : decode cX9_aboutCopy 129 = .ok (.if_icmp .ne 15, 3) := by decide +kernel
theorem dX9_aboutCopy_132 : decode cX9_aboutCopy 132 = .ok (.aload_n 0, 1) := by decide +kernel
theorem dX9_aboutCopy_133 : decode cX9_aboutCopy 133 = .ok (.getfield 7, 3) := by decide +kernel
theorem dX9_aboutCopy_136 : decode cX9_aboutCopy 136 = .ok (.iload 4, 2) := by decide +kernel
theorem dX9_aboutCopy_138 : decode cX9_aboutCopy 138 = .ok (.iconst 2, 1) := by decide +kernel
theorem dX9_aboutCopy_139 : decode cX9_aboutCopy 139 = .ok (.iadd, 1) := by decide +kernel
theorem dX9_aboutCopy_140 : decode cX9_aboutCopy 140 = .ok (.iaload, 1) := by decide +kernel
theorem dX9_aboutCopy_141 : decode cX9_aboutCopy 141 = .ok (.goto 5, 3) := by decide +kernel
theorem dX9_aboutCopy_144 : decode cX9_aboutCopy 144 = .ok (.iload 5, 2) := by decide +kernel
theorem dX9_aboutCopy_146 : decode cX9_aboutCopy 146 = .ok (.ireturn, 1) := by decide +kernel
theorem dX9_copy_0 : decode cX9_copy 0 = .ok (.aload_n 0, 1) := by decide +kernel
theorem dX9_copy_1 : decode cX9_copy 1 = .ok (.iconst 0, 1) := by decide +kernel
theorem dX9_copy_2 : decode cX9_copy 2 = .ok (.putfield 29, 3) := by decide +kernel
theorem dX9_copy_5 : decode cX9_copy 5 = .ok (.aload_n 0, 1) := by decide +kernel
theorem dX9_copy_6 : decode cX9_copy 6 = .ok (.iload_n 1, 1) := by decide +kernel
theorem dX9_copy_7 : decode cX9_copy 7 = .ok (.invokevirtual 105, 3) := by decide +kernel
theorem dX9_copy_10 : decode cX9_copy 10 = .ok (.ifCond .eq 10, 3) := by decide +kernel
theorem dX9_copy_13 : decode cX9_copy 13 = .ok (.iload_n 2, 1) := by decide +kernel
theorem dX9_copy_14 : decode cX9_copy 14 = .ok (.invokestatic 108, 3) := by decide +kernel
theorem dX9_copy_17 : decode cX9_copy 17 = .ok (.ifCond .ne 9, 3) := by decide +kernel
theorem dX9_copy_20 : decode cX9_copy 20 = .ok (.aload_n 0, 1) := by decide +kernel
theorem dX9_copy_21 : decode cX9_copy 21 = .ok (.iconst 1, 1) := by decide +kernel
theorem dX9_copy_22 : decode cX9_copy 22 = .ok (.invokevirtual 99, 3) := by decide +kernel
theorem dX9_copy_25 : decode cX9_copy 25 = .ok (.ireturn, 1) := by decide +kernel
theorem dX9_copy_26 : decode cX9_copy 26 = .ok (.iload_n 3, 1) := by decide +kernel
theorem dX9_copy_27 : decode cX9_copy 27 = .ok (.iconst 0, 1) := by decide +kernel
theorem dX9_copy_28 : decode cX9_copy 28 = .ok (.iconst 3, 1) := by decide +kernel
theorem dX9_copy_29 : decode cX9_copy 29 = .ok (.invokestatic 36, 3) := by decide +kernel
theorem dX9_copy_32 : decode cX9_copy 32 = .ok (.ifCond .eq 13, 3) := by decide +kernel
theorem dX9_copy_35 : decode cX9_copy 35 = .ok (.aload_n 0, 1) := by decide +kernel
theorem dX9_copy_36 : decode cX9_copy 36 = .ok (.iload_n 1, 1) := by decide +kernel
theorem dX9_copy_37 : decode cX9_copy 37 = .ok (.iload_n 2, 1) := by decide +kernel
theorem dX9_copy_38 : decode cX9_copy 38 = .ok (.iload_n 3, 1) := by decide +kernel
theorem dX9_copy_39 : decode cX9_copy 39 = .ok (.invokevirtual 121, 3) := by decide +kernel
theorem dX9_copy_42 : decode cX9_copy 42 = .ok (.goto 8, 3) := by decide +kernel
theorem dX9_copy_45 : decode cX9_copy 45 = .ok (.aload_n 0, 1) := by decide +kernel
theorem dX9_copy_46 : decode cX9_copy 46 = .ok (.iconst 2, 1) := by decide +kernel
theorem dX9_copy_47 : decode cX9_copy 47 = .ok (.invokevirtual 99, 3) := by decide +kernel
theorem dX9_copy_50 : decode cX9_copy 50 = .ok (.ireturn, 1) := by decide +kernel
theorem dX9_aboutLine_0 : decode cX9_aboutLine 0 = .ok (.aload_n 0, 1) := by decide +kernel
theorem dX9_aboutLine_1 : decode cX9_aboutLine 1 = .ok (.iload_n 1, 1) := by decide +kernel
theorem dX9_aboutLine_2 : decode cX9_aboutLine 2 = .ok (.invokevirtual 48, 3) := by decide +kernel
theorem dX9_aboutLine_5 : decode cX9_aboutLine 5 = .ok (.istore_n 3, 1) := by decide +kernel
theorem dX9_aboutLine_6 : decode cX9_aboutLine 6 = .ok (.iload_n 2, 1) := by decide +kernel
theorem dX9_aboutLine_7 : decode cX9_aboutLine 7 = .ok (.tableswitch 117 0 6 #[41, 51, 61, 67, 73, 83, 100], 41) := by decide +kernel
theorem dX9_aboutLine_48 : decode cX9_aboutLine 48 = .ok (.aload_n 0, 1) := by decide +kernel
theorem dX9_aboutLine_49 : decode cX9_aboutLine 49 = .ok (.getfield 7, 3) := by decide +kernel
theorem dX9_aboutLine_52 : decode cX9_aboutLine 52 = .ok (.bipush 14, 2) := by decide +kernel
theorem dX9_aboutLine_54 : decode cX9_aboutLine 54 = .ok (.iload_n 1, 1) := by decide +kernel
theorem dX9_aboutLine_55 : decode cX9_aboutLine 55 = .ok (.iadd, 1) := by decide +kernel
theorem dX9_aboutLine_56 : decode cX9_aboutLine 56 = .ok (.iaload, 1) := by decide +kernel
theorem dX9_aboutLine_57 : decode cX9_aboutLine 57 = .ok (.ireturn, 1) := by decide +kernel
theorem dX9_aboutLine_58 : decode cX9_aboutLine 58 = .ok (.aload_n 0, 1) := by decide +kernel
theorem dX9_aboutLine_59 : decode cX9_aboutLine 59 = .ok (.getfield 7, 3) := by decide +kernel
theorem dX9_aboutLine_62 : decode cX9_aboutLine 62 = .ok (.bipush 46, 2) := by decide +kernel
theorem dX9_aboutLine_64 : decode cX9_aboutLine 64 = .ok (.iload_n 1, 1) := by decide +kernel
theorem dX9_aboutLine_65 : decode cX9_aboutLine 65 = .ok (.iadd, 1) := by decide +kernel
theorem dX9_aboutLine_66 : decode cX9_aboutLine 66 = .ok (.iaload, 1) := by decide +kernel
theorem dX9_aboutLine_67 : decode cX9_aboutLine 67 = .ok (.ireturn, 1) := by decide +kernel
theorem dX9_aboutLine_68 : decode cX9_aboutLine 68 = .ok (.aload_n 0, 1) := by decide +kernel
theorem dX9_aboutLine_69 : decode cX9_aboutLine 69 = .ok (.iload_n 1, 1) := by decide +kernel
theorem dX9_aboutLine_70 : decode cX9_aboutLine 70 = .ok (.invokevirtual 62, 3) := by decide +kernel
theorem dX9_aboutLine_73 : decode cX9_aboutLine 73 = .ok (.ireturn, 1) := by decide +kernel
theorem dX9_aboutLine_74 : decode cX9_aboutLine 74 = .ok (.aload_n 0, 1) := by decide +kernel
theorem dX9_aboutLine_75 : decode cX9_aboutLine 75 = .ok (.iload_n 1, 1) := by decide +kernel
theorem dX9_aboutLine_76 : decode cX9_aboutLine 76 = .ok (.invokevirtual 65, 3) := by decide +kernel
theorem dX9_aboutLine_79 : decode cX9_aboutLine 79 = .ok (.ireturn, 1) := by decide +kernel
theorem dX9_aboutLine_80 : decode cX9_aboutLine 80 = .ok (.iload_n 3, 1) := by decide +kernel
theorem dX9_aboutLine_81 : decode cX9_aboutLine 81 = .ok (.ifCond .lt 7, 3) := by decide +kernel
theorem dX9_aboutLine_84 : decode cX9_aboutLine 84 = .ok (.iconst 1, 1) := by decide +kernel
theorem dX9_aboutLine_85 : decode cX9_aboutLine 85 = .ok (.goto 4, 3) := by decide +kernel
theorem dX9_aboutLine_88 : decode cX9_aboutLine 88 = .ok (.iconst 0, 1) := by decide +kernel
theorem dX9_aboutLine_89 : decode cX9_aboutLine 89 = .ok (.ireturn, 1) := by decide +kernel
theorem dX9_aboutLine_90 : decode cX9_aboutLine 90 = .ok (.iload_n 3, 1) := by decide +kernel
theorem dX9_aboutLine_91 : decode cX9_aboutLine 91 = .ok (.ifCond .lt 14, 3) := by decide +kernel
theorem dX9_aboutLine_94 : decode cX9_aboutLine 94 = .ok (.aload_n 0, 1) := by decide +kernel
theorem dX9_aboutLine_95 : decode cX9_aboutLine 95 = .ok (.getfield 7, 3) := by decide +kernel
theorem dX9_aboutLine_98 : decode cX9_aboutLine 98 = .ok (.iload_n 3, 1) := by decide +kernel
theorem dX9_aboutLine_99 : decode cX9_aboutLine 99 = .ok (.iconst 1, 1) := by decide +kernel
theorem dX9_aboutLine_100 : decode cX9_aboutLine 100 = .ok (.iadd, 1) := by decide +kernel
theorem dX9_aboutLine_101 : decode cX9_aboutLine 101 = .ok (.iaload, 1) := by decide +kernel
theorem dX9_aboutLine_102 : decode cX9_aboutLine 102 = .ok (.goto 4, 3) := by decide +kernel
theorem dX9_aboutLine_105 : decode cX9_aboutLine 105 = .ok (.iconst (-1), 1) := by decide +kernel
theorem dX9_aboutLine_106 : decode cX9_aboutLine 106 = .ok (.ireturn, 1) := by decide +kernel
theorem dX9_aboutLine_107 : decode cX9_aboutLine 107 = .ok (.iload_n 3, 1) := by decide +kernel
theorem dX9_aboutLine_108 : decode cX9_aboutLine 108 = .ok (.ifCond .lt 14, 3) := by decide +kernel
theorem dX9_aboutLine_111 : decode cX9_aboutLine 111 = .ok (.aload_n 0, 1) := by decide +kernel
theorem dX9_aboutLine_112 : decode cX9_aboutLine 112 = .ok (.getfield 7, 3) := by decide +kernel
theorem dX9_aboutLine_115 : decode cX9_aboutLine 115 = .ok (.iload_n 3, 1) := by decide +kernel
theorem dX9_aboutLine_116 : decode cX9_aboutLine 116 = .ok (.iconst 2, 1) := by decide +kernel
theorem dX9_aboutLine_117 : decode cX9_aboutLine 117 = .ok (.iadd, 1) := by decide +kernel
theorem dX9_aboutLine_118 : decode cX9_aboutLine 118 = .ok (.iaload, 1) := by decide +kernel
theorem dX9_aboutLine_119 : decode cX9_aboutLine 119 = .ok (.goto 4, 3) := by decide +kernel
theorem dX9_aboutLine_122 : decode cX9_aboutLine 122 = .ok (.iconst (-1), 1) := by decide +kernel
theorem dX9_aboutLine_123 : decode cX9_aboutLine 123 = .ok (.ireturn, 1) := by decide +kernel
theorem dX9_aboutLine_124 : decode cX9_aboutLine 124 = .ok (.aload_n 0, 1) := by decide +kernel
theorem dX9_aboutLine_125 : decode cX9_aboutLine 125 = .ok (.getfield 7, 3) := by decide +kernel
theorem dX9_aboutLine_128 : decode cX9_aboutLine 128 = .ok (.bipush 78, 2) := by decide +kernel
theorem dX9_aboutLine_130 : decode cX9_aboutLine 130 = .ok (.iload_n 1, 1) := by decide +kernel
theorem dX9_aboutLine_131 : decode cX9_aboutLine 131 = .ok (.iadd, 1) := by decide +kernel
theorem dX9_aboutLine_132 : decode cX9_aboutLine 132 = .ok (.iaload, 1) := by decide +kernel
theorem dX9_aboutLine_133 : decode cX9_aboutLine 133 = .ok (.ireturn, 1) := by decide +kernel
theorem dX9_line_0 : decode cX9_line 0 = .ok (.aload_n 0, 1) := by decide +kernel
theorem dX9_line_1 : decode cX9_line 1 = .ok (.iconst 0, 1) := by decide +kernel
theorem dX9_line_2 : decode cX9_line 2 = .ok (.putfield 29, 3) := by decide +kernel
theorem dX9_line_5 : decode cX9_line 5 = .ok (.iload_n 1, 1) := by decide +kernel
theorem dX9_line_6 : decode cX9_line 6 = .ok (.invokestatic 108, 3) := by decide +kernel
theorem dX9_line_9 : decode cX9_line 9 = .ok (.ifCond .ne 9, 3) := by decide +kernel
theorem dX9_line_12 : decode cX9_line 12 = .ok (.aload_n 0, 1) := by decide +kernel
theorem dX9_line_13 : decode cX9_line 13 = .ok (.iconst 1, 1) := by decide +kernel
theorem dX9_line_14 : decode cX9_line 14 = .ok (.invokevirtual 99, 3) := by decide +kernel
theorem dX9_line_17 : decode cX9_line 17 = .ok (.ireturn, 1) := by decide +kernel
theorem dX9_line_18 : decode cX9_line 18 = .ok (.iload_n 2, 1) := by decide +kernel
theorem dX9_line_19 : decode cX9_line 19 = .ok (.iconst 0, 1) := by decide +kernel
theorem dX9_line_20 : decode cX9_line 20 = .ok (.bipush 7, 2) := by decide +kernel
theorem dX9_line_22 : decode cX9_line 22 = .ok (.invokestatic 36, 3) := by decide +kernel
theorem dX9_line_25 : decode cX9_line 25 = .ok (.ifCond .eq 12, 3) := by decide +kernel
theorem dX9_line_28 : decode cX9_line 28 = .ok (.aload_n 0, 1) := by decide +kernel
theorem dX9_line_29 : decode cX9_line 29 = .ok (.iload_n 1, 1) := by decide +kernel
theorem dX9_line_30 : decode cX9_line 30 = .ok (.iload_n 2, 1) := by decide +kernel
theorem dX9_line_31 : decode cX9_line 31 = .ok (.invokevirtual 124, 3) := by decide +kernel
theorem dX9_line_34 : decode cX9_line 34 = .ok (.goto 8, 3) := by decide +kernel
theorem dX9_line_37 : decode cX9_line 37 = .ok (.aload_n 0, 1) := by decide +kernel
theorem dX9_line_38 : decode cX9_line 38 = .ok (.iconst 2, 1) := by decide +kernel
theorem dX9_line_39 : decode cX9_line 39 = .ok (.invokevirtual 99, 3) := by decide +kernel
theorem dX9_line_42 : decode cX9_line 42 = .ok (.ireturn, 1) := by decide +kernel
theorem dX9_aboutPending_0 : decode cX9_aboutPending 0 = .ok (.aload_n 0, 1) := by decide +kernel
theorem dX9_aboutPending_1 : decode cX9_aboutPending 1 = .ok (.iload_n 1, 1) := by decide +kernel
theorem dX9_aboutPending_2 : decode cX9_aboutPending 2 = .ok (.invokevirtual 95, 3) := by decide +kernel
theorem dX9_aboutPending_5 : decode cX9_aboutPending 5 = .ok (.ifCond .eq 20, 3) := by decide +kernel
theorem dX9_aboutPending_8 : decode cX9_aboutPending 8 = .ok (.aload_n 0, 1) := by decide +kernel
theorem dX9_aboutPending_9 : decode cX9_aboutPending 9 = .ok (.getfield 7, 3) := by decide +kernel
theorem dX9_aboutPending_12 : decode cX9_aboutPending 12 = .ok (.sipush 366, 3) := by decide +kernel
theorem dX9_aboutPending_15 : decode cX9_aboutPending 15 = .ok (.iconst 3, 1) := by decide +kernel
theorem dX9_aboutPending_16 : decode cX9_aboutPending 16 = .ok (.iload_n 1, 1) := by decide +kernel
theorem dX9_aboutPending_17 : decode cX9_aboutPending 17 = .ok (.imul, 1) := by decide +kernel
theorem dX9_aboutPending_18 : decode cX9_aboutPending 18 = .ok (.iadd, 1) := by decide +kernel
theorem dX9_aboutPending_19 : decode cX9_aboutPending 19 = .ok (.iload_n 2, 1) := by decide +kernel
theorem dX9_aboutPending_20 : decode cX9_aboutPending 20 = .ok (.iadd, 1) := by decide +kernel
theorem dX9_aboutPending_21 : decode cX9_aboutPending 21 = .ok (.iaload, 1) := by decide +kernel
theorem dX9_aboutPending_22 : decode cX9_aboutPending 22 = .ok (.goto 4, 3) := by decide +kernel
theorem dX9_aboutPending_25 : decode cX9_aboutPending 25 = .ok (.iconst (-1), 1) := by decide +kernel
theorem dX9_aboutPending_26 : decode cX9_aboutPending 26 = .ok (.ireturn, 1) := by decide +kernel
theorem dX9_pending_0 : decode cX9_pending 0 = .ok (.aload_n 0, 1) := by decide +kernel
theorem dX9_pending_1 : decode cX9_pending 1 = .ok (.iconst 0, 1) := by decide +kernel
theorem dX9_pending_2 : decode cX9_pending 2 = .ok (.putfield 29, 3) := by decide +kernel
theorem dX9_pending_5 : decode cX9_pending 5 = .ok (.aload_n 0, 1) := by decide +kernel
theorem dX9_pending_6 : decode cX9_pending 6 = .ok (.iload_n 1, 1) := by decide +kernel
theorem dX9_pending_7 : decode cX9_pending 7 = .ok (.invokevirtual 105, 3) := by decide +kernel
theorem dX9_pending_10 : decode cX9_pending 10 = .ok (.ifCond .ne 9, 3) := by decide +kernel
theorem dX9_pending_13 : decode cX9_pending 13 = .ok (.aload_n 0, 1) := by decide +kernel
theorem dX9_pending_14 : decode cX9_pending 14 = .ok (.iconst 1, 1) := by decide +kernel
theorem dX9_pending_15 : decode cX9_pending 15 = .ok (.invokevirtual 99, 3) := by decide +kernel
theorem dX9_pending_18 : decode cX9_pending 18 = .ok (.ireturn, 1) := by decide +kernel
theorem dX9_pending_19 : decode cX9_pending 19 = .ok (.iload_n 2, 1) := by decide +kernel
theorem dX9_pending_20 : decode cX9_pending 20 = .ok (.iconst 0, 1) := by decide +kernel
theorem dX9_pending_21 : decode cX9_pending 21 = .ok (.iconst 2, 1) := by decide +kernel
theorem dX9_pending_22 : decode cX9_pending 22 = .ok (.invokestatic 36, 3) := by decide +kernel
theorem dX9_pending_25 : decode cX9_pending 25 = .ok (.ifCond .eq 12, 3) := by decide +kernel
theorem dX9_pending_28 : decode cX9_pending 28 = .ok (.aload_n 0, 1) := by decide +kernel
theorem dX9_pending_29 : decode cX9_pending 29 = .ok (.iload_n 1, 1) := by decide +kernel
theorem dX9_pending_30 : decode cX9_pending 30 = .ok (.iload_n 2, 1) := by decide +kernel
theorem dX9_pending_31 : decode cX9_pending 31 = .ok (.invokevirtual 127, 3) := by decide +kernel
theorem dX9_pending_34 : decode cX9_pending 34 = .ok (.goto 8, 3) := by decide +kernel
theorem dX9_pending_37 : decode cX9_pending 37 = .ok (.aload_n 0, 1) := by decide +kernel
theorem dX9_pending_38 : decode cX9_pending 38 = .ok (.iconst 2, 1) := by decide +kernel
theorem dX9_pending_39 : decode cX9_pending 39 = .ok (.invokevirtual 99, 3) := by decide +kernel
theorem dX9_pending_42 : decode cX9_pending 42 = .ok (.ireturn, 1) := by decide +kernel
theorem dX9_entry_0 : decode cX9_entry 0 = .ok (.aload_n 0, 1) := by decide +kernel
theorem dX9_entry_1 : decode cX9_entry 1 = .ok (.iconst 0, 1) := by decide +kernel
theorem dX9_entry_2 : decode cX9_entry 2 = .ok (.putfield 29, 3) := by decide +kernel
theorem dX9_entry_5 : decode cX9_entry 5 = .ok (.iload_n 1, 1) := by decide +kernel
theorem dX9_entry_6 : decode cX9_entry 6 = .ok (.iconst 0, 1) := by decide +kernel
theorem dX9_entry_7 : decode cX9_entry 7 = .ok (.aload_n 0, 1) := by decide +kernel
theorem dX9_entry_8 : decode cX9_entry 8 = .ok (.getfield 7, 3) := by decide +kernel
theorem dX9_entry_11 : decode cX9_entry 11 = .ok (.bipush 12, 2) := by decide +kernel
theorem dX9_entry_13 : decode cX9_entry 13 = .ok (.iaload, 1) := by decide +kernel
theorem dX9_entry_14 : decode cX9_entry 14 = .ok (.iconst 1, 1) := by decide +kernel
theorem dX9_entry_15 : decode cX9_entry 15 = .ok (.isub, 1) := by decide +kernel
