/-! a machine: rooms, constants, call words (by wip/tools/gworld.py) -/
theorem k_bipush_6 : (Int8.ofInt 6).toInt32 = nI 6 := by decide
theorem k_bipush_8 : (Int8.ofInt 8).toInt32 = nI 8 := by decide
theorem k_bipush_12 : (Int8.ofInt 12).toInt32 = nI 12 := by decide
theorem k_bipush_16 : (Int8.ofInt 16).toInt32 = nI 16 := by decide
theorem k_bipush_32 : (Int8.ofInt 32).toInt32 = nI 32 := by decide
theorem k_bipush_63 : (Int8.ofInt 63).toInt32 = nI 63 := by decide
theorem k_iconst_m1 : Int32.ofInt (-1) = (-1) := by decide
theorem k_iconst_0 : Int32.ofInt 0 = nI 0 := by decide
theorem k_iconst_1 : Int32.ofInt 1 = nI 1 := by decide
theorem k_iconst_2 : Int32.ofInt 2 = nI 2 := by decide
theorem k_iconst_3 : Int32.ofInt 3 = nI 3 := by decide
theorem k_iconst_4 : Int32.ofInt 4 = nI 4 := by decide
theorem k_iconst_5 : Int32.ofInt 5 = nI 5 := by decide
def rmJ6_bitCount_0f7a4 : Room := { frames := 0, cells := 0, slots := 0, locals := 0 }
def rmX0_add : Room := { frames := 0, cells := 0, slots := 0, locals := 0 }
def rmX0_countOf : Room := { frames := 0, cells := 0, slots := 0, locals := 0 }
def rmX0_usedLater : Room := { frames := 0, cells := 0, slots := 0, locals := 0 }
def rmX0_fact : Room := { frames := 1, cells := 0, slots := 0, locals := 26 }
def rmX0_freeSlot : Room := { frames := 0, cells := 0, slots := 0, locals := 0 }
def rmX0_kindOf : Room := { frames := 0, cells := 0, slots := 0, locals := 0 }
def rmX0_leastUsed : Room := { frames := 0, cells := 0, slots := 0, locals := 0 }
def rmX0_own : Room := { frames := 0, cells := 0, slots := 0, locals := 0 }
def rmX0_ownerOf : Room := { frames := 0, cells := 0, slots := 0, locals := 0 }
def rmX0_remove : Room := { frames := 0, cells := 0, slots := 0, locals := 0 }
def rmX0_removeAll : Room := { frames := 1, cells := 0, slots := 0, locals := 23 }
def rmX0_removeOthers : Room := { frames := 0, cells := 0, slots := 0, locals := 0 }
def rmX0_share : Room := { frames := 0, cells := 0, slots := 0, locals := 0 }
def rmX0_sharersOf : Room := { frames := 0, cells := 0, slots := 0, locals := 0 }
def rmX0_use : Room := { frames := 0, cells := 0, slots := 0, locals := 0 }
def rmX0_valueOf : Room := { frames := 0, cells := 0, slots := 0, locals := 0 }
def rmX1_empty : Room := { frames := 1, cells := 0, slots := 0, locals := 23 }
def rmX1_hasPage : Room := { frames := 0, cells := 0, slots := 0, locals := 0 }
def rmX1_isMarked : Room := { frames := 0, cells := 0, slots := 0, locals := 0 }
def rmX1_lineToTear : Room := { frames := 0, cells := 0, slots := 0, locals := 0 }
def rmX1_use : Room := { frames := 0, cells := 0, slots := 0, locals := 0 }
def rmX1_makePage : Room := { frames := 1, cells := 0, slots := 0, locals := 21 }
def rmX1_tearOut : Room := { frames := 0, cells := 0, slots := 0, locals := 0 }
def rmX3_add : Room := { frames := 0, cells := 0, slots := 0, locals := 0 }
def rmX3_fact : Room := { frames := 0, cells := 0, slots := 0, locals := 0 }
def rmX4_bringBack : Room := { frames := 1, cells := 0, slots := 0, locals := 22 }
def rmX4_isHit : Room := { frames := 1, cells := 0, slots := 0, locals := 22 }
def rmX4_lineToDrop : Room := { frames := 1, cells := 0, slots := 0, locals := 25 }
def rmX4_costOf : Room := { frames := 2, cells := 0, slots := 0, locals := 46 }
def rmX4_makeRoomInDiary : Room := { frames := 1, cells := 0, slots := 0, locals := 23 }
def rmX4_throwAway : Room := { frames := 2, cells := 0, slots := 0, locals := 44 }
def rmX4_fetch : Room := { frames := 3, cells := 0, slots := 0, locals := 66 }
def rmX4_hasTimeFor : Room := { frames := 0, cells := 0, slots := 0, locals := 0 }
def rmX7_count : Room := { frames := 0, cells := 0, slots := 0, locals := 0 }
def rmX7_isPending : Room := { frames := 0, cells := 0, slots := 0, locals := 0 }
def rmX7_isWrite : Room := { frames := 0, cells := 0, slots := 0, locals := 0 }
def rmX7_forget : Room := { frames := 0, cells := 0, slots := 0, locals := 0 }
def rmX4_serve : Room := { frames := 4, cells := 0, slots := 0, locals := 91 }
def rmX4_tick : Room := { frames := 5, cells := 0, slots := 0, locals := 116 }
def rmX4_letPass : Room := { frames := 6, cells := 0, slots := 0, locals := 143 }
def rmX4_lineFact : Room := { frames := 1, cells := 0, slots := 0, locals := 23 }
def rmX4_number : Room := { frames := 1, cells := 0, slots := 0, locals := 22 }
def rmX7_forgetAll : Room := { frames := 1, cells := 0, slots := 0, locals := 23 }
def rmX4_startAnew : Room := { frames := 2, cells := 0, slots := 0, locals := 44 }
def rmX7_ask : Room := { frames := 0, cells := 0, slots := 0, locals := 0 }
def rmX7_fact : Room := { frames := 0, cells := 0, slots := 0, locals := 0 }
theorem u_11 : Cond.initialized RX4 ∈ WA := z_in0 _ (List.mem_of_getElem? (i := 11) (by decide +kernel))
theorem u_33 : Cond.initialized RX0 ∈ WA := z_in0 _ (List.mem_of_getElem? (i := 33) (by decide +kernel))
theorem u_37 : Cond.initialized RX1 ∈ WA := z_in0 _ (List.mem_of_getElem? (i := 37) (by decide +kernel))
theorem u_41 : Cond.initialized RX7 ∈ WA := z_in0 _ (List.mem_of_getElem? (i := 41) (by decide +kernel))
theorem u_45 : Cond.initialized RX3 ∈ WA := z_in0 _ (List.mem_of_getElem? (i := 45) (by decide +kernel))
theorem u_81 : Cond.methodLink RX4 46 yJ7_fill_53178 ∈ WA := z_in0 _ (List.mem_of_getElem? (i := 81) (by decide +kernel))
theorem u_85 : Cond.methodLink RX4 52 yX0_removeAll ∈ WA := z_in0 _ (List.mem_of_getElem? (i := 85) (by decide +kernel))
theorem u_86 : Cond.instanceMethod yX0_removeAll ∈ WA := z_in0 _ (List.mem_of_getElem? (i := 86) (by decide +kernel))
theorem u_87 : Cond.selects RX0 yX0_removeAll yX0_removeAll ∈ WA := z_in0 _ (List.mem_of_getElem? (i := 87) (by decide +kernel))
theorem u_88 : Cond.code yX0_removeAll cX0_removeAll 1 none ∈ WA := z_in0 _ (List.mem_of_getElem? (i := 88) (by decide +kernel))
theorem u_90 : Cond.methodLink RX0 24 yJ7_fill_53178 ∈ WA := z_in0 _ (List.mem_of_getElem? (i := 90) (by decide +kernel))
theorem u_91 : Cond.methodLink RX4 55 yX1_empty ∈ WA := z_in0 _ (List.mem_of_getElem? (i := 91) (by decide +kernel))
theorem u_92 : Cond.instanceMethod yX1_empty ∈ WA := z_in0 _ (List.mem_of_getElem? (i := 92) (by decide +kernel))
theorem u_93 : Cond.selects RX1 yX1_empty yX1_empty ∈ WA := z_in0 _ (List.mem_of_getElem? (i := 93) (by decide +kernel))
theorem u_94 : Cond.code yX1_empty cX1_empty 2 none ∈ WA := z_in0 _ (List.mem_of_getElem? (i := 94) (by decide +kernel))
theorem u_101 : Cond.methodLink RX1 15 yJ7_fill_53178 ∈ WA := z_in0 _ (List.mem_of_getElem? (i := 101) (by decide +kernel))
theorem u_102 : Cond.methodLink RX4 59 yX7_forgetAll ∈ WA := z_in0 _ (List.mem_of_getElem? (i := 102) (by decide +kernel))
theorem u_103 : Cond.instanceMethod yX7_forgetAll ∈ WA := z_in0 _ (List.mem_of_getElem? (i := 103) (by decide +kernel))
theorem u_104 : Cond.selects RX7 yX7_forgetAll yX7_forgetAll ∈ WA := z_in0 _ (List.mem_of_getElem? (i := 104) (by decide +kernel))
theorem u_105 : Cond.code yX7_forgetAll cX7_forgetAll 1 none ∈ WA := z_in0 _ (List.mem_of_getElem? (i := 105) (by decide +kernel))
theorem u_106 : Cond.methodLink RX7 21 yJ7_fill_53178 ∈ WA := z_in0 _ (List.mem_of_getElem? (i := 106) (by decide +kernel))
theorem u_150 : Cond.methodLink RX4 110 yX7_count ∈ WA := z_in0 _ (List.mem_of_getElem? (i := 150) (by decide +kernel))
theorem u_151 : Cond.instanceMethod yX7_count ∈ WA := z_in0 _ (List.mem_of_getElem? (i := 151) (by decide +kernel))
theorem u_152 : Cond.selects RX7 yX7_count yX7_count ∈ WA := z_in0 _ (List.mem_of_getElem? (i := 152) (by decide +kernel))
theorem u_153 : Cond.code yX7_count cX7_count 3 (some .int) ∈ WA := z_in0 _ (List.mem_of_getElem? (i := 153) (by decide +kernel))
theorem u_169 : Cond.methodLink RX0 40 yX0_usedLater ∈ WA := z_in0 _ (List.mem_of_getElem? (i := 169) (by decide +kernel))
theorem u_170 : Cond.instanceMethod yX0_usedLater ∈ WA := z_in0 _ (List.mem_of_getElem? (i := 170) (by decide +kernel))
theorem u_171 : Cond.selects RX0 yX0_usedLater yX0_usedLater ∈ WA := z_in0 _ (List.mem_of_getElem? (i := 171) (by decide +kernel))
theorem u_172 : Cond.code yX0_usedLater cX0_usedLater 7 (some .int) ∈ WA := z_in0 _ (List.mem_of_getElem? (i := 172) (by decide +kernel))
theorem u_181 : Cond.methodLink RX4 147 yX0_ownerOf ∈ WA := z_in0 _ (List.mem_of_getElem? (i := 181) (by decide +kernel))
theorem u_182 : Cond.instanceMethod yX0_ownerOf ∈ WA := z_in0 _ (List.mem_of_getElem? (i := 182) (by decide +kernel))
theorem u_183 : Cond.selects RX0 yX0_ownerOf yX0_ownerOf ∈ WA := z_in0 _ (List.mem_of_getElem? (i := 183) (by decide +kernel))
theorem u_184 : Cond.code yX0_ownerOf cX0_ownerOf 3 (some .int) ∈ WA := z_in0 _ (List.mem_of_getElem? (i := 184) (by decide +kernel))
theorem u_185 : Cond.methodLink RX4 151 yX0_sharersOf ∈ WA := z_in0 _ (List.mem_of_getElem? (i := 185) (by decide +kernel))
theorem u_186 : Cond.instanceMethod yX0_sharersOf ∈ WA := z_in0 _ (List.mem_of_getElem? (i := 186) (by decide +kernel))
theorem u_187 : Cond.selects RX0 yX0_sharersOf yX0_sharersOf ∈ WA := z_in0 _ (List.mem_of_getElem? (i := 187) (by decide +kernel))
theorem u_188 : Cond.code yX0_sharersOf cX0_sharersOf 4 (some .int) ∈ WA := z_in0 _ (List.mem_of_getElem? (i := 188) (by decide +kernel))
theorem u_189 : Cond.methodLink RX4 141 yX1_hasPage ∈ WA := z_in0 _ (List.mem_of_getElem? (i := 189) (by decide +kernel))
theorem u_190 : Cond.instanceMethod yX1_hasPage ∈ WA := z_in0 _ (List.mem_of_getElem? (i := 190) (by decide +kernel))
theorem u_191 : Cond.selects RX1 yX1_hasPage yX1_hasPage ∈ WA := z_in0 _ (List.mem_of_getElem? (i := 191) (by decide +kernel))
theorem u_192 : Cond.code yX1_hasPage cX1_hasPage 2 (some .boolean) ∈ WA := z_in0 _ (List.mem_of_getElem? (i := 192) (by decide +kernel))
theorem u_193 : Cond.methodLink RX4 144 yX1_isMarked ∈ WA := z_in0 _ (List.mem_of_getElem? (i := 193) (by decide +kernel))
theorem u_194 : Cond.instanceMethod yX1_isMarked ∈ WA := z_in0 _ (List.mem_of_getElem? (i := 194) (by decide +kernel))
theorem u_195 : Cond.selects RX1 yX1_isMarked yX1_isMarked ∈ WA := z_in0 _ (List.mem_of_getElem? (i := 195) (by decide +kernel))
theorem u_196 : Cond.code yX1_isMarked cX1_isMarked 2 (some .boolean) ∈ WA := z_in0 _ (List.mem_of_getElem? (i := 196) (by decide +kernel))
theorem u_208 : Cond.instanceMethod yX4_lineToDrop ∈ WA := z_in0 _ (List.mem_of_getElem? (i := 208) (by decide +kernel))
theorem u_209 : Cond.selects RX4 yX4_lineToDrop yX4_lineToDrop ∈ WA := z_in0 _ (List.mem_of_getElem? (i := 209) (by decide +kernel))
theorem u_210 : Cond.code yX4_lineToDrop cX4_lineToDrop 2 (some .int) ∈ WA := z_in0 _ (List.mem_of_getElem? (i := 210) (by decide +kernel))
theorem u_211 : Cond.methodLink RX4 208 yX0_freeSlot ∈ WA := z_in0 _ (List.mem_of_getElem? (i := 211) (by decide +kernel))
theorem u_212 : Cond.instanceMethod yX0_freeSlot ∈ WA := z_in0 _ (List.mem_of_getElem? (i := 212) (by decide +kernel))
theorem u_213 : Cond.selects RX0 yX0_freeSlot yX0_freeSlot ∈ WA := z_in0 _ (List.mem_of_getElem? (i := 213) (by decide +kernel))
theorem u_214 : Cond.code yX0_freeSlot cX0_freeSlot 5 (some .int) ∈ WA := z_in0 _ (List.mem_of_getElem? (i := 214) (by decide +kernel))
theorem u_215 : Cond.methodLink RX4 229 yX0_leastUsed ∈ WA := z_in0 _ (List.mem_of_getElem? (i := 215) (by decide +kernel))
theorem u_216 : Cond.instanceMethod yX0_leastUsed ∈ WA := z_in0 _ (List.mem_of_getElem? (i := 216) (by decide +kernel))
theorem u_217 : Cond.selects RX0 yX0_leastUsed yX0_leastUsed ∈ WA := z_in0 _ (List.mem_of_getElem? (i := 217) (by decide +kernel))
theorem u_218 : Cond.code yX0_leastUsed cX0_leastUsed 6 (some .int) ∈ WA := z_in0 _ (List.mem_of_getElem? (i := 218) (by decide +kernel))
theorem u_225 : Cond.instanceMethod yX1_lineToTear ∈ WA := z_in0 _ (List.mem_of_getElem? (i := 225) (by decide +kernel))
theorem u_226 : Cond.selects RX1 yX1_lineToTear yX1_lineToTear ∈ WA := z_in0 _ (List.mem_of_getElem? (i := 226) (by decide +kernel))
theorem u_227 : Cond.code yX1_lineToTear cX1_lineToTear 4 (some .int) ∈ WA := z_in0 _ (List.mem_of_getElem? (i := 227) (by decide +kernel))
theorem u_288 : Cond.instanceMethod yX7_isPending ∈ WA := z_in0 _ (List.mem_of_getElem? (i := 288) (by decide +kernel))
theorem u_289 : Cond.selects RX7 yX7_isPending yX7_isPending ∈ WA := z_in0 _ (List.mem_of_getElem? (i := 289) (by decide +kernel))
theorem u_290 : Cond.code yX7_isPending cX7_isPending 2 (some .boolean) ∈ WA := z_in0 _ (List.mem_of_getElem? (i := 290) (by decide +kernel))
theorem u_301 : Cond.instanceMethod yX4_isHit ∈ WA := z_in0 _ (List.mem_of_getElem? (i := 301) (by decide +kernel))
theorem u_302 : Cond.selects RX4 yX4_isHit yX4_isHit ∈ WA := z_in0 _ (List.mem_of_getElem? (i := 302) (by decide +kernel))
theorem u_303 : Cond.code yX4_isHit cX4_isHit 5 (some .boolean) ∈ WA := z_in0 _ (List.mem_of_getElem? (i := 303) (by decide +kernel))
theorem u_304 : Cond.methodLink RX4 137 yX0_kindOf ∈ WA := z_in0 _ (List.mem_of_getElem? (i := 304) (by decide +kernel))
theorem u_305 : Cond.instanceMethod yX0_kindOf ∈ WA := z_in0 _ (List.mem_of_getElem? (i := 305) (by decide +kernel))
theorem u_306 : Cond.selects RX0 yX0_kindOf yX0_kindOf ∈ WA := z_in0 _ (List.mem_of_getElem? (i := 306) (by decide +kernel))
theorem u_307 : Cond.code yX0_kindOf cX0_kindOf 3 (some .int) ∈ WA := z_in0 _ (List.mem_of_getElem? (i := 307) (by decide +kernel))
theorem u_319 : Cond.instanceMethod yX4_throwAway ∈ WA := z_in0 _ (List.mem_of_getElem? (i := 319) (by decide +kernel))
theorem u_320 : Cond.selects RX4 yX4_throwAway yX4_throwAway ∈ WA := z_in0 _ (List.mem_of_getElem? (i := 320) (by decide +kernel))
theorem u_321 : Cond.code yX4_throwAway cX4_throwAway 3 none ∈ WA := z_in0 _ (List.mem_of_getElem? (i := 321) (by decide +kernel))
theorem u_322 : Cond.methodLink RX4 196 yX4_bringBack ∈ WA := z_in0 _ (List.mem_of_getElem? (i := 322) (by decide +kernel))
theorem u_323 : Cond.instanceMethod yX4_bringBack ∈ WA := z_in0 _ (List.mem_of_getElem? (i := 323) (by decide +kernel))
theorem u_324 : Cond.selects RX4 yX4_bringBack yX4_bringBack ∈ WA := z_in0 _ (List.mem_of_getElem? (i := 324) (by decide +kernel))
theorem u_325 : Cond.code yX4_bringBack cX4_bringBack 3 none ∈ WA := z_in0 _ (List.mem_of_getElem? (i := 325) (by decide +kernel))
theorem u_326 : Cond.methodLink RX4 180 yX0_valueOf ∈ WA := z_in0 _ (List.mem_of_getElem? (i := 326) (by decide +kernel))
theorem u_327 : Cond.instanceMethod yX0_valueOf ∈ WA := z_in0 _ (List.mem_of_getElem? (i := 327) (by decide +kernel))
theorem u_328 : Cond.selects RX0 yX0_valueOf yX0_valueOf ∈ WA := z_in0 _ (List.mem_of_getElem? (i := 328) (by decide +kernel))
theorem u_329 : Cond.code yX0_valueOf cX0_valueOf 3 (some .int) ∈ WA := z_in0 _ (List.mem_of_getElem? (i := 329) (by decide +kernel))
theorem u_330 : Cond.methodLink RX4 226 yX0_remove ∈ WA := z_in0 _ (List.mem_of_getElem? (i := 330) (by decide +kernel))
theorem u_331 : Cond.instanceMethod yX0_remove ∈ WA := z_in0 _ (List.mem_of_getElem? (i := 331) (by decide +kernel))
theorem u_332 : Cond.selects RX0 yX0_remove yX0_remove ∈ WA := z_in0 _ (List.mem_of_getElem? (i := 332) (by decide +kernel))
theorem u_333 : Cond.code yX0_remove cX0_remove 3 none ∈ WA := z_in0 _ (List.mem_of_getElem? (i := 333) (by decide +kernel))
theorem u_340 : Cond.instanceMethod yX0_countOf ∈ WA := z_in0 _ (List.mem_of_getElem? (i := 340) (by decide +kernel))
theorem u_341 : Cond.selects RX0 yX0_countOf yX0_countOf ∈ WA := z_in0 _ (List.mem_of_getElem? (i := 341) (by decide +kernel))
theorem u_342 : Cond.code yX0_countOf cX0_countOf 4 (some .int) ∈ WA := z_in0 _ (List.mem_of_getElem? (i := 342) (by decide +kernel))
theorem u_344 : Cond.instanceMethod yX1_tearOut ∈ WA := z_in0 _ (List.mem_of_getElem? (i := 344) (by decide +kernel))
theorem u_345 : Cond.selects RX1 yX1_tearOut yX1_tearOut ∈ WA := z_in0 _ (List.mem_of_getElem? (i := 345) (by decide +kernel))
theorem u_346 : Cond.code yX1_tearOut cX1_tearOut 3 none ∈ WA := z_in0 _ (List.mem_of_getElem? (i := 346) (by decide +kernel))
theorem u_360 : Cond.methodLink RX4 113 yX4_tick ∈ WA := z_in0 _ (List.mem_of_getElem? (i := 360) (by decide +kernel))
theorem u_361 : Cond.instanceMethod yX4_tick ∈ WA := z_in0 _ (List.mem_of_getElem? (i := 361) (by decide +kernel))
theorem u_362 : Cond.selects RX4 yX4_tick yX4_tick ∈ WA := z_in0 _ (List.mem_of_getElem? (i := 362) (by decide +kernel))
theorem u_363 : Cond.code yX4_tick cX4_tick 8 (some .int) ∈ WA := z_in0 _ (List.mem_of_getElem? (i := 363) (by decide +kernel))
theorem u_366 : Cond.methodLink RX4 116 yX7_isPending ∈ WA := z_in0 _ (List.mem_of_getElem? (i := 366) (by decide +kernel))
theorem u_367 : Cond.methodLink RX4 123 yX7_isWrite ∈ WA := z_in0 _ (List.mem_of_getElem? (i := 367) (by decide +kernel))
theorem u_368 : Cond.instanceMethod yX7_isWrite ∈ WA := z_in0 _ (List.mem_of_getElem? (i := 368) (by decide +kernel))
theorem u_369 : Cond.selects RX7 yX7_isWrite yX7_isWrite ∈ WA := z_in0 _ (List.mem_of_getElem? (i := 369) (by decide +kernel))
theorem u_370 : Cond.code yX7_isWrite cX7_isWrite 2 (some .boolean) ∈ WA := z_in0 _ (List.mem_of_getElem? (i := 370) (by decide +kernel))
theorem u_371 : Cond.methodLink RX4 126 yX4_isHit ∈ WA := z_in0 _ (List.mem_of_getElem? (i := 371) (by decide +kernel))
theorem u_372 : Cond.methodLink RX4 133 yX4_serve ∈ WA := z_in0 _ (List.mem_of_getElem? (i := 372) (by decide +kernel))
theorem u_373 : Cond.instanceMethod yX4_serve ∈ WA := z_in0 _ (List.mem_of_getElem? (i := 373) (by decide +kernel))
theorem u_374 : Cond.selects RX4 yX4_serve yX4_serve ∈ WA := z_in0 _ (List.mem_of_getElem? (i := 374) (by decide +kernel))
theorem u_375 : Cond.code yX4_serve cX4_serve 6 none ∈ WA := z_in0 _ (List.mem_of_getElem? (i := 375) (by decide +kernel))
theorem u_377 : Cond.methodLink RX4 162 yX4_costOf ∈ WA := z_in0 _ (List.mem_of_getElem? (i := 377) (by decide +kernel))
theorem u_378 : Cond.instanceMethod yX4_costOf ∈ WA := z_in0 _ (List.mem_of_getElem? (i := 378) (by decide +kernel))
theorem u_379 : Cond.selects RX4 yX4_costOf yX4_costOf ∈ WA := z_in0 _ (List.mem_of_getElem? (i := 379) (by decide +kernel))
theorem u_380 : Cond.code yX4_costOf cX4_costOf 6 (some .int) ∈ WA := z_in0 _ (List.mem_of_getElem? (i := 380) (by decide +kernel))
theorem u_381 : Cond.methodLink RX4 154 yJ6_bitCount_0f7a4 ∈ WA := z_in0 _ (List.mem_of_getElem? (i := 381) (by decide +kernel))
theorem u_382 : Cond.static yJ6_bitCount_0f7a4 ∈ WA := z_in0 _ (List.mem_of_getElem? (i := 382) (by decide +kernel))
theorem u_383 : Cond.initialized RJ6 ∈ WA := z_in0 _ (List.mem_of_getElem? (i := 383) (by decide +kernel))
theorem u_384 : Cond.code yJ6_bitCount_0f7a4 cJ6_bitCount_0f7a4 1 (some .int) ∈ WA := z_in0 _ (List.mem_of_getElem? (i := 384) (by decide +kernel))
theorem u_388 : Cond.methodLink RX4 159 yX4_lineToDrop ∈ WA := z_in0 _ (List.mem_of_getElem? (i := 388) (by decide +kernel))
theorem u_389 : Cond.methodLink RX4 166 yX4_fetch ∈ WA := z_in0 _ (List.mem_of_getElem? (i := 389) (by decide +kernel))
theorem u_390 : Cond.instanceMethod yX4_fetch ∈ WA := z_in0 _ (List.mem_of_getElem? (i := 390) (by decide +kernel))
theorem u_391 : Cond.selects RX4 yX4_fetch yX4_fetch ∈ WA := z_in0 _ (List.mem_of_getElem? (i := 391) (by decide +kernel))
theorem u_392 : Cond.code yX4_fetch cX4_fetch 6 none ∈ WA := z_in0 _ (List.mem_of_getElem? (i := 392) (by decide +kernel))
theorem u_393 : Cond.methodLink RX4 190 yX4_makeRoomInDiary ∈ WA := z_in0 _ (List.mem_of_getElem? (i := 393) (by decide +kernel))
theorem u_394 : Cond.instanceMethod yX4_makeRoomInDiary ∈ WA := z_in0 _ (List.mem_of_getElem? (i := 394) (by decide +kernel))
theorem u_395 : Cond.selects RX4 yX4_makeRoomInDiary yX4_makeRoomInDiary ∈ WA := z_in0 _ (List.mem_of_getElem? (i := 395) (by decide +kernel))
theorem u_396 : Cond.code yX4_makeRoomInDiary cX4_makeRoomInDiary 2 none ∈ WA := z_in0 _ (List.mem_of_getElem? (i := 396) (by decide +kernel))
theorem u_397 : Cond.methodLink RX4 216 yX1_lineToTear ∈ WA := z_in0 _ (List.mem_of_getElem? (i := 397) (by decide +kernel))
theorem u_398 : Cond.methodLink RX4 219 yX0_countOf ∈ WA := z_in0 _ (List.mem_of_getElem? (i := 398) (by decide +kernel))
theorem u_399 : Cond.methodLink RX4 222 yX1_tearOut ∈ WA := z_in0 _ (List.mem_of_getElem? (i := 399) (by decide +kernel))
theorem u_400 : Cond.methodLink RX4 193 yX1_makePage ∈ WA := z_in0 _ (List.mem_of_getElem? (i := 400) (by decide +kernel))
theorem u_401 : Cond.instanceMethod yX1_makePage ∈ WA := z_in0 _ (List.mem_of_getElem? (i := 401) (by decide +kernel))
theorem u_402 : Cond.selects RX1 yX1_makePage yX1_makePage ∈ WA := z_in0 _ (List.mem_of_getElem? (i := 402) (by decide +kernel))
theorem u_403 : Cond.code yX1_makePage cX1_makePage 2 none ∈ WA := z_in0 _ (List.mem_of_getElem? (i := 403) (by decide +kernel))
theorem u_404 : Cond.methodLink RX1 46 yX1_isMarked ∈ WA := z_in0 _ (List.mem_of_getElem? (i := 404) (by decide +kernel))
theorem u_405 : Cond.methodLink RX1 50 yX1_use ∈ WA := z_in0 _ (List.mem_of_getElem? (i := 405) (by decide +kernel))
theorem u_406 : Cond.instanceMethod yX1_use ∈ WA := z_in0 _ (List.mem_of_getElem? (i := 406) (by decide +kernel))
theorem u_407 : Cond.selects RX1 yX1_use yX1_use ∈ WA := z_in0 _ (List.mem_of_getElem? (i := 407) (by decide +kernel))
theorem u_408 : Cond.code yX1_use cX1_use 2 none ∈ WA := z_in0 _ (List.mem_of_getElem? (i := 408) (by decide +kernel))
theorem u_409 : Cond.methodLink RX4 199 yX0_share ∈ WA := z_in0 _ (List.mem_of_getElem? (i := 409) (by decide +kernel))
theorem u_410 : Cond.instanceMethod yX0_share ∈ WA := z_in0 _ (List.mem_of_getElem? (i := 410) (by decide +kernel))
theorem u_411 : Cond.selects RX0 yX0_share yX0_share ∈ WA := z_in0 _ (List.mem_of_getElem? (i := 411) (by decide +kernel))
theorem u_412 : Cond.code yX0_share cX0_share 3 none ∈ WA := z_in0 _ (List.mem_of_getElem? (i := 412) (by decide +kernel))
theorem u_413 : Cond.methodLink RX4 202 yX0_removeOthers ∈ WA := z_in0 _ (List.mem_of_getElem? (i := 413) (by decide +kernel))
theorem u_414 : Cond.instanceMethod yX0_removeOthers ∈ WA := z_in0 _ (List.mem_of_getElem? (i := 414) (by decide +kernel))
theorem u_415 : Cond.selects RX0 yX0_removeOthers yX0_removeOthers ∈ WA := z_in0 _ (List.mem_of_getElem? (i := 415) (by decide +kernel))
theorem u_416 : Cond.code yX0_removeOthers cX0_removeOthers 4 none ∈ WA := z_in0 _ (List.mem_of_getElem? (i := 416) (by decide +kernel))
theorem u_417 : Cond.methodLink RX4 205 yX4_throwAway ∈ WA := z_in0 _ (List.mem_of_getElem? (i := 417) (by decide +kernel))
theorem u_418 : Cond.methodLink RX4 211 yX0_add ∈ WA := z_in0 _ (List.mem_of_getElem? (i := 418) (by decide +kernel))
theorem u_419 : Cond.instanceMethod yX0_add ∈ WA := z_in0 _ (List.mem_of_getElem? (i := 419) (by decide +kernel))
theorem u_420 : Cond.selects RX0 yX0_add yX0_add ∈ WA := z_in0 _ (List.mem_of_getElem? (i := 420) (by decide +kernel))
theorem u_421 : Cond.code yX0_add cX0_add 6 none ∈ WA := z_in0 _ (List.mem_of_getElem? (i := 421) (by decide +kernel))
theorem u_422 : Cond.methodLink RX4 214 yX1_use ∈ WA := z_in0 _ (List.mem_of_getElem? (i := 422) (by decide +kernel))
theorem u_423 : Cond.methodLink RX4 172 yX0_own ∈ WA := z_in0 _ (List.mem_of_getElem? (i := 423) (by decide +kernel))
theorem u_424 : Cond.instanceMethod yX0_own ∈ WA := z_in0 _ (List.mem_of_getElem? (i := 424) (by decide +kernel))
theorem u_425 : Cond.selects RX0 yX0_own yX0_own ∈ WA := z_in0 _ (List.mem_of_getElem? (i := 425) (by decide +kernel))
theorem u_426 : Cond.code yX0_own cX0_own 4 none ∈ WA := z_in0 _ (List.mem_of_getElem? (i := 426) (by decide +kernel))
theorem u_427 : Cond.methodLink RX4 176 yX0_use ∈ WA := z_in0 _ (List.mem_of_getElem? (i := 427) (by decide +kernel))
theorem u_428 : Cond.instanceMethod yX0_use ∈ WA := z_in0 _ (List.mem_of_getElem? (i := 428) (by decide +kernel))
theorem u_429 : Cond.selects RX0 yX0_use yX0_use ∈ WA := z_in0 _ (List.mem_of_getElem? (i := 429) (by decide +kernel))
theorem u_430 : Cond.code yX0_use cX0_use 3 none ∈ WA := z_in0 _ (List.mem_of_getElem? (i := 430) (by decide +kernel))
theorem u_431 : Cond.methodLink RX4 183 yX3_add ∈ WA := z_in0 _ (List.mem_of_getElem? (i := 431) (by decide +kernel))
theorem u_432 : Cond.instanceMethod yX3_add ∈ WA := z_in0 _ (List.mem_of_getElem? (i := 432) (by decide +kernel))
theorem u_433 : Cond.selects RX3 yX3_add yX3_add ∈ WA := z_in0 _ (List.mem_of_getElem? (i := 433) (by decide +kernel))
theorem u_434 : Cond.code yX3_add cX3_add 8 none ∈ WA := z_in0 _ (List.mem_of_getElem? (i := 434) (by decide +kernel))
theorem u_435 : Cond.methodLink RX4 187 yX7_forget ∈ WA := z_in0 _ (List.mem_of_getElem? (i := 435) (by decide +kernel))
theorem u_436 : Cond.instanceMethod yX7_forget ∈ WA := z_in0 _ (List.mem_of_getElem? (i := 436) (by decide +kernel))
theorem u_437 : Cond.selects RX7 yX7_forget yX7_forget ∈ WA := z_in0 _ (List.mem_of_getElem? (i := 437) (by decide +kernel))
theorem u_438 : Cond.code yX7_forget cX7_forget 2 none ∈ WA := z_in0 _ (List.mem_of_getElem? (i := 438) (by decide +kernel))
theorem cwX0_40 {R : Room} {s : State} {args : Array Value} (hts : ∀ w ∈ WA, w.before args s = true) (hR : rmX0_usedLater.frames + 1 ≤ R.frames ∧ 8 + (7 + 11) + rmX0_usedLater.locals ≤ R.locals) : CallW R s args RX0 RX0 40 yX0_usedLater cX0_usedLater 7 (some .int) (Cond.code yX0_usedLater cX0_usedLater 7 (some .int) :: WA) rmX0_usedLater 0 0 2 := cwV 2 hts (z_goodV u_169 u_170 u_171 u_33 u_172) rfl rfl rfl (by decide +kernel) hR
theorem cwX1_46 {R : Room} {s : State} {args : Array Value} (hts : ∀ w ∈ WA, w.before args s = true) (hR : rmX1_isMarked.frames + 1 ≤ R.frames ∧ 8 + (2 + 11) + rmX1_isMarked.locals ≤ R.locals) : CallW R s args RX1 RX1 46 yX1_isMarked cX1_isMarked 2 (some .boolean) (Cond.code yX1_isMarked cX1_isMarked 2 (some .boolean) :: WA) rmX1_isMarked 0 0 1 := cwV 1 hts (z_goodV u_404 u_194 u_195 u_37 u_196) rfl rfl rfl (by decide +kernel) hR
theorem cwX1_50 {R : Room} {s : State} {args : Array Value} (hts : ∀ w ∈ WA, w.before args s = true) (hR : rmX1_use.frames + 1 ≤ R.frames ∧ 8 + (2 + 11) + rmX1_use.locals ≤ R.locals) : CallW R s args RX1 RX1 50 yX1_use cX1_use 2 none (Cond.code yX1_use cX1_use 2 none :: WA) rmX1_use 0 0 1 := cwV 1 hts (z_goodV u_405 u_406 u_407 u_37 u_408) rfl rfl rfl (by decide +kernel) hR
theorem cwX4_52 {R : Room} {s : State} {args : Array Value} (hts : ∀ w ∈ WA, w.before args s = true) (hR : rmX0_removeAll.frames + 1 ≤ R.frames ∧ 8 + (1 + 11) + rmX0_removeAll.locals ≤ R.locals) : CallW R s args RX4 RX0 52 yX0_removeAll cX0_removeAll 1 none (Cond.code yX0_removeAll cX0_removeAll 1 none :: WA) rmX0_removeAll 0 0 0 := cwV 0 hts (z_goodV u_85 u_86 u_87 u_33 u_88) rfl rfl rfl (by decide +kernel) hR
theorem cwX4_55 {R : Room} {s : State} {args : Array Value} (hts : ∀ w ∈ WA, w.before args s = true) (hR : rmX1_empty.frames + 1 ≤ R.frames ∧ 8 + (2 + 11) + rmX1_empty.locals ≤ R.locals) : CallW R s args RX4 RX1 55 yX1_empty cX1_empty 2 none (Cond.code yX1_empty cX1_empty 2 none :: WA) rmX1_empty 0 0 1 := cwV 1 hts (z_goodV u_91 u_92 u_93 u_37 u_94) rfl rfl rfl (by decide +kernel) hR
theorem cwX4_59 {R : Room} {s : State} {args : Array Value} (hts : ∀ w ∈ WA, w.before args s = true) (hR : rmX7_forgetAll.frames + 1 ≤ R.frames ∧ 8 + (1 + 11) + rmX7_forgetAll.locals ≤ R.locals) : CallW R s args RX4 RX7 59 yX7_forgetAll cX7_forgetAll 1 none (Cond.code yX7_forgetAll cX7_forgetAll 1 none :: WA) rmX7_forgetAll 0 0 0 := cwV 0 hts (z_goodV u_102 u_103 u_104 u_41 u_105) rfl rfl rfl (by decide +kernel) hR
theorem cwX4_110 {R : Room} {s : State} {args : Array Value} (hts : ∀ w ∈ WA, w.before args s = true) (hR : rmX7_count.frames + 1 ≤ R.frames ∧ 8 + (3 + 11) + rmX7_count.locals ≤ R.locals) : CallW R s args RX4 RX7 110 yX7_count cX7_count 3 (some .int) (Cond.code yX7_count cX7_count 3 (some .int) :: WA) rmX7_count 0 0 0 := cwV 0 hts (z_goodV u_150 u_151 u_152 u_41 u_153) rfl rfl rfl (by decide +kernel) hR
theorem cwX4_113 {R : Room} {s : State} {args : Array Value} (hts : ∀ w ∈ WA, w.before args s = true) (hR : rmX4_tick.frames + 1 ≤ R.frames ∧ 8 + (8 + 11) + rmX4_tick.locals ≤ R.locals) : CallW R s args RX4 RX4 113 yX4_tick cX4_tick 8 (some .int) (Cond.code yX4_tick cX4_tick 8 (some .int) :: WA) rmX4_tick 0 0 0 := cwV 0 hts (z_goodV u_360 u_361 u_362 u_11 u_363) rfl rfl rfl (by decide +kernel) hR
theorem cwX4_116 {R : Room} {s : State} {args : Array Value} (hts : ∀ w ∈ WA, w.before args s = true) (hR : rmX7_isPending.frames + 1 ≤ R.frames ∧ 8 + (2 + 11) + rmX7_isPending.locals ≤ R.locals) : CallW R s args RX4 RX7 116 yX7_isPending cX7_isPending 2 (some .boolean) (Cond.code yX7_isPending cX7_isPending 2 (some .boolean) :: WA) rmX7_isPending 0 0 1 := cwV 1 hts (z_goodV u_366 u_288 u_289 u_41 u_290) rfl rfl rfl (by decide +kernel) hR
theorem cwX4_123 {R : Room} {s : State} {args : Array Value} (hts : ∀ w ∈ WA, w.before args s = true) (hR : rmX7_isWrite.frames + 1 ≤ R.frames ∧ 8 + (2 + 11) + rmX7_isWrite.locals ≤ R.locals) : CallW R s args RX4 RX7 123 yX7_isWrite cX7_isWrite 2 (some .boolean) (Cond.code yX7_isWrite cX7_isWrite 2 (some .boolean) :: WA) rmX7_isWrite 0 0 1 := cwV 1 hts (z_goodV u_367 u_368 u_369 u_41 u_370) rfl rfl rfl (by decide +kernel) hR
theorem cwX4_126 {R : Room} {s : State} {args : Array Value} (hts : ∀ w ∈ WA, w.before args s = true) (hR : rmX4_isHit.frames + 1 ≤ R.frames ∧ 8 + (5 + 11) + rmX4_isHit.locals ≤ R.locals) : CallW R s args RX4 RX4 126 yX4_isHit cX4_isHit 5 (some .boolean) (Cond.code yX4_isHit cX4_isHit 5 (some .boolean) :: WA) rmX4_isHit 0 0 3 := cwV 3 hts (z_goodV u_371 u_301 u_302 u_11 u_303) rfl rfl rfl (by decide +kernel) hR
theorem cwX4_133 {R : Room} {s : State} {args : Array Value} (hts : ∀ w ∈ WA, w.before args s = true) (hR : rmX4_serve.frames + 1 ≤ R.frames ∧ 8 + (6 + 11) + rmX4_serve.locals ≤ R.locals) : CallW R s args RX4 RX4 133 yX4_serve cX4_serve 6 none (Cond.code yX4_serve cX4_serve 6 none :: WA) rmX4_serve 0 0 3 := cwV 3 hts (z_goodV u_372 u_373 u_374 u_11 u_375) rfl rfl rfl (by decide +kernel) hR
theorem cwX4_137 {R : Room} {s : State} {args : Array Value} (hts : ∀ w ∈ WA, w.before args s = true) (hR : rmX0_kindOf.frames + 1 ≤ R.frames ∧ 8 + (3 + 11) + rmX0_kindOf.locals ≤ R.locals) : CallW R s args RX4 RX0 137 yX0_kindOf cX0_kindOf 3 (some .int) (Cond.code yX0_kindOf cX0_kindOf 3 (some .int) :: WA) rmX0_kindOf 0 0 2 := cwV 2 hts (z_goodV u_304 u_305 u_306 u_33 u_307) rfl rfl rfl (by decide +kernel) hR
theorem cwX4_141 {R : Room} {s : State} {args : Array Value} (hts : ∀ w ∈ WA, w.before args s = true) (hR : rmX1_hasPage.frames + 1 ≤ R.frames ∧ 8 + (2 + 11) + rmX1_hasPage.locals ≤ R.locals) : CallW R s args RX4 RX1 141 yX1_hasPage cX1_hasPage 2 (some .boolean) (Cond.code yX1_hasPage cX1_hasPage 2 (some .boolean) :: WA) rmX1_hasPage 0 0 1 := cwV 1 hts (z_goodV u_189 u_190 u_191 u_37 u_192) rfl rfl rfl (by decide +kernel) hR
theorem cwX4_144 {R : Room} {s : State} {args : Array Value} (hts : ∀ w ∈ WA, w.before args s = true) (hR : rmX1_isMarked.frames + 1 ≤ R.frames ∧ 8 + (2 + 11) + rmX1_isMarked.locals ≤ R.locals) : CallW R s args RX4 RX1 144 yX1_isMarked cX1_isMarked 2 (some .boolean) (Cond.code yX1_isMarked cX1_isMarked 2 (some .boolean) :: WA) rmX1_isMarked 0 0 1 := cwV 1 hts (z_goodV u_193 u_194 u_195 u_37 u_196) rfl rfl rfl (by decide +kernel) hR
theorem cwX4_147 {R : Room} {s : State} {args : Array Value} (hts : ∀ w ∈ WA, w.before args s = true) (hR : rmX0_ownerOf.frames + 1 ≤ R.frames ∧ 8 + (3 + 11) + rmX0_ownerOf.locals ≤ R.locals) : CallW R s args RX4 RX0 147 yX0_ownerOf cX0_ownerOf 3 (some .int) (Cond.code yX0_ownerOf cX0_ownerOf 3 (some .int) :: WA) rmX0_ownerOf 0 0 1 := cwV 1 hts (z_goodV u_181 u_182 u_183 u_33 u_184) rfl rfl rfl (by decide +kernel) hR
theorem cwX4_151 {R : Room} {s : State} {args : Array Value} (hts : ∀ w ∈ WA, w.before args s = true) (hR : rmX0_sharersOf.frames + 1 ≤ R.frames ∧ 8 + (4 + 11) + rmX0_sharersOf.locals ≤ R.locals) : CallW R s args RX4 RX0 151 yX0_sharersOf cX0_sharersOf 4 (some .int) (Cond.code yX0_sharersOf cX0_sharersOf 4 (some .int) :: WA) rmX0_sharersOf 0 0 1 := cwV 1 hts (z_goodV u_185 u_186 u_187 u_33 u_188) rfl rfl rfl (by decide +kernel) hR
theorem cwX4_154 {R : Room} {s : State} {args : Array Value} (hts : ∀ w ∈ WA, w.before args s = true) (hR : rmJ6_bitCount_0f7a4.frames + 1 ≤ R.frames ∧ 8 + (1 + 11) + rmJ6_bitCount_0f7a4.locals ≤ R.locals) : CallB R s args RX4 154 yJ6_bitCount_0f7a4 cJ6_bitCount_0f7a4 1 (some .int) (Cond.code yJ6_bitCount_0f7a4 cJ6_bitCount_0f7a4 1 (some .int) :: WA) rmJ6_bitCount_0f7a4 0 0 1 ∧ (Cond.static yJ6_bitCount_0f7a4).before args s = true := va_cwS 1 hts (z_goodS u_381 u_382 u_383 u_384) rfl rfl rfl (by decide +kernel) hR
theorem cwX4_159 {R : Room} {s : State} {args : Array Value} (hts : ∀ w ∈ WA, w.before args s = true) (hR : rmX4_lineToDrop.frames + 1 ≤ R.frames ∧ 8 + (2 + 11) + rmX4_lineToDrop.locals ≤ R.locals) : CallW R s args RX4 RX4 159 yX4_lineToDrop cX4_lineToDrop 2 (some .int) (Cond.code yX4_lineToDrop cX4_lineToDrop 2 (some .int) :: WA) rmX4_lineToDrop 0 0 1 := cwV 1 hts (z_goodV u_388 u_208 u_209 u_11 u_210) rfl rfl rfl (by decide +kernel) hR
theorem cwX4_162 {R : Room} {s : State} {args : Array Value} (hts : ∀ w ∈ WA, w.before args s = true) (hR : rmX4_costOf.frames + 1 ≤ R.frames ∧ 8 + (6 + 11) + rmX4_costOf.locals ≤ R.locals) : CallW R s args RX4 RX4 162 yX4_costOf cX4_costOf 6 (some .int) (Cond.code yX4_costOf cX4_costOf 6 (some .int) :: WA) rmX4_costOf 0 0 3 := cwV 3 hts (z_goodV u_377 u_378 u_379 u_11 u_380) rfl rfl rfl (by decide +kernel) hR
theorem cwX4_166 {R : Room} {s : State} {args : Array Value} (hts : ∀ w ∈ WA, w.before args s = true) (hR : rmX4_fetch.frames + 1 ≤ R.frames ∧ 8 + (6 + 11) + rmX4_fetch.locals ≤ R.locals) : CallW R s args RX4 RX4 166 yX4_fetch cX4_fetch 6 none (Cond.code yX4_fetch cX4_fetch 6 none :: WA) rmX4_fetch 0 0 3 := cwV 3 hts (z_goodV u_389 u_390 u_391 u_11 u_392) rfl rfl rfl (by decide +kernel) hR
theorem cwX4_172 {R : Room} {s : State} {args : Array Value} (hts : ∀ w ∈ WA, w.before args s = true) (hR : rmX0_own.frames + 1 ≤ R.frames ∧ 8 + (4 + 11) + rmX0_own.locals ≤ R.locals) : CallW R s args RX4 RX0 172 yX0_own cX0_own 4 none (Cond.code yX0_own cX0_own 4 none :: WA) rmX0_own 0 0 3 := cwV 3 hts (z_goodV u_423 u_424 u_425 u_33 u_426) rfl rfl rfl (by decide +kernel) hR
theorem cwX4_176 {R : Room} {s : State} {args : Array Value} (hts : ∀ w ∈ WA, w.before args s = true) (hR : rmX0_use.frames + 1 ≤ R.frames ∧ 8 + (3 + 11) + rmX0_use.locals ≤ R.locals) : CallW R s args RX4 RX0 176 yX0_use cX0_use 3 none (Cond.code yX0_use cX0_use 3 none :: WA) rmX0_use 0 0 2 := cwV 2 hts (z_goodV u_427 u_428 u_429 u_33 u_430) rfl rfl rfl (by decide +kernel) hR
theorem cwX4_180 {R : Room} {s : State} {args : Array Value} (hts : ∀ w ∈ WA, w.before args s = true) (hR : rmX0_valueOf.frames + 1 ≤ R.frames ∧ 8 + (3 + 11) + rmX0_valueOf.locals ≤ R.locals) : CallW R s args RX4 RX0 180 yX0_valueOf cX0_valueOf 3 (some .int) (Cond.code yX0_valueOf cX0_valueOf 3 (some .int) :: WA) rmX0_valueOf 0 0 2 := cwV 2 hts (z_goodV u_326 u_327 u_328 u_33 u_329) rfl rfl rfl (by decide +kernel) hR
theorem cwX4_183 {R : Room} {s : State} {args : Array Value} (hts : ∀ w ∈ WA, w.before args s = true) (hR : rmX3_add.frames + 1 ≤ R.frames ∧ 8 + (8 + 11) + rmX3_add.locals ≤ R.locals) : CallW R s args RX4 RX3 183 yX3_add cX3_add 8 none (Cond.code yX3_add cX3_add 8 none :: WA) rmX3_add 0 0 6 := cwV 6 hts (z_goodV u_431 u_432 u_433 u_45 u_434) rfl rfl rfl (by decide +kernel) hR
theorem cwX4_187 {R : Room} {s : State} {args : Array Value} (hts : ∀ w ∈ WA, w.before args s = true) (hR : rmX7_forget.frames + 1 ≤ R.frames ∧ 8 + (2 + 11) + rmX7_forget.locals ≤ R.locals) : CallW R s args RX4 RX7 187 yX7_forget cX7_forget 2 none (Cond.code yX7_forget cX7_forget 2 none :: WA) rmX7_forget 0 0 1 := cwV 1 hts (z_goodV u_435 u_436 u_437 u_41 u_438) rfl rfl rfl (by decide +kernel) hR
theorem cwX4_190 {R : Room} {s : State} {args : Array Value} (hts : ∀ w ∈ WA, w.before args s = true) (hR : rmX4_makeRoomInDiary.frames + 1 ≤ R.frames ∧ 8 + (2 + 11) + rmX4_makeRoomInDiary.locals ≤ R.locals) : CallW R s args RX4 RX4 190 yX4_makeRoomInDiary cX4_makeRoomInDiary 2 none (Cond.code yX4_makeRoomInDiary cX4_makeRoomInDiary 2 none :: WA) rmX4_makeRoomInDiary 0 0 0 := cwV 0 hts (z_goodV u_393 u_394 u_395 u_11 u_396) rfl rfl rfl (by decide +kernel) hR
theorem cwX4_193 {R : Room} {s : State} {args : Array Value} (hts : ∀ w ∈ WA, w.before args s = true) (hR : rmX1_makePage.frames + 1 ≤ R.frames ∧ 8 + (2 + 11) + rmX1_makePage.locals ≤ R.locals) : CallW R s args RX4 RX1 193 yX1_makePage cX1_makePage 2 none (Cond.code yX1_makePage cX1_makePage 2 none :: WA) rmX1_makePage 0 0 1 := cwV 1 hts (z_goodV u_400 u_401 u_402 u_37 u_403) rfl rfl rfl (by decide +kernel) hR
theorem cwX4_196 {R : Room} {s : State} {args : Array Value} (hts : ∀ w ∈ WA, w.before args s = true) (hR : rmX4_bringBack.frames + 1 ≤ R.frames ∧ 8 + (3 + 11) + rmX4_bringBack.locals ≤ R.locals) : CallW R s args RX4 RX4 196 yX4_bringBack cX4_bringBack 3 none (Cond.code yX4_bringBack cX4_bringBack 3 none :: WA) rmX4_bringBack 0 0 2 := cwV 2 hts (z_goodV u_322 u_323 u_324 u_11 u_325) rfl rfl rfl (by decide +kernel) hR
theorem cwX4_199 {R : Room} {s : State} {args : Array Value} (hts : ∀ w ∈ WA, w.before args s = true) (hR : rmX0_share.frames + 1 ≤ R.frames ∧ 8 + (3 + 11) + rmX0_share.locals ≤ R.locals) : CallW R s args RX4 RX0 199 yX0_share cX0_share 3 none (Cond.code yX0_share cX0_share 3 none :: WA) rmX0_share 0 0 2 := cwV 2 hts (z_goodV u_409 u_410 u_411 u_33 u_412) rfl rfl rfl (by decide +kernel) hR
theorem cwX4_202 {R : Room} {s : State} {args : Array Value} (hts : ∀ w ∈ WA, w.before args s = true) (hR : rmX0_removeOthers.frames + 1 ≤ R.frames ∧ 8 + (4 + 11) + rmX0_removeOthers.locals ≤ R.locals) : CallW R s args RX4 RX0 202 yX0_removeOthers cX0_removeOthers 4 none (Cond.code yX0_removeOthers cX0_removeOthers 4 none :: WA) rmX0_removeOthers 0 0 2 := cwV 2 hts (z_goodV u_413 u_414 u_415 u_33 u_416) rfl rfl rfl (by decide +kernel) hR
theorem cwX4_205 {R : Room} {s : State} {args : Array Value} (hts : ∀ w ∈ WA, w.before args s = true) (hR : rmX4_throwAway.frames + 1 ≤ R.frames ∧ 8 + (3 + 11) + rmX4_throwAway.locals ≤ R.locals) : CallW R s args RX4 RX4 205 yX4_throwAway cX4_throwAway 3 none (Cond.code yX4_throwAway cX4_throwAway 3 none :: WA) rmX4_throwAway 0 0 2 := cwV 2 hts (z_goodV u_417 u_319 u_320 u_11 u_321) rfl rfl rfl (by decide +kernel) hR
theorem cwX4_208 {R : Room} {s : State} {args : Array Value} (hts : ∀ w ∈ WA, w.before args s = true) (hR : rmX0_freeSlot.frames + 1 ≤ R.frames ∧ 8 + (5 + 11) + rmX0_freeSlot.locals ≤ R.locals) : CallW R s args RX4 RX0 208 yX0_freeSlot cX0_freeSlot 5 (some .int) (Cond.code yX0_freeSlot cX0_freeSlot 5 (some .int) :: WA) rmX0_freeSlot 0 0 2 := cwV 2 hts (z_goodV u_211 u_212 u_213 u_33 u_214) rfl rfl rfl (by decide +kernel) hR
theorem cwX4_211 {R : Room} {s : State} {args : Array Value} (hts : ∀ w ∈ WA, w.before args s = true) (hR : rmX0_add.frames + 1 ≤ R.frames ∧ 8 + (6 + 11) + rmX0_add.locals ≤ R.locals) : CallW R s args RX4 RX0 211 yX0_add cX0_add 6 none (Cond.code yX0_add cX0_add 6 none :: WA) rmX0_add 0 0 4 := cwV 4 hts (z_goodV u_418 u_419 u_420 u_33 u_421) rfl rfl rfl (by decide +kernel) hR
theorem cwX4_214 {R : Room} {s : State} {args : Array Value} (hts : ∀ w ∈ WA, w.before args s = true) (hR : rmX1_use.frames + 1 ≤ R.frames ∧ 8 + (2 + 11) + rmX1_use.locals ≤ R.locals) : CallW R s args RX4 RX1 214 yX1_use cX1_use 2 none (Cond.code yX1_use cX1_use 2 none :: WA) rmX1_use 0 0 1 := cwV 1 hts (z_goodV u_422 u_406 u_407 u_37 u_408) rfl rfl rfl (by decide +kernel) hR
theorem cwX4_216 {R : Room} {s : State} {args : Array Value} (hts : ∀ w ∈ WA, w.before args s = true) (hR : rmX1_lineToTear.frames + 1 ≤ R.frames ∧ 8 + (4 + 11) + rmX1_lineToTear.locals ≤ R.locals) : CallW R s args RX4 RX1 216 yX1_lineToTear cX1_lineToTear 4 (some .int) (Cond.code yX1_lineToTear cX1_lineToTear 4 (some .int) :: WA) rmX1_lineToTear 0 0 0 := cwV 0 hts (z_goodV u_397 u_225 u_226 u_37 u_227) rfl rfl rfl (by decide +kernel) hR
theorem cwX4_219 {R : Room} {s : State} {args : Array Value} (hts : ∀ w ∈ WA, w.before args s = true) (hR : rmX0_countOf.frames + 1 ≤ R.frames ∧ 8 + (4 + 11) + rmX0_countOf.locals ≤ R.locals) : CallW R s args RX4 RX0 219 yX0_countOf cX0_countOf 4 (some .int) (Cond.code yX0_countOf cX0_countOf 4 (some .int) :: WA) rmX0_countOf 0 0 1 := cwV 1 hts (z_goodV u_398 u_340 u_341 u_33 u_342) rfl rfl rfl (by decide +kernel) hR
theorem cwX4_222 {R : Room} {s : State} {args : Array Value} (hts : ∀ w ∈ WA, w.before args s = true) (hR : rmX1_tearOut.frames + 1 ≤ R.frames ∧ 8 + (3 + 11) + rmX1_tearOut.locals ≤ R.locals) : CallW R s args RX4 RX1 222 yX1_tearOut cX1_tearOut 3 none (Cond.code yX1_tearOut cX1_tearOut 3 none :: WA) rmX1_tearOut 0 0 2 := cwV 2 hts (z_goodV u_399 u_344 u_345 u_37 u_346) rfl rfl rfl (by decide +kernel) hR
theorem cwX4_226 {R : Room} {s : State} {args : Array Value} (hts : ∀ w ∈ WA, w.before args s = true) (hR : rmX0_remove.frames + 1 ≤ R.frames ∧ 8 + (3 + 11) + rmX0_remove.locals ≤ R.locals) : CallW R s args RX4 RX0 226 yX0_remove cX0_remove 3 none (Cond.code yX0_remove cX0_remove 3 none :: WA) rmX0_remove 0 0 2 := cwV 2 hts (z_goodV u_330 u_331 u_332 u_33 u_333) rfl rfl rfl (by decide +kernel) hR
theorem cwX4_229 {R : Room} {s : State} {args : Array Value} (hts : ∀ w ∈ WA, w.before args s = true) (hR : rmX0_leastUsed.frames + 1 ≤ R.frames ∧ 8 + (6 + 11) + rmX0_leastUsed.locals ≤ R.locals) : CallW R s args RX4 RX0 229 yX0_leastUsed cX0_leastUsed 6 (some .int) (Cond.code yX0_leastUsed cX0_leastUsed 6 (some .int) :: WA) rmX0_leastUsed 0 0 1 := cwV 1 hts (z_goodV u_215 u_216 u_217 u_33 u_218) rfl rfl rfl (by decide +kernel) hR
