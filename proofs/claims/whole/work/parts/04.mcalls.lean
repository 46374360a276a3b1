/-! the reference: rooms, constants, call words (by wip/tools/walk.py) -/
theorem k_bipush_m10 : (Int8.ofInt (-10)).toInt32 = (-10) := by decide
theorem k_bipush_6 : (Int8.ofInt 6).toInt32 = nI 6 := by decide
theorem k_bipush_7 : (Int8.ofInt 7).toInt32 = nI 7 := by decide
theorem k_bipush_8 : (Int8.ofInt 8).toInt32 = nI 8 := by decide
theorem k_bipush_9 : (Int8.ofInt 9).toInt32 = nI 9 := by decide
theorem k_bipush_10 : (Int8.ofInt 10).toInt32 = nI 10 := by decide
theorem k_bipush_11 : (Int8.ofInt 11).toInt32 = nI 11 := by decide
theorem k_bipush_12 : (Int8.ofInt 12).toInt32 = nI 12 := by decide
theorem k_bipush_13 : (Int8.ofInt 13).toInt32 = nI 13 := by decide
theorem k_bipush_14 : (Int8.ofInt 14).toInt32 = nI 14 := by decide
theorem k_bipush_16 : (Int8.ofInt 16).toInt32 = nI 16 := by decide
theorem k_bipush_31 : (Int8.ofInt 31).toInt32 = nI 31 := by decide
theorem k_bipush_32 : (Int8.ofInt 32).toInt32 = nI 32 := by decide
theorem k_bipush_46 : (Int8.ofInt 46).toInt32 = nI 46 := by decide
theorem k_bipush_48 : (Int8.ofInt 48).toInt32 = nI 48 := by decide
theorem k_bipush_50 : (Int8.ofInt 50).toInt32 = nI 50 := by decide
theorem k_bipush_53 : (Int8.ofInt 53).toInt32 = nI 53 := by decide
theorem k_bipush_57 : (Int8.ofInt 57).toInt32 = nI 57 := by decide
theorem k_bipush_58 : (Int8.ofInt 58).toInt32 = nI 58 := by decide
theorem k_bipush_59 : (Int8.ofInt 59).toInt32 = nI 59 := by decide
theorem k_bipush_61 : (Int8.ofInt 61).toInt32 = nI 61 := by decide
theorem k_bipush_71 : (Int8.ofInt 71).toInt32 = nI 71 := by decide
theorem k_bipush_78 : (Int8.ofInt 78).toInt32 = nI 78 := by decide
theorem k_bipush_100 : (Int8.ofInt 100).toInt32 = nI 100 := by decide
theorem k_bipush_110 : (Int8.ofInt 110).toInt32 = nI 110 := by decide
theorem k_bipush_114 : (Int8.ofInt 114).toInt32 = nI 114 := by decide
theorem k_bipush_116 : (Int8.ofInt 116).toInt32 = nI 116 := by decide
theorem k_bipush_119 : (Int8.ofInt 119).toInt32 = nI 119 := by decide
theorem k_bipush_127 : (Int8.ofInt 127).toInt32 = nI 127 := by decide
theorem k_iconst_m1 : Int32.ofInt (-1) = (-1) := by decide
theorem k_iconst_0 : Int32.ofInt 0 = nI 0 := by decide
theorem k_iconst_1 : Int32.ofInt 1 = nI 1 := by decide
theorem k_iconst_2 : Int32.ofInt 2 = nI 2 := by decide
theorem k_iconst_3 : Int32.ofInt 3 = nI 3 := by decide
theorem k_iconst_4 : Int32.ofInt 4 = nI 4 := by decide
theorem k_iconst_5 : Int32.ofInt 5 = nI 5 := by decide
theorem k_sipush_302 : (Int16.ofInt 302).toInt32 = nI 302 := by decide
theorem k_sipush_366 : (Int16.ofInt 366).toInt32 = nI 366 := by decide
theorem k_sipush_384 : (Int16.ofInt 384).toInt32 = nI 384 := by decide
theorem k_sipush_385 : (Int16.ofInt 385).toInt32 = nI 385 := by decide
theorem k_sipush_386 : (Int16.ofInt 386).toInt32 = nI 386 := by decide
theorem k_sipush_387 : (Int16.ofInt 387).toInt32 = nI 387 := by decide
theorem k_sipush_388 : (Int16.ofInt 388).toInt32 = nI 388 := by decide
theorem k_sipush_389 : (Int16.ofInt 389).toInt32 = nI 389 := by decide
theorem k_sipush_456 : (Int16.ofInt 456).toInt32 = nI 456 := by decide
theorem k_sipush_999 : (Int16.ofInt 999).toInt32 = nI 999 := by decide
theorem k_sipush_1368 : (Int16.ofInt 1368).toInt32 = nI 1368 := by decide
def rmX9_slotAt : Room := { frames := 0, cells := 0, slots := 0, locals := 0 }
def rmX9_copyOf : Room := { frames := 1, cells := 0, slots := 0, locals := 21 }
def rmX9_aboutCopy : Room := { frames := 2, cells := 0, slots := 0, locals := 44 }
def rmX9_pageOf : Room := { frames := 0, cells := 0, slots := 0, locals := 0 }
def rmX9_ownerOf : Room := { frames := 2, cells := 0, slots := 0, locals := 44 }
def rmX9_sharersOf : Room := { frames := 2, cells := 0, slots := 0, locals := 44 }
def rmX9_aboutLine : Room := { frames := 3, cells := 0, slots := 0, locals := 68 }
def rmX9_isAsking : Room := { frames := 0, cells := 0, slots := 0, locals := 0 }
def rmX9_aboutPending : Room := { frames := 1, cells := 0, slots := 0, locals := 21 }
def rmX9_anew : Room := { frames := 0, cells := 0, slots := 0, locals := 0 }
def rmX9_in : Room := { frames := 0, cells := 0, slots := 0, locals := 0 }
def rmX9_fails : Room := { frames := 0, cells := 0, slots := 0, locals := 0 }
def rmX9_append : Room := { frames := 1, cells := 0, slots := 0, locals := 22 }
def rmX9_isHit : Room := { frames := 2, cells := 0, slots := 0, locals := 44 }
def rmX9_asks : Room := { frames := 3, cells := 0, slots := 0, locals := 68 }
def rmX9_save : Room := { frames := 0, cells := 0, slots := 0, locals := 0 }
def rmX9_begin : Room := { frames := 1, cells := 0, slots := 0, locals := 24 }
def rmX9_bringBack : Room := { frames := 0, cells := 0, slots := 0, locals := 0 }
def rmX9_sign : Room := { frames := 0, cells := 0, slots := 0, locals := 0 }
def rmX9_isDigit : Room := { frames := 1, cells := 0, slots := 0, locals := 22 }
def rmX9_numberInto : Room := { frames := 2, cells := 0, slots := 0, locals := 43 }
def rmX9_readOrder : Room := { frames := 3, cells := 0, slots := 0, locals := 69 }
def rmX9_oldestPage : Room := { frames := 0, cells := 0, slots := 0, locals := 0 }
def rmX9_tearOut : Room := { frames := 0, cells := 0, slots := 0, locals := 0 }
def rmX9_opensPage : Room := { frames := 3, cells := 0, slots := 0, locals := 68 }
def rmX9_toMemory : Room := { frames := 0, cells := 0, slots := 0, locals := 0 }
def rmX9_reachesOthers : Room := { frames := 2, cells := 0, slots := 0, locals := 44 }
def rmX9_oldestCopy : Room := { frames := 1, cells := 0, slots := 0, locals := 21 }
def rmX9_throwAway : Room := { frames := 1, cells := 0, slots := 0, locals := 22 }
def rmX9_misses : Room := { frames := 4, cells := 0, slots := 0, locals := 91 }
def rmX9_serves : Room := { frames := 5, cells := 0, slots := 0, locals := 118 }
def rmX9_tick : Room := { frames := 6, cells := 0, slots := 0, locals := 145 }
def rmX9_ticks : Room := { frames := 7, cells := 0, slots := 0, locals := 172 }
def rmX9_isCache : Room := { frames := 1, cells := 0, slots := 0, locals := 22 }
def rmX9_doOrder : Room := { frames := 8, cells := 0, slots := 0, locals := 195 }
def rmX9_carryOut : Room := { frames := 9, cells := 0, slots := 0, locals := 216 }
def rmX9_isLine : Room := { frames := 1, cells := 0, slots := 0, locals := 22 }
def rmX9_keep : Room := { frames := 0, cells := 0, slots := 0, locals := 0 }
def rmX9_costOf : Room := { frames := 6, cells := 0, slots := 0, locals := 145 }
def rmX9_cheapest : Room := { frames := 7, cells := 0, slots := 0, locals := 169 }
def rmX9_clearText : Room := { frames := 0, cells := 0, slots := 0, locals := 0 }
def rmX9_copy : Room := { frames := 3, cells := 0, slots := 0, locals := 70 }
def rmX9_cost : Room := { frames := 7, cells := 0, slots := 0, locals := 169 }
def rmX9_waiting : Room := { frames := 1, cells := 0, slots := 0, locals := 21 }
def rmX9_number : Room := { frames := 2, cells := 0, slots := 0, locals := 43 }
def rmX9_nextTorn : Room := { frames := 1, cells := 0, slots := 0, locals := 22 }
def rmX9_digest : Room := { frames := 4, cells := 0, slots := 0, locals := 91 }
def rmX9_drop : Room := { frames := 2, cells := 0, slots := 0, locals := 46 }
def rmX9_entry : Room := { frames := 1, cells := 0, slots := 0, locals := 22 }
def rmX9_line : Room := { frames := 4, cells := 0, slots := 0, locals := 91 }
def rmX9_nextDropped : Room := { frames := 2, cells := 0, slots := 0, locals := 44 }
def rmX9_ones : Room := { frames := 0, cells := 0, slots := 0, locals := 0 }
def rmX9_pass : Room := { frames := 8, cells := 0, slots := 0, locals := 195 }
def rmX9_pending : Room := { frames := 2, cells := 0, slots := 0, locals := 43 }
def rmX9_read : Room := { frames := 4, cells := 0, slots := 0, locals := 91 }
def rmX9_takeBack : Room := { frames := 2, cells := 0, slots := 0, locals := 43 }
def rmX9_tear : Room := { frames := 2, cells := 0, slots := 0, locals := 42 }
def rmX9_thrown : Room := { frames := 0, cells := 0, slots := 0, locals := 0 }
def rmX9_ticksToServe : Room := { frames := 7, cells := 0, slots := 0, locals := 172 }
def rmX9_undo : Room := { frames := 1, cells := 0, slots := 0, locals := 21 }
def rmX9_value : Room := { frames := 3, cells := 0, slots := 0, locals := 64 }
def rmX9_write : Room := { frames := 4, cells := 0, slots := 0, locals := 91 }
theorem u_5 : Cond.initialized RX9 ∈ WA := z_in0 _ (List.mem_of_getElem? (i := 5) (by decide +kernel))
theorem u_134 : Cond.methodLink RX9 25 yX9_anew ∈ WA := z_in0 _ (List.mem_of_getElem? (i := 134) (by decide +kernel))
theorem u_135 : Cond.instanceMethod yX9_anew ∈ WA := z_in0 _ (List.mem_of_getElem? (i := 135) (by decide +kernel))
theorem u_136 : Cond.selects RX9 yX9_anew yX9_anew ∈ WA := z_in0 _ (List.mem_of_getElem? (i := 136) (by decide +kernel))
theorem u_137 : Cond.code yX9_anew cX9_anew 5 none ∈ WA := z_in0 _ (List.mem_of_getElem? (i := 137) (by decide +kernel))
theorem u_196 : Cond.methodLink RX9 36 yX9_in ∈ WA := z_in0 _ (List.mem_of_getElem? (i := 196) (by decide +kernel))
theorem u_197 : Cond.static yX9_in ∈ WA := z_in0 _ (List.mem_of_getElem? (i := 197) (by decide +kernel))
theorem u_198 : Cond.code yX9_in cX9_in 3 (some .boolean) ∈ WA := z_in0 _ (List.mem_of_getElem? (i := 198) (by decide +kernel))
theorem u_199 : Cond.methodLink RX9 99 yX9_fails ∈ WA := z_in0 _ (List.mem_of_getElem? (i := 199) (by decide +kernel))
theorem u_200 : Cond.instanceMethod yX9_fails ∈ WA := z_in0 _ (List.mem_of_getElem? (i := 200) (by decide +kernel))
theorem u_201 : Cond.selects RX9 yX9_fails yX9_fails ∈ WA := z_in0 _ (List.mem_of_getElem? (i := 201) (by decide +kernel))
theorem u_202 : Cond.code yX9_fails cX9_fails 2 (some .int) ∈ WA := z_in0 _ (List.mem_of_getElem? (i := 202) (by decide +kernel))
theorem u_203 : Cond.methodLink RX9 102 yX9_save ∈ WA := z_in0 _ (List.mem_of_getElem? (i := 203) (by decide +kernel))
theorem u_204 : Cond.instanceMethod yX9_save ∈ WA := z_in0 _ (List.mem_of_getElem? (i := 204) (by decide +kernel))
theorem u_205 : Cond.selects RX9 yX9_save yX9_save ∈ WA := z_in0 _ (List.mem_of_getElem? (i := 205) (by decide +kernel))
theorem u_206 : Cond.code yX9_save cX9_save 2 none ∈ WA := z_in0 _ (List.mem_of_getElem? (i := 206) (by decide +kernel))
theorem u_253 : Cond.methodLink RX9 105 yX9_isCache ∈ WA := z_in0 _ (List.mem_of_getElem? (i := 253) (by decide +kernel))
theorem u_254 : Cond.instanceMethod yX9_isCache ∈ WA := z_in0 _ (List.mem_of_getElem? (i := 254) (by decide +kernel))
theorem u_255 : Cond.selects RX9 yX9_isCache yX9_isCache ∈ WA := z_in0 _ (List.mem_of_getElem? (i := 255) (by decide +kernel))
theorem u_256 : Cond.code yX9_isCache cX9_isCache 2 (some .boolean) ∈ WA := z_in0 _ (List.mem_of_getElem? (i := 256) (by decide +kernel))
theorem u_257 : Cond.methodLink RX9 108 yX9_isLine ∈ WA := z_in0 _ (List.mem_of_getElem? (i := 257) (by decide +kernel))
theorem u_258 : Cond.static yX9_isLine ∈ WA := z_in0 _ (List.mem_of_getElem? (i := 258) (by decide +kernel))
theorem u_259 : Cond.code yX9_isLine cX9_isLine 1 (some .boolean) ∈ WA := z_in0 _ (List.mem_of_getElem? (i := 259) (by decide +kernel))
theorem u_260 : Cond.methodLink RX9 95 yX9_isAsking ∈ WA := z_in0 _ (List.mem_of_getElem? (i := 260) (by decide +kernel))
theorem u_261 : Cond.instanceMethod yX9_isAsking ∈ WA := z_in0 _ (List.mem_of_getElem? (i := 261) (by decide +kernel))
theorem u_262 : Cond.selects RX9 yX9_isAsking yX9_isAsking ∈ WA := z_in0 _ (List.mem_of_getElem? (i := 262) (by decide +kernel))
theorem u_263 : Cond.code yX9_isAsking cX9_isAsking 2 (some .boolean) ∈ WA := z_in0 _ (List.mem_of_getElem? (i := 263) (by decide +kernel))
theorem u_264 : Cond.methodLink RX9 111 yX9_asks ∈ WA := z_in0 _ (List.mem_of_getElem? (i := 264) (by decide +kernel))
theorem u_265 : Cond.instanceMethod yX9_asks ∈ WA := z_in0 _ (List.mem_of_getElem? (i := 265) (by decide +kernel))
theorem u_266 : Cond.selects RX9 yX9_asks yX9_asks ∈ WA := z_in0 _ (List.mem_of_getElem? (i := 266) (by decide +kernel))
theorem u_267 : Cond.code yX9_asks cX9_asks 4 (some .int) ∈ WA := z_in0 _ (List.mem_of_getElem? (i := 267) (by decide +kernel))
theorem u_268 : Cond.methodLink RX9 81 yX9_isHit ∈ WA := z_in0 _ (List.mem_of_getElem? (i := 268) (by decide +kernel))
theorem u_269 : Cond.instanceMethod yX9_isHit ∈ WA := z_in0 _ (List.mem_of_getElem? (i := 269) (by decide +kernel))
theorem u_270 : Cond.selects RX9 yX9_isHit yX9_isHit ∈ WA := z_in0 _ (List.mem_of_getElem? (i := 270) (by decide +kernel))
theorem u_271 : Cond.code yX9_isHit cX9_isHit 5 (some .boolean) ∈ WA := z_in0 _ (List.mem_of_getElem? (i := 271) (by decide +kernel))
theorem u_272 : Cond.methodLink RX9 52 yX9_copyOf ∈ WA := z_in0 _ (List.mem_of_getElem? (i := 272) (by decide +kernel))
theorem u_273 : Cond.instanceMethod yX9_copyOf ∈ WA := z_in0 _ (List.mem_of_getElem? (i := 273) (by decide +kernel))
theorem u_274 : Cond.selects RX9 yX9_copyOf yX9_copyOf ∈ WA := z_in0 _ (List.mem_of_getElem? (i := 274) (by decide +kernel))
theorem u_275 : Cond.code yX9_copyOf cX9_copyOf 4 (some .int) ∈ WA := z_in0 _ (List.mem_of_getElem? (i := 275) (by decide +kernel))
theorem u_276 : Cond.methodLink RX9 40 yX9_slotAt ∈ WA := z_in0 _ (List.mem_of_getElem? (i := 276) (by decide +kernel))
theorem u_277 : Cond.static yX9_slotAt ∈ WA := z_in0 _ (List.mem_of_getElem? (i := 277) (by decide +kernel))
theorem u_278 : Cond.code yX9_slotAt cX9_slotAt 2 (some .int) ∈ WA := z_in0 _ (List.mem_of_getElem? (i := 278) (by decide +kernel))
theorem u_458 : Cond.methodLink RX9 115 yX9_ticks ∈ WA := z_in0 _ (List.mem_of_getElem? (i := 458) (by decide +kernel))
theorem u_459 : Cond.instanceMethod yX9_ticks ∈ WA := z_in0 _ (List.mem_of_getElem? (i := 459) (by decide +kernel))
theorem u_460 : Cond.selects RX9 yX9_ticks yX9_ticks ∈ WA := z_in0 _ (List.mem_of_getElem? (i := 460) (by decide +kernel))
theorem u_461 : Cond.code yX9_ticks cX9_ticks 4 (some .int) ∈ WA := z_in0 _ (List.mem_of_getElem? (i := 461) (by decide +kernel))
theorem u_462 : Cond.methodLink RX9 92 yX9_tick ∈ WA := z_in0 _ (List.mem_of_getElem? (i := 462) (by decide +kernel))
theorem u_463 : Cond.instanceMethod yX9_tick ∈ WA := z_in0 _ (List.mem_of_getElem? (i := 463) (by decide +kernel))
theorem u_464 : Cond.selects RX9 yX9_tick yX9_tick ∈ WA := z_in0 _ (List.mem_of_getElem? (i := 464) (by decide +kernel))
theorem u_465 : Cond.code yX9_tick cX9_tick 8 (some .int) ∈ WA := z_in0 _ (List.mem_of_getElem? (i := 465) (by decide +kernel))
theorem u_466 : Cond.methodLink RX9 89 yX9_serves ∈ WA := z_in0 _ (List.mem_of_getElem? (i := 466) (by decide +kernel))
theorem u_467 : Cond.instanceMethod yX9_serves ∈ WA := z_in0 _ (List.mem_of_getElem? (i := 467) (by decide +kernel))
theorem u_468 : Cond.selects RX9 yX9_serves yX9_serves ∈ WA := z_in0 _ (List.mem_of_getElem? (i := 468) (by decide +kernel))
theorem u_469 : Cond.code yX9_serves cX9_serves 8 (some .int) ∈ WA := z_in0 _ (List.mem_of_getElem? (i := 469) (by decide +kernel))
theorem u_470 : Cond.methodLink RX9 85 yX9_misses ∈ WA := z_in0 _ (List.mem_of_getElem? (i := 470) (by decide +kernel))
theorem u_471 : Cond.instanceMethod yX9_misses ∈ WA := z_in0 _ (List.mem_of_getElem? (i := 471) (by decide +kernel))
theorem u_472 : Cond.selects RX9 yX9_misses yX9_misses ∈ WA := z_in0 _ (List.mem_of_getElem? (i := 472) (by decide +kernel))
theorem u_473 : Cond.code yX9_misses cX9_misses 8 (some .int) ∈ WA := z_in0 _ (List.mem_of_getElem? (i := 473) (by decide +kernel))
theorem u_474 : Cond.methodLink RX9 68 yX9_opensPage ∈ WA := z_in0 _ (List.mem_of_getElem? (i := 474) (by decide +kernel))
theorem u_475 : Cond.instanceMethod yX9_opensPage ∈ WA := z_in0 _ (List.mem_of_getElem? (i := 475) (by decide +kernel))
theorem u_476 : Cond.selects RX9 yX9_opensPage yX9_opensPage ∈ WA := z_in0 _ (List.mem_of_getElem? (i := 476) (by decide +kernel))
theorem u_477 : Cond.code yX9_opensPage cX9_opensPage 4 (some .int) ∈ WA := z_in0 _ (List.mem_of_getElem? (i := 477) (by decide +kernel))
theorem u_478 : Cond.methodLink RX9 48 yX9_pageOf ∈ WA := z_in0 _ (List.mem_of_getElem? (i := 478) (by decide +kernel))
theorem u_479 : Cond.instanceMethod yX9_pageOf ∈ WA := z_in0 _ (List.mem_of_getElem? (i := 479) (by decide +kernel))
theorem u_480 : Cond.selects RX9 yX9_pageOf yX9_pageOf ∈ WA := z_in0 _ (List.mem_of_getElem? (i := 480) (by decide +kernel))
theorem u_481 : Cond.code yX9_pageOf cX9_pageOf 3 (some .int) ∈ WA := z_in0 _ (List.mem_of_getElem? (i := 481) (by decide +kernel))
theorem u_482 : Cond.methodLink RX9 55 yX9_oldestPage ∈ WA := z_in0 _ (List.mem_of_getElem? (i := 482) (by decide +kernel))
theorem u_483 : Cond.instanceMethod yX9_oldestPage ∈ WA := z_in0 _ (List.mem_of_getElem? (i := 483) (by decide +kernel))
theorem u_484 : Cond.selects RX9 yX9_oldestPage yX9_oldestPage ∈ WA := z_in0 _ (List.mem_of_getElem? (i := 484) (by decide +kernel))
theorem u_485 : Cond.code yX9_oldestPage cX9_oldestPage 3 (some .int) ∈ WA := z_in0 _ (List.mem_of_getElem? (i := 485) (by decide +kernel))
theorem u_486 : Cond.methodLink RX9 59 yX9_tearOut ∈ WA := z_in0 _ (List.mem_of_getElem? (i := 486) (by decide +kernel))
theorem u_487 : Cond.instanceMethod yX9_tearOut ∈ WA := z_in0 _ (List.mem_of_getElem? (i := 487) (by decide +kernel))
theorem u_488 : Cond.selects RX9 yX9_tearOut yX9_tearOut ∈ WA := z_in0 _ (List.mem_of_getElem? (i := 488) (by decide +kernel))
theorem u_489 : Cond.code yX9_tearOut cX9_tearOut 3 none ∈ WA := z_in0 _ (List.mem_of_getElem? (i := 489) (by decide +kernel))
theorem u_490 : Cond.methodLink RX9 62 yX9_ownerOf ∈ WA := z_in0 _ (List.mem_of_getElem? (i := 490) (by decide +kernel))
theorem u_491 : Cond.instanceMethod yX9_ownerOf ∈ WA := z_in0 _ (List.mem_of_getElem? (i := 491) (by decide +kernel))
theorem u_492 : Cond.selects RX9 yX9_ownerOf yX9_ownerOf ∈ WA := z_in0 _ (List.mem_of_getElem? (i := 492) (by decide +kernel))
theorem u_493 : Cond.code yX9_ownerOf cX9_ownerOf 4 (some .int) ∈ WA := z_in0 _ (List.mem_of_getElem? (i := 493) (by decide +kernel))
theorem u_494 : Cond.methodLink RX9 65 yX9_sharersOf ∈ WA := z_in0 _ (List.mem_of_getElem? (i := 494) (by decide +kernel))
theorem u_495 : Cond.instanceMethod yX9_sharersOf ∈ WA := z_in0 _ (List.mem_of_getElem? (i := 495) (by decide +kernel))
theorem u_496 : Cond.selects RX9 yX9_sharersOf yX9_sharersOf ∈ WA := z_in0 _ (List.mem_of_getElem? (i := 496) (by decide +kernel))
theorem u_497 : Cond.code yX9_sharersOf cX9_sharersOf 5 (some .int) ∈ WA := z_in0 _ (List.mem_of_getElem? (i := 497) (by decide +kernel))
theorem u_498 : Cond.methodLink RX9 71 yX9_reachesOthers ∈ WA := z_in0 _ (List.mem_of_getElem? (i := 498) (by decide +kernel))
theorem u_499 : Cond.instanceMethod yX9_reachesOthers ∈ WA := z_in0 _ (List.mem_of_getElem? (i := 499) (by decide +kernel))
theorem u_500 : Cond.selects RX9 yX9_reachesOthers yX9_reachesOthers ∈ WA := z_in0 _ (List.mem_of_getElem? (i := 500) (by decide +kernel))
theorem u_501 : Cond.code yX9_reachesOthers cX9_reachesOthers 7 (some .int) ∈ WA := z_in0 _ (List.mem_of_getElem? (i := 501) (by decide +kernel))
theorem u_502 : Cond.methodLink RX9 44 yX9_toMemory ∈ WA := z_in0 _ (List.mem_of_getElem? (i := 502) (by decide +kernel))
theorem u_503 : Cond.instanceMethod yX9_toMemory ∈ WA := z_in0 _ (List.mem_of_getElem? (i := 503) (by decide +kernel))
theorem u_504 : Cond.selects RX9 yX9_toMemory yX9_toMemory ∈ WA := z_in0 _ (List.mem_of_getElem? (i := 504) (by decide +kernel))
theorem u_505 : Cond.code yX9_toMemory cX9_toMemory 2 none ∈ WA := z_in0 _ (List.mem_of_getElem? (i := 505) (by decide +kernel))
theorem u_506 : Cond.methodLink RX9 75 yX9_oldestCopy ∈ WA := z_in0 _ (List.mem_of_getElem? (i := 506) (by decide +kernel))
theorem u_507 : Cond.instanceMethod yX9_oldestCopy ∈ WA := z_in0 _ (List.mem_of_getElem? (i := 507) (by decide +kernel))
theorem u_508 : Cond.selects RX9 yX9_oldestCopy yX9_oldestCopy ∈ WA := z_in0 _ (List.mem_of_getElem? (i := 508) (by decide +kernel))
theorem u_509 : Cond.code yX9_oldestCopy cX9_oldestCopy 4 (some .int) ∈ WA := z_in0 _ (List.mem_of_getElem? (i := 509) (by decide +kernel))
theorem u_510 : Cond.methodLink RX9 78 yX9_throwAway ∈ WA := z_in0 _ (List.mem_of_getElem? (i := 510) (by decide +kernel))
theorem u_511 : Cond.instanceMethod yX9_throwAway ∈ WA := z_in0 _ (List.mem_of_getElem? (i := 511) (by decide +kernel))
theorem u_512 : Cond.selects RX9 yX9_throwAway yX9_throwAway ∈ WA := z_in0 _ (List.mem_of_getElem? (i := 512) (by decide +kernel))
theorem u_513 : Cond.code yX9_throwAway cX9_throwAway 5 (some .int) ∈ WA := z_in0 _ (List.mem_of_getElem? (i := 513) (by decide +kernel))
theorem u_544 : Cond.methodLink RX9 118 yX9_ones ∈ WA := z_in0 _ (List.mem_of_getElem? (i := 544) (by decide +kernel))
theorem u_545 : Cond.static yX9_ones ∈ WA := z_in0 _ (List.mem_of_getElem? (i := 545) (by decide +kernel))
theorem u_546 : Cond.code yX9_ones cX9_ones 3 (some .int) ∈ WA := z_in0 _ (List.mem_of_getElem? (i := 546) (by decide +kernel))
theorem u_566 : Cond.methodLink RX9 121 yX9_aboutCopy ∈ WA := z_in0 _ (List.mem_of_getElem? (i := 566) (by decide +kernel))
theorem u_567 : Cond.instanceMethod yX9_aboutCopy ∈ WA := z_in0 _ (List.mem_of_getElem? (i := 567) (by decide +kernel))
theorem u_568 : Cond.selects RX9 yX9_aboutCopy yX9_aboutCopy ∈ WA := z_in0 _ (List.mem_of_getElem? (i := 568) (by decide +kernel))
theorem u_569 : Cond.code yX9_aboutCopy cX9_aboutCopy 7 (some .int) ∈ WA := z_in0 _ (List.mem_of_getElem? (i := 569) (by decide +kernel))
theorem u_585 : Cond.methodLink RX9 124 yX9_aboutLine ∈ WA := z_in0 _ (List.mem_of_getElem? (i := 585) (by decide +kernel))
theorem u_586 : Cond.instanceMethod yX9_aboutLine ∈ WA := z_in0 _ (List.mem_of_getElem? (i := 586) (by decide +kernel))
theorem u_587 : Cond.selects RX9 yX9_aboutLine yX9_aboutLine ∈ WA := z_in0 _ (List.mem_of_getElem? (i := 587) (by decide +kernel))
theorem u_588 : Cond.code yX9_aboutLine cX9_aboutLine 4 (some .int) ∈ WA := z_in0 _ (List.mem_of_getElem? (i := 588) (by decide +kernel))
theorem u_604 : Cond.methodLink RX9 127 yX9_aboutPending ∈ WA := z_in0 _ (List.mem_of_getElem? (i := 604) (by decide +kernel))
theorem u_605 : Cond.instanceMethod yX9_aboutPending ∈ WA := z_in0 _ (List.mem_of_getElem? (i := 605) (by decide +kernel))
theorem u_606 : Cond.selects RX9 yX9_aboutPending yX9_aboutPending ∈ WA := z_in0 _ (List.mem_of_getElem? (i := 606) (by decide +kernel))
theorem u_607 : Cond.code yX9_aboutPending cX9_aboutPending 3 (some .int) ∈ WA := z_in0 _ (List.mem_of_getElem? (i := 607) (by decide +kernel))
theorem u_644 : Cond.methodLink RX9 133 yX9_number ∈ WA := z_in0 _ (List.mem_of_getElem? (i := 644) (by decide +kernel))
theorem u_645 : Cond.instanceMethod yX9_number ∈ WA := z_in0 _ (List.mem_of_getElem? (i := 645) (by decide +kernel))
theorem u_646 : Cond.selects RX9 yX9_number yX9_number ∈ WA := z_in0 _ (List.mem_of_getElem? (i := 646) (by decide +kernel))
theorem u_647 : Cond.code yX9_number cX9_number 2 (some .int) ∈ WA := z_in0 _ (List.mem_of_getElem? (i := 647) (by decide +kernel))
theorem u_648 : Cond.methodLink RX9 130 yX9_waiting ∈ WA := z_in0 _ (List.mem_of_getElem? (i := 648) (by decide +kernel))
theorem u_649 : Cond.instanceMethod yX9_waiting ∈ WA := z_in0 _ (List.mem_of_getElem? (i := 649) (by decide +kernel))
theorem u_650 : Cond.selects RX9 yX9_waiting yX9_waiting ∈ WA := z_in0 _ (List.mem_of_getElem? (i := 650) (by decide +kernel))
theorem u_651 : Cond.code yX9_waiting cX9_waiting 3 (some .int) ∈ WA := z_in0 _ (List.mem_of_getElem? (i := 651) (by decide +kernel))
theorem u_664 : Cond.methodLink RX9 142 yX9_costOf ∈ WA := z_in0 _ (List.mem_of_getElem? (i := 664) (by decide +kernel))
theorem u_665 : Cond.instanceMethod yX9_costOf ∈ WA := z_in0 _ (List.mem_of_getElem? (i := 665) (by decide +kernel))
theorem u_666 : Cond.selects RX9 yX9_costOf yX9_costOf ∈ WA := z_in0 _ (List.mem_of_getElem? (i := 666) (by decide +kernel))
theorem u_667 : Cond.code yX9_costOf cX9_costOf 5 (some .int) ∈ WA := z_in0 _ (List.mem_of_getElem? (i := 667) (by decide +kernel))
theorem u_668 : Cond.methodLink RX9 136 yX9_keep ∈ WA := z_in0 _ (List.mem_of_getElem? (i := 668) (by decide +kernel))
theorem u_669 : Cond.instanceMethod yX9_keep ∈ WA := z_in0 _ (List.mem_of_getElem? (i := 669) (by decide +kernel))
theorem u_670 : Cond.selects RX9 yX9_keep yX9_keep ∈ WA := z_in0 _ (List.mem_of_getElem? (i := 670) (by decide +kernel))
theorem u_671 : Cond.code yX9_keep cX9_keep 2 none ∈ WA := z_in0 _ (List.mem_of_getElem? (i := 671) (by decide +kernel))
theorem u_672 : Cond.methodLink RX9 139 yX9_bringBack ∈ WA := z_in0 _ (List.mem_of_getElem? (i := 672) (by decide +kernel))
theorem u_673 : Cond.instanceMethod yX9_bringBack ∈ WA := z_in0 _ (List.mem_of_getElem? (i := 673) (by decide +kernel))
theorem u_674 : Cond.selects RX9 yX9_bringBack yX9_bringBack ∈ WA := z_in0 _ (List.mem_of_getElem? (i := 674) (by decide +kernel))
theorem u_675 : Cond.code yX9_bringBack cX9_bringBack 2 none ∈ WA := z_in0 _ (List.mem_of_getElem? (i := 675) (by decide +kernel))
theorem u_682 : Cond.instanceMethod yX9_nextTorn ∈ WA := z_in0 _ (List.mem_of_getElem? (i := 682) (by decide +kernel))
theorem u_683 : Cond.selects RX9 yX9_nextTorn yX9_nextTorn ∈ WA := z_in0 _ (List.mem_of_getElem? (i := 683) (by decide +kernel))
theorem u_684 : Cond.code yX9_nextTorn cX9_nextTorn 1 (some .int) ∈ WA := z_in0 _ (List.mem_of_getElem? (i := 684) (by decide +kernel))
theorem u_821 : Cond.methodLink RX9 161 yX9_readOrder ∈ WA := z_in0 _ (List.mem_of_getElem? (i := 821) (by decide +kernel))
theorem u_822 : Cond.instanceMethod yX9_readOrder ∈ WA := z_in0 _ (List.mem_of_getElem? (i := 822) (by decide +kernel))
theorem u_823 : Cond.selects RX9 yX9_readOrder yX9_readOrder ∈ WA := z_in0 _ (List.mem_of_getElem? (i := 823) (by decide +kernel))
theorem u_824 : Cond.code yX9_readOrder cX9_readOrder 1 (some .boolean) ∈ WA := z_in0 _ (List.mem_of_getElem? (i := 824) (by decide +kernel))
theorem u_825 : Cond.methodLink RX9 154 yX9_sign ∈ WA := z_in0 _ (List.mem_of_getElem? (i := 825) (by decide +kernel))
theorem u_826 : Cond.instanceMethod yX9_sign ∈ WA := z_in0 _ (List.mem_of_getElem? (i := 826) (by decide +kernel))
theorem u_827 : Cond.selects RX9 yX9_sign yX9_sign ∈ WA := z_in0 _ (List.mem_of_getElem? (i := 827) (by decide +kernel))
theorem u_828 : Cond.code yX9_sign cX9_sign 3 (some .boolean) ∈ WA := z_in0 _ (List.mem_of_getElem? (i := 828) (by decide +kernel))
theorem u_829 : Cond.methodLink RX9 157 yX9_numberInto ∈ WA := z_in0 _ (List.mem_of_getElem? (i := 829) (by decide +kernel))
theorem u_830 : Cond.instanceMethod yX9_numberInto ∈ WA := z_in0 _ (List.mem_of_getElem? (i := 830) (by decide +kernel))
theorem u_831 : Cond.selects RX9 yX9_numberInto yX9_numberInto ∈ WA := z_in0 _ (List.mem_of_getElem? (i := 831) (by decide +kernel))
theorem u_832 : Cond.code yX9_numberInto cX9_numberInto 7 (some .boolean) ∈ WA := z_in0 _ (List.mem_of_getElem? (i := 832) (by decide +kernel))
theorem u_833 : Cond.methodLink RX9 151 yX9_isDigit ∈ WA := z_in0 _ (List.mem_of_getElem? (i := 833) (by decide +kernel))
theorem u_834 : Cond.instanceMethod yX9_isDigit ∈ WA := z_in0 _ (List.mem_of_getElem? (i := 834) (by decide +kernel))
theorem u_835 : Cond.selects RX9 yX9_isDigit yX9_isDigit ∈ WA := z_in0 _ (List.mem_of_getElem? (i := 835) (by decide +kernel))
theorem u_836 : Cond.code yX9_isDigit cX9_isDigit 2 (some .boolean) ∈ WA := z_in0 _ (List.mem_of_getElem? (i := 836) (by decide +kernel))
theorem u_837 : Cond.methodLink RX9 165 yX9_doOrder ∈ WA := z_in0 _ (List.mem_of_getElem? (i := 837) (by decide +kernel))
theorem u_838 : Cond.instanceMethod yX9_doOrder ∈ WA := z_in0 _ (List.mem_of_getElem? (i := 838) (by decide +kernel))
theorem u_839 : Cond.selects RX9 yX9_doOrder yX9_doOrder ∈ WA := z_in0 _ (List.mem_of_getElem? (i := 839) (by decide +kernel))
theorem u_840 : Cond.code yX9_doOrder cX9_doOrder 2 (some .boolean) ∈ WA := z_in0 _ (List.mem_of_getElem? (i := 840) (by decide +kernel))
theorem u_873 : Cond.methodLink RX9 172 yX9_nextTorn ∈ WA := z_in0 _ (List.mem_of_getElem? (i := 873) (by decide +kernel))
theorem cwX9_25 {R : Room} {s : State} {args : Array Value} (hts : ∀ w ∈ WA, w.before args s = true) (hR : rmX9_anew.frames + 1 ≤ R.frames ∧ 8 + (5 + 11) + rmX9_anew.locals ≤ R.locals) : CallW R s args RX9 RX9 25 yX9_anew cX9_anew 5 none (Cond.code yX9_anew cX9_anew 5 none :: WA) rmX9_anew 0 0 3 := cwV 3 hts (z_goodV u_134 u_135 u_136 u_5 u_137) rfl rfl rfl (by decide +kernel) hR
theorem cwX9_36 {R : Room} {s : State} {args : Array Value} (hts : ∀ w ∈ WA, w.before args s = true) (hR : rmX9_in.frames + 1 ≤ R.frames ∧ 8 + (3 + 11) + rmX9_in.locals ≤ R.locals) : CallB R s args RX9 36 yX9_in cX9_in 3 (some .boolean) (Cond.code yX9_in cX9_in 3 (some .boolean) :: WA) rmX9_in 0 0 3 ∧ (Cond.static yX9_in).before args s = true := va_cwS 3 hts (z_goodS u_196 u_197 u_5 u_198) rfl rfl rfl (by decide +kernel) hR
theorem cwX9_40 {R : Room} {s : State} {args : Array Value} (hts : ∀ w ∈ WA, w.before args s = true) (hR : rmX9_slotAt.frames + 1 ≤ R.frames ∧ 8 + (2 + 11) + rmX9_slotAt.locals ≤ R.locals) : CallB R s args RX9 40 yX9_slotAt cX9_slotAt 2 (some .int) (Cond.code yX9_slotAt cX9_slotAt 2 (some .int) :: WA) rmX9_slotAt 0 0 2 ∧ (Cond.static yX9_slotAt).before args s = true := va_cwS 2 hts (z_goodS u_276 u_277 u_5 u_278) rfl rfl rfl (by decide +kernel) hR
theorem cwX9_44 {R : Room} {s : State} {args : Array Value} (hts : ∀ w ∈ WA, w.before args s = true) (hR : rmX9_toMemory.frames + 1 ≤ R.frames ∧ 8 + (2 + 11) + rmX9_toMemory.locals ≤ R.locals) : CallW R s args RX9 RX9 44 yX9_toMemory cX9_toMemory 2 none (Cond.code yX9_toMemory cX9_toMemory 2 none :: WA) rmX9_toMemory 0 0 1 := cwV 1 hts (z_goodV u_502 u_503 u_504 u_5 u_505) rfl rfl rfl (by decide +kernel) hR
theorem cwX9_48 {R : Room} {s : State} {args : Array Value} (hts : ∀ w ∈ WA, w.before args s = true) (hR : rmX9_pageOf.frames + 1 ≤ R.frames ∧ 8 + (3 + 11) + rmX9_pageOf.locals ≤ R.locals) : CallW R s args RX9 RX9 48 yX9_pageOf cX9_pageOf 3 (some .int) (Cond.code yX9_pageOf cX9_pageOf 3 (some .int) :: WA) rmX9_pageOf 0 0 1 := cwV 1 hts (z_goodV u_478 u_479 u_480 u_5 u_481) rfl rfl rfl (by decide +kernel) hR
theorem cwX9_52 {R : Room} {s : State} {args : Array Value} (hts : ∀ w ∈ WA, w.before args s = true) (hR : rmX9_copyOf.frames + 1 ≤ R.frames ∧ 8 + (4 + 11) + rmX9_copyOf.locals ≤ R.locals) : CallW R s args RX9 RX9 52 yX9_copyOf cX9_copyOf 4 (some .int) (Cond.code yX9_copyOf cX9_copyOf 4 (some .int) :: WA) rmX9_copyOf 0 0 2 := cwV 2 hts (z_goodV u_272 u_273 u_274 u_5 u_275) rfl rfl rfl (by decide +kernel) hR
theorem cwX9_55 {R : Room} {s : State} {args : Array Value} (hts : ∀ w ∈ WA, w.before args s = true) (hR : rmX9_oldestPage.frames + 1 ≤ R.frames ∧ 8 + (3 + 11) + rmX9_oldestPage.locals ≤ R.locals) : CallW R s args RX9 RX9 55 yX9_oldestPage cX9_oldestPage 3 (some .int) (Cond.code yX9_oldestPage cX9_oldestPage 3 (some .int) :: WA) rmX9_oldestPage 0 0 0 := cwV 0 hts (z_goodV u_482 u_483 u_484 u_5 u_485) rfl rfl rfl (by decide +kernel) hR
theorem cwX9_59 {R : Room} {s : State} {args : Array Value} (hts : ∀ w ∈ WA, w.before args s = true) (hR : rmX9_tearOut.frames + 1 ≤ R.frames ∧ 8 + (3 + 11) + rmX9_tearOut.locals ≤ R.locals) : CallW R s args RX9 RX9 59 yX9_tearOut cX9_tearOut 3 none (Cond.code yX9_tearOut cX9_tearOut 3 none :: WA) rmX9_tearOut 0 0 1 := cwV 1 hts (z_goodV u_486 u_487 u_488 u_5 u_489) rfl rfl rfl (by decide +kernel) hR
theorem cwX9_62 {R : Room} {s : State} {args : Array Value} (hts : ∀ w ∈ WA, w.before args s = true) (hR : rmX9_ownerOf.frames + 1 ≤ R.frames ∧ 8 + (4 + 11) + rmX9_ownerOf.locals ≤ R.locals) : CallW R s args RX9 RX9 62 yX9_ownerOf cX9_ownerOf 4 (some .int) (Cond.code yX9_ownerOf cX9_ownerOf 4 (some .int) :: WA) rmX9_ownerOf 0 0 1 := cwV 1 hts (z_goodV u_490 u_491 u_492 u_5 u_493) rfl rfl rfl (by decide +kernel) hR
theorem cwX9_65 {R : Room} {s : State} {args : Array Value} (hts : ∀ w ∈ WA, w.before args s = true) (hR : rmX9_sharersOf.frames + 1 ≤ R.frames ∧ 8 + (5 + 11) + rmX9_sharersOf.locals ≤ R.locals) : CallW R s args RX9 RX9 65 yX9_sharersOf cX9_sharersOf 5 (some .int) (Cond.code yX9_sharersOf cX9_sharersOf 5 (some .int) :: WA) rmX9_sharersOf 0 0 1 := cwV 1 hts (z_goodV u_494 u_495 u_496 u_5 u_497) rfl rfl rfl (by decide +kernel) hR
theorem cwX9_68 {R : Room} {s : State} {args : Array Value} (hts : ∀ w ∈ WA, w.before args s = true) (hR : rmX9_opensPage.frames + 1 ≤ R.frames ∧ 8 + (4 + 11) + rmX9_opensPage.locals ≤ R.locals) : CallW R s args RX9 RX9 68 yX9_opensPage cX9_opensPage 4 (some .int) (Cond.code yX9_opensPage cX9_opensPage 4 (some .int) :: WA) rmX9_opensPage 0 0 1 := cwV 1 hts (z_goodV u_474 u_475 u_476 u_5 u_477) rfl rfl rfl (by decide +kernel) hR
theorem cwX9_71 {R : Room} {s : State} {args : Array Value} (hts : ∀ w ∈ WA, w.before args s = true) (hR : rmX9_reachesOthers.frames + 1 ≤ R.frames ∧ 8 + (7 + 11) + rmX9_reachesOthers.locals ≤ R.locals) : CallW R s args RX9 RX9 71 yX9_reachesOthers cX9_reachesOthers 7 (some .int) (Cond.code yX9_reachesOthers cX9_reachesOthers 7 (some .int) :: WA) rmX9_reachesOthers 0 0 3 := cwV 3 hts (z_goodV u_498 u_499 u_500 u_5 u_501) rfl rfl rfl (by decide +kernel) hR
theorem cwX9_75 {R : Room} {s : State} {args : Array Value} (hts : ∀ w ∈ WA, w.before args s = true) (hR : rmX9_oldestCopy.frames + 1 ≤ R.frames ∧ 8 + (4 + 11) + rmX9_oldestCopy.locals ≤ R.locals) : CallW R s args RX9 RX9 75 yX9_oldestCopy cX9_oldestCopy 4 (some .int) (Cond.code yX9_oldestCopy cX9_oldestCopy 4 (some .int) :: WA) rmX9_oldestCopy 0 0 1 := cwV 1 hts (z_goodV u_506 u_507 u_508 u_5 u_509) rfl rfl rfl (by decide +kernel) hR
theorem cwX9_78 {R : Room} {s : State} {args : Array Value} (hts : ∀ w ∈ WA, w.before args s = true) (hR : rmX9_throwAway.frames + 1 ≤ R.frames ∧ 8 + (5 + 11) + rmX9_throwAway.locals ≤ R.locals) : CallW R s args RX9 RX9 78 yX9_throwAway cX9_throwAway 5 (some .int) (Cond.code yX9_throwAway cX9_throwAway 5 (some .int) :: WA) rmX9_throwAway 0 0 2 := cwV 2 hts (z_goodV u_510 u_511 u_512 u_5 u_513) rfl rfl rfl (by decide +kernel) hR
theorem cwX9_81 {R : Room} {s : State} {args : Array Value} (hts : ∀ w ∈ WA, w.before args s = true) (hR : rmX9_isHit.frames + 1 ≤ R.frames ∧ 8 + (5 + 11) + rmX9_isHit.locals ≤ R.locals) : CallW R s args RX9 RX9 81 yX9_isHit cX9_isHit 5 (some .boolean) (Cond.code yX9_isHit cX9_isHit 5 (some .boolean) :: WA) rmX9_isHit 0 0 3 := cwV 3 hts (z_goodV u_268 u_269 u_270 u_5 u_271) rfl rfl rfl (by decide +kernel) hR
theorem cwX9_85 {R : Room} {s : State} {args : Array Value} (hts : ∀ w ∈ WA, w.before args s = true) (hR : rmX9_misses.frames + 1 ≤ R.frames ∧ 8 + (8 + 11) + rmX9_misses.locals ≤ R.locals) : CallW R s args RX9 RX9 85 yX9_misses cX9_misses 8 (some .int) (Cond.code yX9_misses cX9_misses 8 (some .int) :: WA) rmX9_misses 0 0 3 := cwV 3 hts (z_goodV u_470 u_471 u_472 u_5 u_473) rfl rfl rfl (by decide +kernel) hR
theorem cwX9_89 {R : Room} {s : State} {args : Array Value} (hts : ∀ w ∈ WA, w.before args s = true) (hR : rmX9_serves.frames + 1 ≤ R.frames ∧ 8 + (8 + 11) + rmX9_serves.locals ≤ R.locals) : CallW R s args RX9 RX9 89 yX9_serves cX9_serves 8 (some .int) (Cond.code yX9_serves cX9_serves 8 (some .int) :: WA) rmX9_serves 0 0 3 := cwV 3 hts (z_goodV u_466 u_467 u_468 u_5 u_469) rfl rfl rfl (by decide +kernel) hR
theorem cwX9_92 {R : Room} {s : State} {args : Array Value} (hts : ∀ w ∈ WA, w.before args s = true) (hR : rmX9_tick.frames + 1 ≤ R.frames ∧ 8 + (8 + 11) + rmX9_tick.locals ≤ R.locals) : CallW R s args RX9 RX9 92 yX9_tick cX9_tick 8 (some .int) (Cond.code yX9_tick cX9_tick 8 (some .int) :: WA) rmX9_tick 0 0 0 := cwV 0 hts (z_goodV u_462 u_463 u_464 u_5 u_465) rfl rfl rfl (by decide +kernel) hR
theorem cwX9_95 {R : Room} {s : State} {args : Array Value} (hts : ∀ w ∈ WA, w.before args s = true) (hR : rmX9_isAsking.frames + 1 ≤ R.frames ∧ 8 + (2 + 11) + rmX9_isAsking.locals ≤ R.locals) : CallW R s args RX9 RX9 95 yX9_isAsking cX9_isAsking 2 (some .boolean) (Cond.code yX9_isAsking cX9_isAsking 2 (some .boolean) :: WA) rmX9_isAsking 0 0 1 := cwV 1 hts (z_goodV u_260 u_261 u_262 u_5 u_263) rfl rfl rfl (by decide +kernel) hR
theorem cwX9_99 {R : Room} {s : State} {args : Array Value} (hts : ∀ w ∈ WA, w.before args s = true) (hR : rmX9_fails.frames + 1 ≤ R.frames ∧ 8 + (2 + 11) + rmX9_fails.locals ≤ R.locals) : CallW R s args RX9 RX9 99 yX9_fails cX9_fails 2 (some .int) (Cond.code yX9_fails cX9_fails 2 (some .int) :: WA) rmX9_fails 0 0 1 := cwV 1 hts (z_goodV u_199 u_200 u_201 u_5 u_202) rfl rfl rfl (by decide +kernel) hR
theorem cwX9_102 {R : Room} {s : State} {args : Array Value} (hts : ∀ w ∈ WA, w.before args s = true) (hR : rmX9_save.frames + 1 ≤ R.frames ∧ 8 + (2 + 11) + rmX9_save.locals ≤ R.locals) : CallW R s args RX9 RX9 102 yX9_save cX9_save 2 none (Cond.code yX9_save cX9_save 2 none :: WA) rmX9_save 0 0 0 := cwV 0 hts (z_goodV u_203 u_204 u_205 u_5 u_206) rfl rfl rfl (by decide +kernel) hR
theorem cwX9_105 {R : Room} {s : State} {args : Array Value} (hts : ∀ w ∈ WA, w.before args s = true) (hR : rmX9_isCache.frames + 1 ≤ R.frames ∧ 8 + (2 + 11) + rmX9_isCache.locals ≤ R.locals) : CallW R s args RX9 RX9 105 yX9_isCache cX9_isCache 2 (some .boolean) (Cond.code yX9_isCache cX9_isCache 2 (some .boolean) :: WA) rmX9_isCache 0 0 1 := cwV 1 hts (z_goodV u_253 u_254 u_255 u_5 u_256) rfl rfl rfl (by decide +kernel) hR
theorem cwX9_108 {R : Room} {s : State} {args : Array Value} (hts : ∀ w ∈ WA, w.before args s = true) (hR : rmX9_isLine.frames + 1 ≤ R.frames ∧ 8 + (1 + 11) + rmX9_isLine.locals ≤ R.locals) : CallB R s args RX9 108 yX9_isLine cX9_isLine 1 (some .boolean) (Cond.code yX9_isLine cX9_isLine 1 (some .boolean) :: WA) rmX9_isLine 0 0 1 ∧ (Cond.static yX9_isLine).before args s = true := va_cwS 1 hts (z_goodS u_257 u_258 u_5 u_259) rfl rfl rfl (by decide +kernel) hR
theorem cwX9_111 {R : Room} {s : State} {args : Array Value} (hts : ∀ w ∈ WA, w.before args s = true) (hR : rmX9_asks.frames + 1 ≤ R.frames ∧ 8 + (4 + 11) + rmX9_asks.locals ≤ R.locals) : CallW R s args RX9 RX9 111 yX9_asks cX9_asks 4 (some .int) (Cond.code yX9_asks cX9_asks 4 (some .int) :: WA) rmX9_asks 0 0 3 := cwV 3 hts (z_goodV u_264 u_265 u_266 u_5 u_267) rfl rfl rfl (by decide +kernel) hR
theorem cwX9_115 {R : Room} {s : State} {args : Array Value} (hts : ∀ w ∈ WA, w.before args s = true) (hR : rmX9_ticks.frames + 1 ≤ R.frames ∧ 8 + (4 + 11) + rmX9_ticks.locals ≤ R.locals) : CallW R s args RX9 RX9 115 yX9_ticks cX9_ticks 4 (some .int) (Cond.code yX9_ticks cX9_ticks 4 (some .int) :: WA) rmX9_ticks 0 0 1 := cwV 1 hts (z_goodV u_458 u_459 u_460 u_5 u_461) rfl rfl rfl (by decide +kernel) hR
theorem cwX9_118 {R : Room} {s : State} {args : Array Value} (hts : ∀ w ∈ WA, w.before args s = true) (hR : rmX9_ones.frames + 1 ≤ R.frames ∧ 8 + (3 + 11) + rmX9_ones.locals ≤ R.locals) : CallB R s args RX9 118 yX9_ones cX9_ones 3 (some .int) (Cond.code yX9_ones cX9_ones 3 (some .int) :: WA) rmX9_ones 0 0 1 ∧ (Cond.static yX9_ones).before args s = true := va_cwS 1 hts (z_goodS u_544 u_545 u_5 u_546) rfl rfl rfl (by decide +kernel) hR
theorem cwX9_121 {R : Room} {s : State} {args : Array Value} (hts : ∀ w ∈ WA, w.before args s = true) (hR : rmX9_aboutCopy.frames + 1 ≤ R.frames ∧ 8 + (7 + 11) + rmX9_aboutCopy.locals ≤ R.locals) : CallW R s args RX9 RX9 121 yX9_aboutCopy cX9_aboutCopy 7 (some .int) (Cond.code yX9_aboutCopy cX9_aboutCopy 7 (some .int) :: WA) rmX9_aboutCopy 0 0 3 := cwV 3 hts (z_goodV u_566 u_567 u_568 u_5 u_569) rfl rfl rfl (by decide +kernel) hR
theorem cwX9_124 {R : Room} {s : State} {args : Array Value} (hts : ∀ w ∈ WA, w.before args s = true) (hR : rmX9_aboutLine.frames + 1 ≤ R.frames ∧ 8 + (4 + 11) + rmX9_aboutLine.locals ≤ R.locals) : CallW R s args RX9 RX9 124 yX9_aboutLine cX9_aboutLine 4 (some .int) (Cond.code yX9_aboutLine cX9_aboutLine 4 (some .int) :: WA) rmX9_aboutLine 0 0 2 := cwV 2 hts (z_goodV u_585 u_586 u_587 u_5 u_588) rfl rfl rfl (by decide +kernel) hR
theorem cwX9_127 {R : Room} {s : State} {args : Array Value} (hts : ∀ w ∈ WA, w.before args s = true) (hR : rmX9_aboutPending.frames + 1 ≤ R.frames ∧ 8 + (3 + 11) + rmX9_aboutPending.locals ≤ R.locals) : CallW R s args RX9 RX9 127 yX9_aboutPending cX9_aboutPending 3 (some .int) (Cond.code yX9_aboutPending cX9_aboutPending 3 (some .int) :: WA) rmX9_aboutPending 0 0 2 := cwV 2 hts (z_goodV u_604 u_605 u_606 u_5 u_607) rfl rfl rfl (by decide +kernel) hR
theorem cwX9_130 {R : Room} {s : State} {args : Array Value} (hts : ∀ w ∈ WA, w.before args s = true) (hR : rmX9_waiting.frames + 1 ≤ R.frames ∧ 8 + (3 + 11) + rmX9_waiting.locals ≤ R.locals) : CallW R s args RX9 RX9 130 yX9_waiting cX9_waiting 3 (some .int) (Cond.code yX9_waiting cX9_waiting 3 (some .int) :: WA) rmX9_waiting 0 0 0 := cwV 0 hts (z_goodV u_648 u_649 u_650 u_5 u_651) rfl rfl rfl (by decide +kernel) hR
theorem cwX9_133 {R : Room} {s : State} {args : Array Value} (hts : ∀ w ∈ WA, w.before args s = true) (hR : rmX9_number.frames + 1 ≤ R.frames ∧ 8 + (2 + 11) + rmX9_number.locals ≤ R.locals) : CallW R s args RX9 RX9 133 yX9_number cX9_number 2 (some .int) (Cond.code yX9_number cX9_number 2 (some .int) :: WA) rmX9_number 0 0 1 := cwV 1 hts (z_goodV u_644 u_645 u_646 u_5 u_647) rfl rfl rfl (by decide +kernel) hR
theorem cwX9_136 {R : Room} {s : State} {args : Array Value} (hts : ∀ w ∈ WA, w.before args s = true) (hR : rmX9_keep.frames + 1 ≤ R.frames ∧ 8 + (2 + 11) + rmX9_keep.locals ≤ R.locals) : CallW R s args RX9 RX9 136 yX9_keep cX9_keep 2 none (Cond.code yX9_keep cX9_keep 2 none :: WA) rmX9_keep 0 0 0 := cwV 0 hts (z_goodV u_668 u_669 u_670 u_5 u_671) rfl rfl rfl (by decide +kernel) hR
theorem cwX9_139 {R : Room} {s : State} {args : Array Value} (hts : ∀ w ∈ WA, w.before args s = true) (hR : rmX9_bringBack.frames + 1 ≤ R.frames ∧ 8 + (2 + 11) + rmX9_bringBack.locals ≤ R.locals) : CallW R s args RX9 RX9 139 yX9_bringBack cX9_bringBack 2 none (Cond.code yX9_bringBack cX9_bringBack 2 none :: WA) rmX9_bringBack 0 0 0 := cwV 0 hts (z_goodV u_672 u_673 u_674 u_5 u_675) rfl rfl rfl (by decide +kernel) hR
theorem cwX9_142 {R : Room} {s : State} {args : Array Value} (hts : ∀ w ∈ WA, w.before args s = true) (hR : rmX9_costOf.frames + 1 ≤ R.frames ∧ 8 + (5 + 11) + rmX9_costOf.locals ≤ R.locals) : CallW R s args RX9 RX9 142 yX9_costOf cX9_costOf 5 (some .int) (Cond.code yX9_costOf cX9_costOf 5 (some .int) :: WA) rmX9_costOf 0 0 3 := cwV 3 hts (z_goodV u_664 u_665 u_666 u_5 u_667) rfl rfl rfl (by decide +kernel) hR
theorem cwX9_151 {R : Room} {s : State} {args : Array Value} (hts : ∀ w ∈ WA, w.before args s = true) (hR : rmX9_isDigit.frames + 1 ≤ R.frames ∧ 8 + (2 + 11) + rmX9_isDigit.locals ≤ R.locals) : CallW R s args RX9 RX9 151 yX9_isDigit cX9_isDigit 2 (some .boolean) (Cond.code yX9_isDigit cX9_isDigit 2 (some .boolean) :: WA) rmX9_isDigit 0 0 1 := cwV 1 hts (z_goodV u_833 u_834 u_835 u_5 u_836) rfl rfl rfl (by decide +kernel) hR
theorem cwX9_154 {R : Room} {s : State} {args : Array Value} (hts : ∀ w ∈ WA, w.before args s = true) (hR : rmX9_sign.frames + 1 ≤ R.frames ∧ 8 + (3 + 11) + rmX9_sign.locals ≤ R.locals) : CallW R s args RX9 RX9 154 yX9_sign cX9_sign 3 (some .boolean) (Cond.code yX9_sign cX9_sign 3 (some .boolean) :: WA) rmX9_sign 0 0 1 := cwV 1 hts (z_goodV u_825 u_826 u_827 u_5 u_828) rfl rfl rfl (by decide +kernel) hR
theorem cwX9_157 {R : Room} {s : State} {args : Array Value} (hts : ∀ w ∈ WA, w.before args s = true) (hR : rmX9_numberInto.frames + 1 ≤ R.frames ∧ 8 + (7 + 11) + rmX9_numberInto.locals ≤ R.locals) : CallW R s args RX9 RX9 157 yX9_numberInto cX9_numberInto 7 (some .boolean) (Cond.code yX9_numberInto cX9_numberInto 7 (some .boolean) :: WA) rmX9_numberInto 0 0 4 := cwV 4 hts (z_goodV u_829 u_830 u_831 u_5 u_832) rfl rfl rfl (by decide +kernel) hR
theorem cwX9_161 {R : Room} {s : State} {args : Array Value} (hts : ∀ w ∈ WA, w.before args s = true) (hR : rmX9_readOrder.frames + 1 ≤ R.frames ∧ 8 + (1 + 11) + rmX9_readOrder.locals ≤ R.locals) : CallW R s args RX9 RX9 161 yX9_readOrder cX9_readOrder 1 (some .boolean) (Cond.code yX9_readOrder cX9_readOrder 1 (some .boolean) :: WA) rmX9_readOrder 0 0 0 := cwV 0 hts (z_goodV u_821 u_822 u_823 u_5 u_824) rfl rfl rfl (by decide +kernel) hR
theorem cwX9_165 {R : Room} {s : State} {args : Array Value} (hts : ∀ w ∈ WA, w.before args s = true) (hR : rmX9_doOrder.frames + 1 ≤ R.frames ∧ 8 + (2 + 11) + rmX9_doOrder.locals ≤ R.locals) : CallW R s args RX9 RX9 165 yX9_doOrder cX9_doOrder 2 (some .boolean) (Cond.code yX9_doOrder cX9_doOrder 2 (some .boolean) :: WA) rmX9_doOrder 0 0 0 := cwV 0 hts (z_goodV u_837 u_838 u_839 u_5 u_840) rfl rfl rfl (by decide +kernel) hR
theorem cwX9_172 {R : Room} {s : State} {args : Array Value} (hts : ∀ w ∈ WA, w.before args s = true) (hR : rmX9_nextTorn.frames + 1 ≤ R.frames ∧ 8 + (1 + 11) + rmX9_nextTorn.locals ≤ R.locals) : CallW R s args RX9 RX9 172 yX9_nextTorn cX9_nextTorn 1 (some .int) (Cond.code yX9_nextTorn cX9_nextTorn 1 (some .int) :: WA) rmX9_nextTorn 0 0 0 := cwV 0 hts (z_goodV u_873 u_682 u_683 u_5 u_684) rfl rfl rfl (by decide +kernel) hR
