/-! the whole object: fields, rooms, call words (by wip/tools/rworld.py) -/
def c_sb (χ : cSt) (i x : Int32) : Option cSt := if i < 0 ∨ 100 ≤ i.toNatClampNeg then none else some (c_up χ 6 (z_up (χ 6) 11 (upd (χ 6 11) i.toNatClampNeg (vp_nar .byte x))))
theorem u_316 : Cond.fieldLink RX8 111 "CacheDiary$Machine" "messages" "I" ∈ WA := z_in0 _ (List.mem_of_getElem? (i := 316) (by decide +kernel))
theorem u_223 : Cond.fieldLink RX8 114 "CacheDiary$Machine" "diary" "LCacheDiary$Diary;" ∈ WA := z_in0 _ (List.mem_of_getElem? (i := 223) (by decide +kernel))
theorem u_12 : Cond.fieldLink RX8 12 "CacheDiary" "machine" "LCacheDiary$Machine;" ∈ WA := z_in0 _ (List.mem_of_getElem? (i := 12) (by decide +kernel))
theorem u_456 : Cond.fieldLink RX8 139 "CacheDiary$Machine" "log" "LCacheDiary$Log;" ∈ WA := z_in0 _ (List.mem_of_getElem? (i := 456) (by decide +kernel))
theorem u_457 : Cond.fieldLink RX8 143 "CacheDiary$Log" "count" "I" ∈ WA := z_in0 _ (List.mem_of_getElem? (i := 457) (by decide +kernel))
theorem u_471 : Cond.fieldLink RX8 181 "CacheDiary$OrderReader" "count" "I" ∈ WA := z_in0 _ (List.mem_of_getElem? (i := 471) (by decide +kernel))
theorem u_472 : Cond.fieldLink RX8 188 "CacheDiary$OrderReader" "number" "[I" ∈ WA := z_in0 _ (List.mem_of_getElem? (i := 472) (by decide +kernel))
theorem u_473 : Cond.fieldLink RX8 190 "CacheDiary$OrderReader" "cache" "[I" ∈ WA := z_in0 _ (List.mem_of_getElem? (i := 473) (by decide +kernel))
theorem u_474 : Cond.fieldLink RX8 193 "CacheDiary$OrderReader" "line" "[I" ∈ WA := z_in0 _ (List.mem_of_getElem? (i := 474) (by decide +kernel))
theorem u_458 : Cond.fieldLink RX8 194 "CacheDiary$History" "count" "I" ∈ WA := z_in0 _ (List.mem_of_getElem? (i := 458) (by decide +kernel))
theorem u_17 : Cond.fieldLink RX8 26 "CacheDiary" "history" "LCacheDiary$History;" ∈ WA := z_in0 _ (List.mem_of_getElem? (i := 17) (by decide +kernel))
theorem u_19 : Cond.fieldLink RX8 30 "CacheDiary" "text" "[B" ∈ WA := z_in0 _ (List.mem_of_getElem? (i := 19) (by decide +kernel))
theorem u_20 : Cond.fieldLink RX8 34 "CacheDiary" "textLength" "I" ∈ WA := z_in0 _ (List.mem_of_getElem? (i := 20) (by decide +kernel))
theorem u_24 : Cond.fieldLink RX8 41 "CacheDiary" "orders" "LCacheDiary$OrderReader;" ∈ WA := z_in0 _ (List.mem_of_getElem? (i := 24) (by decide +kernel))
theorem u_232 : Cond.fieldLink RX8 52 "CacheDiary$Machine" "time" "I" ∈ WA := z_in0 _ (List.mem_of_getElem? (i := 232) (by decide +kernel))
theorem u_158 : Cond.fieldLink RX8 55 "CacheDiary$Machine" "caches" "I" ∈ WA := z_in0 _ (List.mem_of_getElem? (i := 158) (by decide +kernel))
theorem u_278 : Cond.fieldLink RX8 62 "CacheDiary$Machine" "requests" "LCacheDiary$Requests;" ∈ WA := z_in0 _ (List.mem_of_getElem? (i := 278) (by decide +kernel))
theorem u_159 : Cond.fieldLink RX8 98 "CacheDiary$Machine" "copies" "LCacheDiary$Copies;" ∈ WA := z_in0 _ (List.mem_of_getElem? (i := 159) (by decide +kernel))
theorem k_bipush_m10 : (Int8.ofInt (-10)).toInt32 = (-10) := by decide
theorem k_bipush_7 : (Int8.ofInt 7).toInt32 = nI 7 := by decide
theorem k_bipush_13 : (Int8.ofInt 13).toInt32 = nI 13 := by decide
theorem k_bipush_14 : (Int8.ofInt 14).toInt32 = nI 14 := by decide
theorem k_bipush_100 : (Int8.ofInt 100).toInt32 = nI 100 := by decide
theorem k_bipush_127 : (Int8.ofInt 127).toInt32 = nI 127 := by decide
theorem k_sipush_999 : (Int16.ofInt 999).toInt32 = nI 999 := by decide
def rmX8_append : Room := { frames := 1, cells := 0, slots := 0, locals := 22 }
def rmX8_begin : Room := { frames := 6, cells := 0, slots := 0, locals := 171 }
def rmX8_isPossible : Room := { frames := 1, cells := 0, slots := 0, locals := 21 }
def rmX8_carryOut : Room := { frames := 7, cells := 0, slots := 0, locals := 171 }
def rmX8_clearText : Room := { frames := 0, cells := 0, slots := 0, locals := 0 }
def rmX8_copy : Room := { frames := 2, cells := 0, slots := 0, locals := 50 }
def rmX8_hashLine : Room := { frames := 2, cells := 0, slots := 0, locals := 50 }
def rmX8_digest : Room := { frames := 3, cells := 0, slots := 0, locals := 77 }
def rmX8_drop : Room := { frames := 6, cells := 0, slots := 0, locals := 171 }
def rmX8_line : Room := { frames := 2, cells := 0, slots := 0, locals := 45 }
def rmX8_nextDropped : Room := { frames := 2, cells := 0, slots := 0, locals := 46 }
def rmX8_nextTorn : Room := { frames := 1, cells := 0, slots := 0, locals := 23 }
def rmX8_pass : Room := { frames := 7, cells := 0, slots := 0, locals := 171 }
def rmX8_pending : Room := { frames := 1, cells := 0, slots := 0, locals := 22 }
def rmX8_read : Room := { frames := 6, cells := 0, slots := 0, locals := 171 }
def rmX8_tear : Room := { frames := 6, cells := 0, slots := 0, locals := 171 }
def rmX8_undo : Room := { frames := 6, cells := 0, slots := 0, locals := 171 }
def rmX8_value : Room := { frames := 2, cells := 0, slots := 0, locals := 43 }
def rmX8_write : Room := { frames := 6, cells := 0, slots := 0, locals := 171 }
theorem u_2 : Cond.initialized RX8 ∈ WA := z_in0 _ (List.mem_of_getElem? (i := 2) (by decide +kernel))
theorem u_16 : Cond.initialized RX2 ∈ WA := z_in0 _ (List.mem_of_getElem? (i := 16) (by decide +kernel))
theorem u_68 : Cond.methodLink RX8 16 yX4_startAnew ∈ WA := z_in0 _ (List.mem_of_getElem? (i := 68) (by decide +kernel))
theorem u_69 : Cond.instanceMethod yX4_startAnew ∈ WA := z_in0 _ (List.mem_of_getElem? (i := 69) (by decide +kernel))
theorem u_70 : Cond.selects RX4 yX4_startAnew yX4_startAnew ∈ WA := z_in0 _ (List.mem_of_getElem? (i := 70) (by decide +kernel))
theorem u_71 : Cond.code yX4_startAnew cX4_startAnew 4 none ∈ WA := z_in0 _ (List.mem_of_getElem? (i := 71) (by decide +kernel))
theorem u_142 : Cond.methodLink RX8 149 yX4_number ∈ WA := z_in0 _ (List.mem_of_getElem? (i := 142) (by decide +kernel))
theorem u_143 : Cond.instanceMethod yX4_number ∈ WA := z_in0 _ (List.mem_of_getElem? (i := 143) (by decide +kernel))
theorem u_144 : Cond.selects RX4 yX4_number yX4_number ∈ WA := z_in0 _ (List.mem_of_getElem? (i := 144) (by decide +kernel))
theorem u_145 : Cond.code yX4_number cX4_number 2 (some .int) ∈ WA := z_in0 _ (List.mem_of_getElem? (i := 145) (by decide +kernel))
theorem u_165 : Cond.methodLink RX8 130 yX0_fact ∈ WA := z_in0 _ (List.mem_of_getElem? (i := 165) (by decide +kernel))
theorem u_166 : Cond.instanceMethod yX0_fact ∈ WA := z_in0 _ (List.mem_of_getElem? (i := 166) (by decide +kernel))
theorem u_167 : Cond.selects RX0 yX0_fact yX0_fact ∈ WA := z_in0 _ (List.mem_of_getElem? (i := 167) (by decide +kernel))
theorem u_168 : Cond.code yX0_fact cX0_fact 5 (some .int) ∈ WA := z_in0 _ (List.mem_of_getElem? (i := 168) (by decide +kernel))
theorem u_177 : Cond.methodLink RX8 134 yX4_lineFact ∈ WA := z_in0 _ (List.mem_of_getElem? (i := 177) (by decide +kernel))
theorem u_178 : Cond.instanceMethod yX4_lineFact ∈ WA := z_in0 _ (List.mem_of_getElem? (i := 178) (by decide +kernel))
theorem u_179 : Cond.selects RX4 yX4_lineFact yX4_lineFact ∈ WA := z_in0 _ (List.mem_of_getElem? (i := 179) (by decide +kernel))
theorem u_180 : Cond.code yX4_lineFact cX4_lineFact 3 (some .int) ∈ WA := z_in0 _ (List.mem_of_getElem? (i := 180) (by decide +kernel))
theorem u_207 : Cond.methodLink RX8 160 yX4_lineToDrop ∈ WA := z_in0 _ (List.mem_of_getElem? (i := 207) (by decide +kernel))
theorem u_224 : Cond.methodLink RX8 156 yX1_lineToTear ∈ WA := z_in0 _ (List.mem_of_getElem? (i := 224) (by decide +kernel))
theorem u_233 : Cond.methodLink RX8 48 yX2_save ∈ WA := z_in0 _ (List.mem_of_getElem? (i := 233) (by decide +kernel))
theorem u_234 : Cond.instanceMethod yX2_save ∈ WA := z_in0 _ (List.mem_of_getElem? (i := 234) (by decide +kernel))
theorem u_235 : Cond.selects RX2 yX2_save yX2_save ∈ WA := z_in0 _ (List.mem_of_getElem? (i := 235) (by decide +kernel))
theorem u_236 : Cond.code yX2_save cX2_save 2 none ∈ WA := z_in0 _ (List.mem_of_getElem? (i := 236) (by decide +kernel))
theorem u_279 : Cond.methodLink RX8 137 yX7_fact ∈ WA := z_in0 _ (List.mem_of_getElem? (i := 279) (by decide +kernel))
theorem u_280 : Cond.instanceMethod yX7_fact ∈ WA := z_in0 _ (List.mem_of_getElem? (i := 280) (by decide +kernel))
theorem u_281 : Cond.selects RX7 yX7_fact yX7_fact ∈ WA := z_in0 _ (List.mem_of_getElem? (i := 281) (by decide +kernel))
theorem u_282 : Cond.code yX7_fact cX7_fact 3 (some .int) ∈ WA := z_in0 _ (List.mem_of_getElem? (i := 282) (by decide +kernel))
theorem u_287 : Cond.methodLink RX8 66 yX7_isPending ∈ WA := z_in0 _ (List.mem_of_getElem? (i := 287) (by decide +kernel))
theorem u_296 : Cond.methodLink RX8 76 yX7_ask ∈ WA := z_in0 _ (List.mem_of_getElem? (i := 296) (by decide +kernel))
theorem u_297 : Cond.instanceMethod yX7_ask ∈ WA := z_in0 _ (List.mem_of_getElem? (i := 297) (by decide +kernel))
theorem u_298 : Cond.selects RX7 yX7_ask yX7_ask ∈ WA := z_in0 _ (List.mem_of_getElem? (i := 298) (by decide +kernel))
theorem u_299 : Cond.code yX7_ask cX7_ask 4 none ∈ WA := z_in0 _ (List.mem_of_getElem? (i := 299) (by decide +kernel))
theorem u_300 : Cond.methodLink RX8 79 yX4_isHit ∈ WA := z_in0 _ (List.mem_of_getElem? (i := 300) (by decide +kernel))
theorem u_317 : Cond.methodLink RX8 102 yX0_kindOf ∈ WA := z_in0 _ (List.mem_of_getElem? (i := 317) (by decide +kernel))
theorem u_318 : Cond.methodLink RX8 108 yX4_throwAway ∈ WA := z_in0 _ (List.mem_of_getElem? (i := 318) (by decide +kernel))
theorem u_338 : Cond.methodLink RX8 118 yX1_hasPage ∈ WA := z_in0 _ (List.mem_of_getElem? (i := 338) (by decide +kernel))
theorem u_339 : Cond.methodLink RX8 123 yX0_countOf ∈ WA := z_in0 _ (List.mem_of_getElem? (i := 339) (by decide +kernel))
theorem u_343 : Cond.methodLink RX8 126 yX1_tearOut ∈ WA := z_in0 _ (List.mem_of_getElem? (i := 343) (by decide +kernel))
theorem u_351 : Cond.methodLink RX8 91 yX4_hasTimeFor ∈ WA := z_in0 _ (List.mem_of_getElem? (i := 351) (by decide +kernel))
theorem u_352 : Cond.instanceMethod yX4_hasTimeFor ∈ WA := z_in0 _ (List.mem_of_getElem? (i := 352) (by decide +kernel))
theorem u_353 : Cond.selects RX4 yX4_hasTimeFor yX4_hasTimeFor ∈ WA := z_in0 _ (List.mem_of_getElem? (i := 353) (by decide +kernel))
theorem u_354 : Cond.code yX4_hasTimeFor cX4_hasTimeFor 2 (some .boolean) ∈ WA := z_in0 _ (List.mem_of_getElem? (i := 354) (by decide +kernel))
theorem u_356 : Cond.methodLink RX8 94 yX4_letPass ∈ WA := z_in0 _ (List.mem_of_getElem? (i := 356) (by decide +kernel))
theorem u_357 : Cond.instanceMethod yX4_letPass ∈ WA := z_in0 _ (List.mem_of_getElem? (i := 357) (by decide +kernel))
theorem u_358 : Cond.selects RX4 yX4_letPass yX4_letPass ∈ WA := z_in0 _ (List.mem_of_getElem? (i := 358) (by decide +kernel))
theorem u_359 : Cond.code yX4_letPass cX4_letPass 5 (some .int) ∈ WA := z_in0 _ (List.mem_of_getElem? (i := 359) (by decide +kernel))
theorem u_459 : Cond.methodLink RX8 202 yX8_hashLine ∈ WA := z_in0 _ (List.mem_of_getElem? (i := 459) (by decide +kernel))
theorem u_460 : Cond.instanceMethod yX8_hashLine ∈ WA := z_in0 _ (List.mem_of_getElem? (i := 460) (by decide +kernel))
theorem u_461 : Cond.selects RX8 yX8_hashLine yX8_hashLine ∈ WA := z_in0 _ (List.mem_of_getElem? (i := 461) (by decide +kernel))
theorem u_462 : Cond.code yX8_hashLine cX8_hashLine 8 (some .long) ∈ WA := z_in0 _ (List.mem_of_getElem? (i := 462) (by decide +kernel))
theorem u_463 : Cond.methodLink RX8 148 yX3_fact ∈ WA := z_in0 _ (List.mem_of_getElem? (i := 463) (by decide +kernel))
theorem u_464 : Cond.instanceMethod yX3_fact ∈ WA := z_in0 _ (List.mem_of_getElem? (i := 464) (by decide +kernel))
theorem u_465 : Cond.selects RX3 yX3_fact yX3_fact ∈ WA := z_in0 _ (List.mem_of_getElem? (i := 465) (by decide +kernel))
theorem u_466 : Cond.code yX3_fact cX3_fact 3 (some .int) ∈ WA := z_in0 _ (List.mem_of_getElem? (i := 466) (by decide +kernel))
theorem u_475 : Cond.methodLink RX8 177 yX5_readAll ∈ WA := z_in0 _ (List.mem_of_getElem? (i := 475) (by decide +kernel))
theorem u_476 : Cond.instanceMethod yX5_readAll ∈ WA := z_in0 _ (List.mem_of_getElem? (i := 476) (by decide +kernel))
theorem u_477 : Cond.selects RX5 yX5_readAll yX5_readAll ∈ WA := z_in0 _ (List.mem_of_getElem? (i := 477) (by decide +kernel))
theorem u_478 : Cond.code yX5_readAll cX5_readAll 6 (some .int) ∈ WA := z_in0 _ (List.mem_of_getElem? (i := 478) (by decide +kernel))
theorem u_526 : Cond.methodLink RX8 182 yX8_isPossible ∈ WA := z_in0 _ (List.mem_of_getElem? (i := 526) (by decide +kernel))
theorem u_527 : Cond.instanceMethod yX8_isPossible ∈ WA := z_in0 _ (List.mem_of_getElem? (i := 527) (by decide +kernel))
theorem u_528 : Cond.selects RX8 yX8_isPossible yX8_isPossible ∈ WA := z_in0 _ (List.mem_of_getElem? (i := 528) (by decide +kernel))
theorem u_529 : Cond.code yX8_isPossible cX8_isPossible 3 (some .boolean) ∈ WA := z_in0 _ (List.mem_of_getElem? (i := 529) (by decide +kernel))
theorem u_530 : Cond.methodLink RX8 185 yX5_isTicks ∈ WA := z_in0 _ (List.mem_of_getElem? (i := 530) (by decide +kernel))
theorem u_531 : Cond.instanceMethod yX5_isTicks ∈ WA := z_in0 _ (List.mem_of_getElem? (i := 531) (by decide +kernel))
theorem u_532 : Cond.selects RX5 yX5_isTicks yX5_isTicks ∈ WA := z_in0 _ (List.mem_of_getElem? (i := 532) (by decide +kernel))
theorem u_533 : Cond.code yX5_isTicks cX5_isTicks 2 (some .boolean) ∈ WA := z_in0 _ (List.mem_of_getElem? (i := 533) (by decide +kernel))
theorem u_538 : Cond.methodLink RX8 195 yX2_restore ∈ WA := z_in0 _ (List.mem_of_getElem? (i := 538) (by decide +kernel))
theorem u_539 : Cond.instanceMethod yX2_restore ∈ WA := z_in0 _ (List.mem_of_getElem? (i := 539) (by decide +kernel))
theorem u_540 : Cond.selects RX2 yX2_restore yX2_restore ∈ WA := z_in0 _ (List.mem_of_getElem? (i := 540) (by decide +kernel))
theorem u_541 : Cond.code yX2_restore cX2_restore 2 none ∈ WA := z_in0 _ (List.mem_of_getElem? (i := 541) (by decide +kernel))
theorem cwX8_16 {R : Room} {s : State} {args : Array Value} (hts : ∀ w ∈ WA, w.before args s = true) (hR : rmX4_startAnew.frames + 1 ≤ R.frames ∧ 8 + (4 + 11) + rmX4_startAnew.locals ≤ R.locals) : CallW R s args RX8 RX4 16 yX4_startAnew cX4_startAnew 4 none (Cond.code yX4_startAnew cX4_startAnew 4 none :: WA) rmX4_startAnew 0 0 3 := cwV 3 hts (z_goodV u_68 u_69 u_70 u_11 u_71) rfl rfl rfl (by decide +kernel) hR
theorem cwX8_48 {R : Room} {s : State} {args : Array Value} (hts : ∀ w ∈ WA, w.before args s = true) (hR : rmX2_save.frames + 1 ≤ R.frames ∧ 8 + (2 + 11) + rmX2_save.locals ≤ R.locals) : CallW R s args RX8 RX2 48 yX2_save cX2_save 2 none (Cond.code yX2_save cX2_save 2 none :: WA) rmX2_save 0 0 1 := cwV 1 hts (z_goodV u_233 u_234 u_235 u_16 u_236) rfl rfl rfl (by decide +kernel) hR
theorem cwX8_66 {R : Room} {s : State} {args : Array Value} (hts : ∀ w ∈ WA, w.before args s = true) (hR : rmX7_isPending.frames + 1 ≤ R.frames ∧ 8 + (2 + 11) + rmX7_isPending.locals ≤ R.locals) : CallW R s args RX8 RX7 66 yX7_isPending cX7_isPending 2 (some .boolean) (Cond.code yX7_isPending cX7_isPending 2 (some .boolean) :: WA) rmX7_isPending 0 0 1 := cwV 1 hts (z_goodV u_287 u_288 u_289 u_41 u_290) rfl rfl rfl (by decide +kernel) hR
theorem cwX8_76 {R : Room} {s : State} {args : Array Value} (hts : ∀ w ∈ WA, w.before args s = true) (hR : rmX7_ask.frames + 1 ≤ R.frames ∧ 8 + (4 + 11) + rmX7_ask.locals ≤ R.locals) : CallW R s args RX8 RX7 76 yX7_ask cX7_ask 4 none (Cond.code yX7_ask cX7_ask 4 none :: WA) rmX7_ask 0 0 3 := cwV 3 hts (z_goodV u_296 u_297 u_298 u_41 u_299) rfl rfl rfl (by decide +kernel) hR
theorem cwX8_79 {R : Room} {s : State} {args : Array Value} (hts : ∀ w ∈ WA, w.before args s = true) (hR : rmX4_isHit.frames + 1 ≤ R.frames ∧ 8 + (5 + 11) + rmX4_isHit.locals ≤ R.locals) : CallW R s args RX8 RX4 79 yX4_isHit cX4_isHit 5 (some .boolean) (Cond.code yX4_isHit cX4_isHit 5 (some .boolean) :: WA) rmX4_isHit 0 0 3 := cwV 3 hts (z_goodV u_300 u_301 u_302 u_11 u_303) rfl rfl rfl (by decide +kernel) hR
theorem cwX8_91 {R : Room} {s : State} {args : Array Value} (hts : ∀ w ∈ WA, w.before args s = true) (hR : rmX4_hasTimeFor.frames + 1 ≤ R.frames ∧ 8 + (2 + 11) + rmX4_hasTimeFor.locals ≤ R.locals) : CallW R s args RX8 RX4 91 yX4_hasTimeFor cX4_hasTimeFor 2 (some .boolean) (Cond.code yX4_hasTimeFor cX4_hasTimeFor 2 (some .boolean) :: WA) rmX4_hasTimeFor 0 0 1 := cwV 1 hts (z_goodV u_351 u_352 u_353 u_11 u_354) rfl rfl rfl (by decide +kernel) hR
theorem cwX8_94 {R : Room} {s : State} {args : Array Value} (hts : ∀ w ∈ WA, w.before args s = true) (hR : rmX4_letPass.frames + 1 ≤ R.frames ∧ 8 + (5 + 11) + rmX4_letPass.locals ≤ R.locals) : CallW R s args RX8 RX4 94 yX4_letPass cX4_letPass 5 (some .int) (Cond.code yX4_letPass cX4_letPass 5 (some .int) :: WA) rmX4_letPass 0 0 1 := cwV 1 hts (z_goodV u_356 u_357 u_358 u_11 u_359) rfl rfl rfl (by decide +kernel) hR
theorem cwX8_102 {R : Room} {s : State} {args : Array Value} (hts : ∀ w ∈ WA, w.before args s = true) (hR : rmX0_kindOf.frames + 1 ≤ R.frames ∧ 8 + (3 + 11) + rmX0_kindOf.locals ≤ R.locals) : CallW R s args RX8 RX0 102 yX0_kindOf cX0_kindOf 3 (some .int) (Cond.code yX0_kindOf cX0_kindOf 3 (some .int) :: WA) rmX0_kindOf 0 0 2 := cwV 2 hts (z_goodV u_317 u_305 u_306 u_33 u_307) rfl rfl rfl (by decide +kernel) hR
theorem cwX8_108 {R : Room} {s : State} {args : Array Value} (hts : ∀ w ∈ WA, w.before args s = true) (hR : rmX4_throwAway.frames + 1 ≤ R.frames ∧ 8 + (3 + 11) + rmX4_throwAway.locals ≤ R.locals) : CallW R s args RX8 RX4 108 yX4_throwAway cX4_throwAway 3 none (Cond.code yX4_throwAway cX4_throwAway 3 none :: WA) rmX4_throwAway 0 0 2 := cwV 2 hts (z_goodV u_318 u_319 u_320 u_11 u_321) rfl rfl rfl (by decide +kernel) hR
theorem cwX8_118 {R : Room} {s : State} {args : Array Value} (hts : ∀ w ∈ WA, w.before args s = true) (hR : rmX1_hasPage.frames + 1 ≤ R.frames ∧ 8 + (2 + 11) + rmX1_hasPage.locals ≤ R.locals) : CallW R s args RX8 RX1 118 yX1_hasPage cX1_hasPage 2 (some .boolean) (Cond.code yX1_hasPage cX1_hasPage 2 (some .boolean) :: WA) rmX1_hasPage 0 0 1 := cwV 1 hts (z_goodV u_338 u_190 u_191 u_37 u_192) rfl rfl rfl (by decide +kernel) hR
theorem cwX8_123 {R : Room} {s : State} {args : Array Value} (hts : ∀ w ∈ WA, w.before args s = true) (hR : rmX0_countOf.frames + 1 ≤ R.frames ∧ 8 + (4 + 11) + rmX0_countOf.locals ≤ R.locals) : CallW R s args RX8 RX0 123 yX0_countOf cX0_countOf 4 (some .int) (Cond.code yX0_countOf cX0_countOf 4 (some .int) :: WA) rmX0_countOf 0 0 1 := cwV 1 hts (z_goodV u_339 u_340 u_341 u_33 u_342) rfl rfl rfl (by decide +kernel) hR
theorem cwX8_126 {R : Room} {s : State} {args : Array Value} (hts : ∀ w ∈ WA, w.before args s = true) (hR : rmX1_tearOut.frames + 1 ≤ R.frames ∧ 8 + (3 + 11) + rmX1_tearOut.locals ≤ R.locals) : CallW R s args RX8 RX1 126 yX1_tearOut cX1_tearOut 3 none (Cond.code yX1_tearOut cX1_tearOut 3 none :: WA) rmX1_tearOut 0 0 2 := cwV 2 hts (z_goodV u_343 u_344 u_345 u_37 u_346) rfl rfl rfl (by decide +kernel) hR
theorem cwX8_130 {R : Room} {s : State} {args : Array Value} (hts : ∀ w ∈ WA, w.before args s = true) (hR : rmX0_fact.frames + 1 ≤ R.frames ∧ 8 + (5 + 11) + rmX0_fact.locals ≤ R.locals) : CallW R s args RX8 RX0 130 yX0_fact cX0_fact 5 (some .int) (Cond.code yX0_fact cX0_fact 5 (some .int) :: WA) rmX0_fact 0 0 3 := cwV 3 hts (z_goodV u_165 u_166 u_167 u_33 u_168) rfl rfl rfl (by decide +kernel) hR
theorem cwX8_134 {R : Room} {s : State} {args : Array Value} (hts : ∀ w ∈ WA, w.before args s = true) (hR : rmX4_lineFact.frames + 1 ≤ R.frames ∧ 8 + (3 + 11) + rmX4_lineFact.locals ≤ R.locals) : CallW R s args RX8 RX4 134 yX4_lineFact cX4_lineFact 3 (some .int) (Cond.code yX4_lineFact cX4_lineFact 3 (some .int) :: WA) rmX4_lineFact 0 0 2 := cwV 2 hts (z_goodV u_177 u_178 u_179 u_11 u_180) rfl rfl rfl (by decide +kernel) hR
theorem cwX8_137 {R : Room} {s : State} {args : Array Value} (hts : ∀ w ∈ WA, w.before args s = true) (hR : rmX7_fact.frames + 1 ≤ R.frames ∧ 8 + (3 + 11) + rmX7_fact.locals ≤ R.locals) : CallW R s args RX8 RX7 137 yX7_fact cX7_fact 3 (some .int) (Cond.code yX7_fact cX7_fact 3 (some .int) :: WA) rmX7_fact 0 0 2 := cwV 2 hts (z_goodV u_279 u_280 u_281 u_41 u_282) rfl rfl rfl (by decide +kernel) hR
theorem cwX8_148 {R : Room} {s : State} {args : Array Value} (hts : ∀ w ∈ WA, w.before args s = true) (hR : rmX3_fact.frames + 1 ≤ R.frames ∧ 8 + (3 + 11) + rmX3_fact.locals ≤ R.locals) : CallW R s args RX8 RX3 148 yX3_fact cX3_fact 3 (some .int) (Cond.code yX3_fact cX3_fact 3 (some .int) :: WA) rmX3_fact 0 0 2 := cwV 2 hts (z_goodV u_463 u_464 u_465 u_45 u_466) rfl rfl rfl (by decide +kernel) hR
theorem cwX8_149 {R : Room} {s : State} {args : Array Value} (hts : ∀ w ∈ WA, w.before args s = true) (hR : rmX4_number.frames + 1 ≤ R.frames ∧ 8 + (2 + 11) + rmX4_number.locals ≤ R.locals) : CallW R s args RX8 RX4 149 yX4_number cX4_number 2 (some .int) (Cond.code yX4_number cX4_number 2 (some .int) :: WA) rmX4_number 0 0 1 := cwV 1 hts (z_goodV u_142 u_143 u_144 u_11 u_145) rfl rfl rfl (by decide +kernel) hR
theorem cwX8_156 {R : Room} {s : State} {args : Array Value} (hts : ∀ w ∈ WA, w.before args s = true) (hR : rmX1_lineToTear.frames + 1 ≤ R.frames ∧ 8 + (4 + 11) + rmX1_lineToTear.locals ≤ R.locals) : CallW R s args RX8 RX1 156 yX1_lineToTear cX1_lineToTear 4 (some .int) (Cond.code yX1_lineToTear cX1_lineToTear 4 (some .int) :: WA) rmX1_lineToTear 0 0 0 := cwV 0 hts (z_goodV u_224 u_225 u_226 u_37 u_227) rfl rfl rfl (by decide +kernel) hR
theorem cwX8_160 {R : Room} {s : State} {args : Array Value} (hts : ∀ w ∈ WA, w.before args s = true) (hR : rmX4_lineToDrop.frames + 1 ≤ R.frames ∧ 8 + (2 + 11) + rmX4_lineToDrop.locals ≤ R.locals) : CallW R s args RX8 RX4 160 yX4_lineToDrop cX4_lineToDrop 2 (some .int) (Cond.code yX4_lineToDrop cX4_lineToDrop 2 (some .int) :: WA) rmX4_lineToDrop 0 0 1 := cwV 1 hts (z_goodV u_207 u_208 u_209 u_11 u_210) rfl rfl rfl (by decide +kernel) hR
theorem cwX8_177 {R : Room} {s : State} {args : Array Value} (hts : ∀ w ∈ WA, w.before args s = true) (hR : rmX5_readAll.frames + 1 ≤ R.frames ∧ 8 + (6 + 11) + rmX5_readAll.locals ≤ R.locals) : CallW R s args RX8 RX5 177 yX5_readAll cX5_readAll 6 (some .int) (Cond.code yX5_readAll cX5_readAll 6 (some .int) :: WA) rmX5_readAll 0 0 2 := cwV 2 hts (z_goodV u_475 u_476 u_477 u_23 u_478) rfl rfl rfl (by decide +kernel) hR
theorem cwX8_182 {R : Room} {s : State} {args : Array Value} (hts : ∀ w ∈ WA, w.before args s = true) (hR : rmX8_isPossible.frames + 1 ≤ R.frames ∧ 8 + (3 + 11) + rmX8_isPossible.locals ≤ R.locals) : CallW R s args RX8 RX8 182 yX8_isPossible cX8_isPossible 3 (some .boolean) (Cond.code yX8_isPossible cX8_isPossible 3 (some .boolean) :: WA) rmX8_isPossible 0 0 1 := cwV 1 hts (z_goodV u_526 u_527 u_528 u_2 u_529) rfl rfl rfl (by decide +kernel) hR
theorem cwX8_185 {R : Room} {s : State} {args : Array Value} (hts : ∀ w ∈ WA, w.before args s = true) (hR : rmX5_isTicks.frames + 1 ≤ R.frames ∧ 8 + (2 + 11) + rmX5_isTicks.locals ≤ R.locals) : CallW R s args RX8 RX5 185 yX5_isTicks cX5_isTicks 2 (some .boolean) (Cond.code yX5_isTicks cX5_isTicks 2 (some .boolean) :: WA) rmX5_isTicks 0 0 1 := cwV 1 hts (z_goodV u_530 u_531 u_532 u_23 u_533) rfl rfl rfl (by decide +kernel) hR
theorem cwX8_195 {R : Room} {s : State} {args : Array Value} (hts : ∀ w ∈ WA, w.before args s = true) (hR : rmX2_restore.frames + 1 ≤ R.frames ∧ 8 + (2 + 11) + rmX2_restore.locals ≤ R.locals) : CallW R s args RX8 RX2 195 yX2_restore cX2_restore 2 none (Cond.code yX2_restore cX2_restore 2 none :: WA) rmX2_restore 0 0 1 := cwV 1 hts (z_goodV u_538 u_539 u_540 u_16 u_541) rfl rfl rfl (by decide +kernel) hR
theorem cwX8_202 {R : Room} {s : State} {args : Array Value} (hts : ∀ w ∈ WA, w.before args s = true) (hR : rmX8_hashLine.frames + 1 ≤ R.frames ∧ 8 + (8 + 11) + rmX8_hashLine.locals ≤ R.locals) : CallW R s args RX8 RX8 202 yX8_hashLine cX8_hashLine 8 (some .long) (Cond.code yX8_hashLine cX8_hashLine 8 (some .long) :: WA) rmX8_hashLine 0 0 2 := cwV 2 hts (z_goodV u_459 u_460 u_461 u_2 u_462) rfl rfl rfl (by decide +kernel) hR
section QL
variable {p : Program} {l : Launch} {e : Env} {R : Room} {s : State} {m : MethodId} {args : Array Value} {below : List Frame} {meth : Method} {c : Code} {H : Heap} {locs : List Loc} {cells slots : Nat} {Q : State → Prop} {cc : ByteArray} {nL pc : Nat} {own : String} {ls : Array Slot} {rest st0 : List Value} {γ : Type} {res : γ} {D : va_G} {cI cB cM : ClassId} {ad6 : Nat → Nat} {a : Nat → Nat → Nat} {A : Nat → Prop} {σ : cSt}
theorem qld4 (S : CallFix p m c cc nL s args WA RX8) (K : qK D cI cB cM ad6 A s) (hs : qS D cI cB cM ad6 a A s σ H locs) {i : Int32} {k : Int32 → Option γ} (hf : (z_ag (σ 6 0) 34 i).bind k = some res) (hdg : decode cc pc = .ok (.iaload, 1)) (kk : ∀ x : Int32, k x = some res → W p l e R s m args below meth c H locs cells slots Q (F0 m (pc + 1) ls (.int x :: rest))) : W p l e R s m args below meth c H locs cells slots Q (F0 m pc ls (.int i :: .ref (a 3 1) :: rest)) := by
  obtain ⟨G, hP, hD, hS⟩ := hs
  exact z_ald S K.1 hP 4 0 rfl rfl hf hdg kk
theorem qld5 (S : CallFix p m c cc nL s args WA RX8) (K : qK D cI cB cM ad6 A s) (hs : qS D cI cB cM ad6 a A s σ H locs) {i : Int32} {k : Int32 → Option γ} (hf : (z_ag (σ 6 1) 34 i).bind k = some res) (hdg : decode cc pc = .ok (.iaload, 1)) (kk : ∀ x : Int32, k x = some res → W p l e R s m args below meth c H locs cells slots Q (F0 m (pc + 1) ls (.int x :: rest))) : W p l e R s m args below meth c H locs cells slots Q (F0 m pc ls (.int i :: .ref (a 3 2) :: rest)) := by
  obtain ⟨G, hP, hD, hS⟩ := hs
  exact z_ald S K.1 hP 5 0 rfl rfl hf hdg kk
theorem qld6 (S : CallFix p m c cc nL s args WA RX8) (K : qK D cI cB cM ad6 A s) (hs : qS D cI cB cM ad6 a A s σ H locs) {i : Int32} {k : Int32 → Option γ} (hf : (z_ag (σ 6 2) 34 i).bind k = some res) (hdg : decode cc pc = .ok (.iaload, 1)) (kk : ∀ x : Int32, k x = some res → W p l e R s m args below meth c H locs cells slots Q (F0 m (pc + 1) ls (.int x :: rest))) : W p l e R s m args below meth c H locs cells slots Q (F0 m pc ls (.int i :: .ref (a 3 3) :: rest)) := by
  obtain ⟨G, hP, hD, hS⟩ := hs
  exact z_ald S K.1 hP 6 0 rfl rfl hf hdg kk
/-- a byte of the text -/
theorem qbst (S : CallFix p m c cc nL s args WA RX8) (K : qK D cI cB cM ad6 A s) (hs : qS D cI cB cM ad6 a A s σ H locs) {i x : Int32} {k : cSt → Option γ} (hf : (c_sb σ i x).bind k = some res) (hdg : decode cc pc = .ok (.bastore, 1)) (kk : ∀ (σ' : cSt) (H1 : Heap) (locs1 : List Loc), qS D cI cB cM ad6 a A s σ' H1 locs1 → k σ' = some res → W p l e R s m args below meth c H1 locs1 cells slots Q (F0 m (pc + 1) ls rest)) : W p l e R s m args below meth c H locs cells slots Q (F0 m pc ls (.int x :: .int i :: .ref (a 3 4) :: rest)) := by
  obtain ⟨G, hP, hD, hS⟩ := hs
  unfold c_sb at hf
  split at hf
  · simp at hf
  · rename_i hn
    exact va_bast S.1 S.2.1 K.1 hP (qD_va hD cI cB cM ad6 σ) hS 7 1 rfl rfl hn hdg (fun H1 locs1 h1 h2 h3 => kk (c_up σ 6 (z_up (σ 6) 11 (upd (σ 6 11) i.toNatClampNeg (vp_nar .byte x)))) H1 locs1 ⟨G, h1, hD, h3⟩ hf)
theorem qgX8_111_8 (S : CallFix p m c cc nL s args WA RX8) (K : qK D cI cB cM ad6 A s) (hs : qS D cI cB cM ad6 a A s σ H locs) (hdg : decode cc pc = .ok (.getfield 111, 3)) (kk : W p l e R s m args below meth c H locs cells slots Q (F0 m (pc + 3) ls (.int (σ 0 22 0) :: rest))) : W p l e R s m args below meth c H locs cells slots Q (F0 m pc ls (.ref (a 1 0) :: rest)) := by
  obtain ⟨G, hP, hD, hS⟩ := hs
  exact va_get (D := D) (ci := 4) (v := .int (σ 0 22 0)) (C := RX4) (T := TX4) (N := 14) S.1 S.2.1 S.2.2.2.2 inlX4 S.2.2.2.1 K.1 hP 8 rfl rfl 9 (by decide) (S.2.2.2.2 _ u_316) (fun _ h9 => h9) rfl hdg kk
theorem qgX8_114_8 (S : CallFix p m c cc nL s args WA RX8) (K : qK D cI cB cM ad6 A s) (hs : qS D cI cB cM ad6 a A s σ H locs) (hdg : decode cc pc = .ok (.getfield 114, 3)) (kk : W p l e R s m args below meth c H locs cells slots Q (F0 m (pc + 3) ls (.ref (a 1 8) :: rest))) : W p l e R s m args below meth c H locs cells slots Q (F0 m pc ls (.ref (a 1 0) :: rest)) := by
  obtain ⟨G, hP, hD, hS⟩ := hs
  exact va_get (D := D) (ci := 4) (v := .ref (a 1 8)) (C := RX4) (T := TX4) (N := 14) S.1 S.2.1 S.2.2.2.2 inlX4 S.2.2.2.1 K.1 hP 8 rfl rfl 3 (by decide) (S.2.2.2.2 _ u_223) (fun _ h9 => h9) rfl hdg kk
theorem qgX8_12_0 (S : CallFix p m c cc nL s args WA RX8) (K : qK D cI cB cM ad6 A s) (hs : qS D cI cB cM ad6 a A s σ H locs) (hdg : decode cc pc = .ok (.getfield 12, 3)) (kk : W p l e R s m args below meth c H locs cells slots Q (F0 m (pc + 3) ls (.ref (a 1 0) :: rest))) : W p l e R s m args below meth c H locs cells slots Q (F0 m pc ls (.ref (a 0 0) :: rest)) := by
  obtain ⟨G, hP, hD, hS⟩ := hs
  exact va_get (D := D) (ci := 7) (v := .ref (a 1 0)) (C := RX8) (T := TX8) (N := 6) S.1 S.2.1 S.2.2.2.2 inlX8 S.2.2.2.1 K.1 hP 0 rfl rfl 0 (by decide) (S.2.2.2.2 _ u_12) (fun _ h9 => h9) rfl hdg kk
theorem qgX8_139_8 (S : CallFix p m c cc nL s args WA RX8) (K : qK D cI cB cM ad6 A s) (hs : qS D cI cB cM ad6 a A s σ H locs) (hdg : decode cc pc = .ok (.getfield 139, 3)) (kk : W p l e R s m args below meth c H locs cells slots Q (F0 m (pc + 3) ls (.ref (a 1 14) :: rest))) : W p l e R s m args below meth c H locs cells slots Q (F0 m pc ls (.ref (a 1 0) :: rest)) := by
  obtain ⟨G, hP, hD, hS⟩ := hs
  exact va_get (D := D) (ci := 4) (v := .ref (a 1 14)) (C := RX4) (T := TX4) (N := 14) S.1 S.2.1 S.2.2.2.2 inlX4 S.2.2.2.1 K.1 hP 8 rfl rfl 5 (by decide) (S.2.2.2.2 _ u_456) (fun _ h9 => h9) rfl hdg kk
theorem qgX8_143_22 (S : CallFix p m c cc nL s args WA RX8) (K : qK D cI cB cM ad6 A s) (hs : qS D cI cB cM ad6 a A s σ H locs) (hdg : decode cc pc = .ok (.getfield 143, 3)) (kk : W p l e R s m args below meth c H locs cells slots Q (F0 m (pc + 3) ls (.int (σ 0 18 0) :: rest))) : W p l e R s m args below meth c H locs cells slots Q (F0 m pc ls (.ref (a 1 14) :: rest)) := by
  obtain ⟨G, hP, hD, hS⟩ := hs
  exact va_get (D := D) (ci := 3) (v := .int (σ 0 18 0)) (C := RX3) (T := TX3) (N := 2) S.1 S.2.1 S.2.2.2.2 inlX3 S.2.2.2.1 K.1 hP 22 rfl rfl 1 (by decide) (S.2.2.2.2 _ u_457) (fun _ h9 => h9) rfl hdg kk
theorem qgX8_181_3 (S : CallFix p m c cc nL s args WA RX8) (K : qK D cI cB cM ad6 A s) (hs : qS D cI cB cM ad6 a A s σ H locs) (hdg : decode cc pc = .ok (.getfield 181, 3)) (kk : W p l e R s m args below meth c H locs cells slots Q (F0 m (pc + 3) ls (.int (σ 6 3 0) :: rest))) : W p l e R s m args below meth c H locs cells slots Q (F0 m pc ls (.ref (a 3 0) :: rest)) := by
  obtain ⟨G, hP, hD, hS⟩ := hs
  exact va_get (D := D) (ci := 5) (v := .int (σ 6 3 0)) (C := RX5) (T := TX5) (N := 11) S.1 S.2.1 S.2.2.2.2 inlX5 S.2.2.2.1 K.1 hP 3 rfl rfl 3 (by decide) (S.2.2.2.2 _ u_471) (fun _ h9 => h9) rfl hdg kk
theorem qgX8_188_3 (S : CallFix p m c cc nL s args WA RX8) (K : qK D cI cB cM ad6 A s) (hs : qS D cI cB cM ad6 a A s σ H locs) (hdg : decode cc pc = .ok (.getfield 188, 3)) (kk : W p l e R s m args below meth c H locs cells slots Q (F0 m (pc + 3) ls (.ref (a 3 3) :: rest))) : W p l e R s m args below meth c H locs cells slots Q (F0 m pc ls (.ref (a 3 0) :: rest)) := by
  obtain ⟨G, hP, hD, hS⟩ := hs
  exact va_get (D := D) (ci := 5) (v := .ref (a 3 3)) (C := RX5) (T := TX5) (N := 11) S.1 S.2.1 S.2.2.2.2 inlX5 S.2.2.2.1 K.1 hP 3 rfl rfl 2 (by decide) (S.2.2.2.2 _ u_472) (fun _ h9 => h9) rfl hdg kk
theorem qgX8_190_3 (S : CallFix p m c cc nL s args WA RX8) (K : qK D cI cB cM ad6 A s) (hs : qS D cI cB cM ad6 a A s σ H locs) (hdg : decode cc pc = .ok (.getfield 190, 3)) (kk : W p l e R s m args below meth c H locs cells slots Q (F0 m (pc + 3) ls (.ref (a 3 1) :: rest))) : W p l e R s m args below meth c H locs cells slots Q (F0 m pc ls (.ref (a 3 0) :: rest)) := by
  obtain ⟨G, hP, hD, hS⟩ := hs
  exact va_get (D := D) (ci := 5) (v := .ref (a 3 1)) (C := RX5) (T := TX5) (N := 11) S.1 S.2.1 S.2.2.2.2 inlX5 S.2.2.2.1 K.1 hP 3 rfl rfl 0 (by decide) (S.2.2.2.2 _ u_473) (fun _ h9 => h9) rfl hdg kk
theorem qgX8_193_3 (S : CallFix p m c cc nL s args WA RX8) (K : qK D cI cB cM ad6 A s) (hs : qS D cI cB cM ad6 a A s σ H locs) (hdg : decode cc pc = .ok (.getfield 193, 3)) (kk : W p l e R s m args below meth c H locs cells slots Q (F0 m (pc + 3) ls (.ref (a 3 2) :: rest))) : W p l e R s m args below meth c H locs cells slots Q (F0 m pc ls (.ref (a 3 0) :: rest)) := by
  obtain ⟨G, hP, hD, hS⟩ := hs
  exact va_get (D := D) (ci := 5) (v := .ref (a 3 2)) (C := RX5) (T := TX5) (N := 11) S.1 S.2.1 S.2.2.2.2 inlX5 S.2.2.2.1 K.1 hP 3 rfl rfl 1 (by decide) (S.2.2.2.2 _ u_474) (fun _ h9 => h9) rfl hdg kk
theorem qgX8_194_1 (S : CallFix p m c cc nL s args WA RX8) (K : qK D cI cB cM ad6 A s) (hs : qS D cI cB cM ad6 a A s σ H locs) (hdg : decode cc pc = .ok (.getfield 194, 3)) (kk : W p l e R s m args below meth c H locs cells slots Q (F0 m (pc + 3) ls (.int (σ 7 1 0) :: rest))) : W p l e R s m args below meth c H locs cells slots Q (F0 m pc ls (.ref (a 0 1) :: rest)) := by
  obtain ⟨G, hP, hD, hS⟩ := hs
  exact va_get (D := D) (ci := 2) (v := .int (σ 7 1 0)) (C := RX2) (T := TX2) (N := 2) S.1 S.2.1 S.2.2.2.2 inlX2 S.2.2.2.1 K.1 hP 1 rfl rfl 1 (by decide) (S.2.2.2.2 _ u_458) (fun _ h9 => h9) rfl hdg kk
theorem qgX8_26_0 (S : CallFix p m c cc nL s args WA RX8) (K : qK D cI cB cM ad6 A s) (hs : qS D cI cB cM ad6 a A s σ H locs) (hdg : decode cc pc = .ok (.getfield 26, 3)) (kk : W p l e R s m args below meth c H locs cells slots Q (F0 m (pc + 3) ls (.ref (a 0 1) :: rest))) : W p l e R s m args below meth c H locs cells slots Q (F0 m pc ls (.ref (a 0 0) :: rest)) := by
  obtain ⟨G, hP, hD, hS⟩ := hs
  exact va_get (D := D) (ci := 7) (v := .ref (a 0 1)) (C := RX8) (T := TX8) (N := 6) S.1 S.2.1 S.2.2.2.2 inlX8 S.2.2.2.1 K.1 hP 0 rfl rfl 2 (by decide) (S.2.2.2.2 _ u_17) (fun _ h9 => h9) rfl hdg kk
theorem qgX8_30_0 (S : CallFix p m c cc nL s args WA RX8) (K : qK D cI cB cM ad6 A s) (hs : qS D cI cB cM ad6 a A s σ H locs) (hdg : decode cc pc = .ok (.getfield 30, 3)) (kk : W p l e R s m args below meth c H locs cells slots Q (F0 m (pc + 3) ls (.ref (a 3 4) :: rest))) : W p l e R s m args below meth c H locs cells slots Q (F0 m pc ls (.ref (a 0 0) :: rest)) := by
  obtain ⟨G, hP, hD, hS⟩ := hs
  exact va_get (D := D) (ci := 7) (v := .ref (a 3 4)) (C := RX8) (T := TX8) (N := 6) S.1 S.2.1 S.2.2.2.2 inlX8 S.2.2.2.1 K.1 hP 0 rfl rfl 3 (by decide) (S.2.2.2.2 _ u_19) (fun _ h9 => h9) rfl hdg kk
theorem qgX8_34_0 (S : CallFix p m c cc nL s args WA RX8) (K : qK D cI cB cM ad6 A s) (hs : qS D cI cB cM ad6 a A s σ H locs) (hdg : decode cc pc = .ok (.getfield 34, 3)) (kk : W p l e R s m args below meth c H locs cells slots Q (F0 m (pc + 3) ls (.int (σ 7 0 0) :: rest))) : W p l e R s m args below meth c H locs cells slots Q (F0 m pc ls (.ref (a 0 0) :: rest)) := by
  obtain ⟨G, hP, hD, hS⟩ := hs
  exact va_get (D := D) (ci := 7) (v := .int (σ 7 0 0)) (C := RX8) (T := TX8) (N := 6) S.1 S.2.1 S.2.2.2.2 inlX8 S.2.2.2.1 K.1 hP 0 rfl rfl 4 (by decide) (S.2.2.2.2 _ u_20) (fun _ h9 => h9) rfl hdg kk
theorem qgX8_41_0 (S : CallFix p m c cc nL s args WA RX8) (K : qK D cI cB cM ad6 A s) (hs : qS D cI cB cM ad6 a A s σ H locs) (hdg : decode cc pc = .ok (.getfield 41, 3)) (kk : W p l e R s m args below meth c H locs cells slots Q (F0 m (pc + 3) ls (.ref (a 3 0) :: rest))) : W p l e R s m args below meth c H locs cells slots Q (F0 m pc ls (.ref (a 0 0) :: rest)) := by
  obtain ⟨G, hP, hD, hS⟩ := hs
  exact va_get (D := D) (ci := 7) (v := .ref (a 3 0)) (C := RX8) (T := TX8) (N := 6) S.1 S.2.1 S.2.2.2.2 inlX8 S.2.2.2.1 K.1 hP 0 rfl rfl 5 (by decide) (S.2.2.2.2 _ u_24) (fun _ h9 => h9) rfl hdg kk
theorem qgX8_52_8 (S : CallFix p m c cc nL s args WA RX8) (K : qK D cI cB cM ad6 A s) (hs : qS D cI cB cM ad6 a A s σ H locs) (hdg : decode cc pc = .ok (.getfield 52, 3)) (kk : W p l e R s m args below meth c H locs cells slots Q (F0 m (pc + 3) ls (.int (σ 0 21 0) :: rest))) : W p l e R s m args below meth c H locs cells slots Q (F0 m pc ls (.ref (a 1 0) :: rest)) := by
  obtain ⟨G, hP, hD, hS⟩ := hs
  exact va_get (D := D) (ci := 4) (v := .int (σ 0 21 0)) (C := RX4) (T := TX4) (N := 14) S.1 S.2.1 S.2.2.2.2 inlX4 S.2.2.2.1 K.1 hP 8 rfl rfl 8 (by decide) (S.2.2.2.2 _ u_232) (fun _ h9 => h9) rfl hdg kk
theorem qgX8_55_8 (S : CallFix p m c cc nL s args WA RX8) (K : qK D cI cB cM ad6 A s) (hs : qS D cI cB cM ad6 a A s σ H locs) (hdg : decode cc pc = .ok (.getfield 55, 3)) (kk : W p l e R s m args below meth c H locs cells slots Q (F0 m (pc + 3) ls (.int (σ 0 19 0) :: rest))) : W p l e R s m args below meth c H locs cells slots Q (F0 m pc ls (.ref (a 1 0) :: rest)) := by
  obtain ⟨G, hP, hD, hS⟩ := hs
  exact va_get (D := D) (ci := 4) (v := .int (σ 0 19 0)) (C := RX4) (T := TX4) (N := 14) S.1 S.2.1 S.2.2.2.2 inlX4 S.2.2.2.1 K.1 hP 8 rfl rfl 6 (by decide) (S.2.2.2.2 _ u_158) (fun _ h9 => h9) rfl hdg kk
theorem qgX8_62_8 (S : CallFix p m c cc nL s args WA RX8) (K : qK D cI cB cM ad6 A s) (hs : qS D cI cB cM ad6 a A s σ H locs) (hdg : decode cc pc = .ok (.getfield 62, 3)) (kk : W p l e R s m args below meth c H locs cells slots Q (F0 m (pc + 3) ls (.ref (a 1 10) :: rest))) : W p l e R s m args below meth c H locs cells slots Q (F0 m pc ls (.ref (a 1 0) :: rest)) := by
  obtain ⟨G, hP, hD, hS⟩ := hs
  exact va_get (D := D) (ci := 4) (v := .ref (a 1 10)) (C := RX4) (T := TX4) (N := 14) S.1 S.2.1 S.2.2.2.2 inlX4 S.2.2.2.1 K.1 hP 8 rfl rfl 4 (by decide) (S.2.2.2.2 _ u_278) (fun _ h9 => h9) rfl hdg kk
theorem qgX8_98_8 (S : CallFix p m c cc nL s args WA RX8) (K : qK D cI cB cM ad6 A s) (hs : qS D cI cB cM ad6 a A s σ H locs) (hdg : decode cc pc = .ok (.getfield 98, 3)) (kk : W p l e R s m args below meth c H locs cells slots Q (F0 m (pc + 3) ls (.ref (a 1 3) :: rest))) : W p l e R s m args below meth c H locs cells slots Q (F0 m pc ls (.ref (a 1 0) :: rest)) := by
  obtain ⟨G, hP, hD, hS⟩ := hs
  exact va_get (D := D) (ci := 4) (v := .ref (a 1 3)) (C := RX4) (T := TX4) (N := 14) S.1 S.2.1 S.2.2.2.2 inlX4 S.2.2.2.1 K.1 hP 8 rfl rfl 2 (by decide) (S.2.2.2.2 _ u_159) (fun _ h9 => h9) rfl hdg kk
theorem qpX8_111_8 (S : CallFix p m c cc nL s args WA RX8) (K : qK D cI cB cM ad6 A s) (hs : qS D cI cB cM ad6 a A s σ H locs) {x : Int32} {k : cSt → Option γ} (hf : (c_sf σ 0 22 x).bind k = some res) (hdg : decode cc pc = .ok (.putfield 111, 3)) (kk : ∀ (σ' : cSt) (H1 : Heap) (locs1 : List Loc), qS D cI cB cM ad6 a A s σ' H1 locs1 → k σ' = some res → W p l e R s m args below meth c H1 locs1 cells slots Q (F0 m (pc + 3) ls rest)) : W p l e R s m args below meth c H locs cells slots Q (F0 m pc ls (.int x :: .ref (a 1 0) :: rest)) := by
  obtain ⟨G, hP, hD, hS⟩ := hs
  exact va_put (D := D) (ci := 4) (v := .int x) (ty := .int) (C := RX4) (T := TX4) (N := 14) S.1 S.2.1 S.2.2.2.2 inlX4 tyX4 tyX4_ok nmX4 S.2.2.2.1 K.1 hP (qD_va hD cI cB cM ad6 σ) hS 8 rfl rfl 9 (by decide) (S.2.2.2.2 _ u_316) (fun _ h9 => h9) rfl (by decide +kernel) rfl rfl (Nat.le_of_ble_eq_true rfl) hdg (fun H1 locs1 h1 h2 h3 => kk (c_up σ 0 (z_up (σ 0) 22 (fun _ => x))) H1 locs1 ⟨G, h1, hD, h3⟩ hf)
theorem qpX8_34_0 (S : CallFix p m c cc nL s args WA RX8) (K : qK D cI cB cM ad6 A s) (hs : qS D cI cB cM ad6 a A s σ H locs) {x : Int32} {k : cSt → Option γ} (hf : (c_sf σ 7 0 x).bind k = some res) (hdg : decode cc pc = .ok (.putfield 34, 3)) (kk : ∀ (σ' : cSt) (H1 : Heap) (locs1 : List Loc), qS D cI cB cM ad6 a A s σ' H1 locs1 → k σ' = some res → W p l e R s m args below meth c H1 locs1 cells slots Q (F0 m (pc + 3) ls rest)) : W p l e R s m args below meth c H locs cells slots Q (F0 m pc ls (.int x :: .ref (a 0 0) :: rest)) := by
  obtain ⟨G, hP, hD, hS⟩ := hs
  exact va_put (D := D) (ci := 7) (v := .int x) (ty := .int) (C := RX8) (T := TX8) (N := 6) S.1 S.2.1 S.2.2.2.2 inlX8 tyX8 tyX8_ok nmX8 S.2.2.2.1 K.1 hP (qD_va hD cI cB cM ad6 σ) hS 0 rfl rfl 4 (by decide) (S.2.2.2.2 _ u_20) (fun _ h9 => h9) rfl (by decide +kernel) rfl rfl (Nat.le_of_ble_eq_true rfl) hdg (fun H1 locs1 h1 h2 h3 => kk (c_up σ 7 (z_up (σ 7) 0 (fun _ => x))) H1 locs1 ⟨G, h1, hD, h3⟩ hf)
theorem qV0 (K : qK D cI cB cM ad6 A s) (hs : qS D cI cB cM ad6 a A s σ H locs) : ∃ cellB : Cell, H[a 0 0]? = some cellB ∧ cellB.vm.isStatics = false ∧ s.vm.findClass RX8 = some cellB.cls := by
  obtain ⟨G, hP, hD, hS⟩ := hs
  exact va_recv K.1 hP (ci := 7) (q0 := 0) rfl rfl
theorem qV1 (K : qK D cI cB cM ad6 A s) (hs : qS D cI cB cM ad6 a A s σ H locs) : ∃ cellB : Cell, H[a 0 1]? = some cellB ∧ cellB.vm.isStatics = false ∧ s.vm.findClass RX2 = some cellB.cls := by
  obtain ⟨G, hP, hD, hS⟩ := hs
  exact va_recv K.1 hP (ci := 2) (q0 := 1) rfl rfl
theorem qV3 (K : qK D cI cB cM ad6 A s) (hs : qS D cI cB cM ad6 a A s σ H locs) : ∃ cellB : Cell, H[a 3 0]? = some cellB ∧ cellB.vm.isStatics = false ∧ s.vm.findClass RX5 = some cellB.cls := by
  obtain ⟨G, hP, hD, hS⟩ := hs
  exact va_recv K.1 hP (ci := 5) (q0 := 3) rfl rfl
theorem qV8 (K : qK D cI cB cM ad6 A s) (hs : qS D cI cB cM ad6 a A s σ H locs) : ∃ cellB : Cell, H[a 1 0]? = some cellB ∧ cellB.vm.isStatics = false ∧ s.vm.findClass RX4 = some cellB.cls := by
  obtain ⟨G, hP, hD, hS⟩ := hs
  exact va_recv K.1 hP (ci := 4) (q0 := 8) rfl rfl
theorem qV11 (K : qK D cI cB cM ad6 A s) (hs : qS D cI cB cM ad6 a A s σ H locs) : ∃ cellB : Cell, H[a 1 3]? = some cellB ∧ cellB.vm.isStatics = false ∧ s.vm.findClass RX0 = some cellB.cls := by
  obtain ⟨G, hP, hD, hS⟩ := hs
  exact va_recv K.1 hP (ci := 0) (q0 := 11) rfl rfl
theorem qV16 (K : qK D cI cB cM ad6 A s) (hs : qS D cI cB cM ad6 a A s σ H locs) : ∃ cellB : Cell, H[a 1 8]? = some cellB ∧ cellB.vm.isStatics = false ∧ s.vm.findClass RX1 = some cellB.cls := by
  obtain ⟨G, hP, hD, hS⟩ := hs
  exact va_recv K.1 hP (ci := 1) (q0 := 16) rfl rfl
theorem qV18 (K : qK D cI cB cM ad6 A s) (hs : qS D cI cB cM ad6 a A s σ H locs) : ∃ cellB : Cell, H[a 1 10]? = some cellB ∧ cellB.vm.isStatics = false ∧ s.vm.findClass RX7 = some cellB.cls := by
  obtain ⟨G, hP, hD, hS⟩ := hs
  exact va_recv K.1 hP (ci := 6) (q0 := 18) rfl rfl
theorem qV22 (K : qK D cI cB cM ad6 A s) (hs : qS D cI cB cM ad6 a A s σ H locs) : ∃ cellB : Cell, H[a 1 14]? = some cellB ∧ cellB.vm.isStatics = false ∧ s.vm.findClass RX3 = some cellB.cls := by
  obtain ⟨G, hP, hD, hS⟩ := hs
  exact va_recv K.1 hP (ci := 3) (q0 := 22) rfl rfl
theorem qV24 (K : qK D cI cB cM ad6 A s) (hs : qS D cI cB cM ad6 a A s σ H locs) : ∃ cellB : Cell, H[a 2 0]? = some cellB ∧ cellB.vm.isStatics = false ∧ s.vm.findClass RX4 = some cellB.cls := by
  obtain ⟨G, hP, hD, hS⟩ := hs
  exact va_recv K.1 hP (ci := 4) (q0 := 24) rfl rfl
theorem qV27 (K : qK D cI cB cM ad6 A s) (hs : qS D cI cB cM ad6 a A s σ H locs) : ∃ cellB : Cell, H[a 2 3]? = some cellB ∧ cellB.vm.isStatics = false ∧ s.vm.findClass RX0 = some cellB.cls := by
  obtain ⟨G, hP, hD, hS⟩ := hs
  exact va_recv K.1 hP (ci := 0) (q0 := 27) rfl rfl
theorem qV32 (K : qK D cI cB cM ad6 A s) (hs : qS D cI cB cM ad6 a A s σ H locs) : ∃ cellB : Cell, H[a 2 8]? = some cellB ∧ cellB.vm.isStatics = false ∧ s.vm.findClass RX1 = some cellB.cls := by
  obtain ⟨G, hP, hD, hS⟩ := hs
  exact va_recv K.1 hP (ci := 1) (q0 := 32) rfl rfl
theorem qV34 (K : qK D cI cB cM ad6 A s) (hs : qS D cI cB cM ad6 a A s σ H locs) : ∃ cellB : Cell, H[a 2 10]? = some cellB ∧ cellB.vm.isStatics = false ∧ s.vm.findClass RX7 = some cellB.cls := by
  obtain ⟨G, hP, hD, hS⟩ := hs
  exact va_recv K.1 hP (ci := 6) (q0 := 34) rfl rfl
theorem qV38 (K : qK D cI cB cM ad6 A s) (hs : qS D cI cB cM ad6 a A s σ H locs) : ∃ cellB : Cell, H[a 2 14]? = some cellB ∧ cellB.vm.isStatics = false ∧ s.vm.findClass RX3 = some cellB.cls := by
  obtain ⟨G, hP, hD, hS⟩ := hs
  exact va_recv K.1 hP (ci := 3) (q0 := 38) rfl rfl
end QL
