/-! the law's methods: rooms, call words (by wip/tools/rworld.py) -/

theorem k_bipush_m13 : (Int8.ofInt (-13)).toInt32 = (-13) := by decide
theorem k_bipush_m11 : (Int8.ofInt (-11)).toInt32 = (-11) := by decide
theorem k_bipush_m2 : (Int8.ofInt (-2)).toInt32 = (-2) := by decide
theorem k_bipush_9 : (Int8.ofInt 9).toInt32 = nI 9 := by decide
theorem k_bipush_11 : (Int8.ofInt 11).toInt32 = nI 11 := by decide
theorem k_sipush_1000 : (Int16.ofInt 1000).toInt32 = nI 1000 := by decide
def rmL_ones : Room := { frames := 0, cells := 0, slots := 0, locals := 0 }
def rmL_acts : Room := { frames := 8, cells := 0, slots := 0, locals := 194 }
def rmL_cache : Room := { frames := 3, cells := 0, slots := 0, locals := 73 }
def rmL_line : Room := { frames := 3, cells := 0, slots := 0, locals := 73 }
def rmL_refuses : Room := { frames := 8, cells := 0, slots := 0, locals := 193 }
def rmL_sound : Room := { frames := 4, cells := 0, slots := 0, locals := 100 }
theorem u_123 : Cond.initialized RL ∈ WA := z_in0 _ (List.mem_of_getElem? (i := 123) (by decide +kernel))
theorem u_130 : Cond.methodLink RL 31 yL_line ∈ WA := z_in0 _ (List.mem_of_getElem? (i := 130) (by decide +kernel))
theorem u_131 : Cond.static yL_line ∈ WA := z_in0 _ (List.mem_of_getElem? (i := 131) (by decide +kernel))
theorem u_132 : Cond.code yL_line cL_line 8 (some .boolean) ∈ WA := z_in0 _ (List.mem_of_getElem? (i := 132) (by decide +kernel))
theorem u_133 : Cond.methodLink RL 9 yX8_value ∈ WA := z_in0 _ (List.mem_of_getElem? (i := 133) (by decide +kernel))
theorem u_134 : Cond.instanceMethod yX8_value ∈ WA := z_in0 _ (List.mem_of_getElem? (i := 134) (by decide +kernel))
theorem u_135 : Cond.selects RX8 yX8_value yX8_value ∈ WA := z_in0 _ (List.mem_of_getElem? (i := 135) (by decide +kernel))
theorem u_136 : Cond.code yX8_value cX8_value 2 (some .int) ∈ WA := z_in0 _ (List.mem_of_getElem? (i := 136) (by decide +kernel))
theorem u_154 : Cond.methodLink RL 15 yX8_copy ∈ WA := z_in0 _ (List.mem_of_getElem? (i := 154) (by decide +kernel))
theorem u_155 : Cond.instanceMethod yX8_copy ∈ WA := z_in0 _ (List.mem_of_getElem? (i := 155) (by decide +kernel))
theorem u_156 : Cond.selects RX8 yX8_copy yX8_copy ∈ WA := z_in0 _ (List.mem_of_getElem? (i := 156) (by decide +kernel))
theorem u_157 : Cond.code yX8_copy cX8_copy 4 (some .int) ∈ WA := z_in0 _ (List.mem_of_getElem? (i := 157) (by decide +kernel))
theorem u_173 : Cond.methodLink RL 19 yX8_line ∈ WA := z_in0 _ (List.mem_of_getElem? (i := 173) (by decide +kernel))
theorem u_174 : Cond.instanceMethod yX8_line ∈ WA := z_in0 _ (List.mem_of_getElem? (i := 174) (by decide +kernel))
theorem u_175 : Cond.selects RX8 yX8_line yX8_line ∈ WA := z_in0 _ (List.mem_of_getElem? (i := 175) (by decide +kernel))
theorem u_176 : Cond.code yX8_line cX8_line 3 (some .int) ∈ WA := z_in0 _ (List.mem_of_getElem? (i := 176) (by decide +kernel))
theorem u_197 : Cond.methodLink RL 34 yL_cache ∈ WA := z_in0 _ (List.mem_of_getElem? (i := 197) (by decide +kernel))
theorem u_198 : Cond.static yL_cache ∈ WA := z_in0 _ (List.mem_of_getElem? (i := 198) (by decide +kernel))
theorem u_199 : Cond.code yL_cache cL_cache 7 (some .boolean) ∈ WA := z_in0 _ (List.mem_of_getElem? (i := 199) (by decide +kernel))
theorem u_200 : Cond.methodLink RL 23 yL_ones ∈ WA := z_in0 _ (List.mem_of_getElem? (i := 200) (by decide +kernel))
theorem u_201 : Cond.static yL_ones ∈ WA := z_in0 _ (List.mem_of_getElem? (i := 201) (by decide +kernel))
theorem u_202 : Cond.code yL_ones cL_ones 3 (some .int) ∈ WA := z_in0 _ (List.mem_of_getElem? (i := 202) (by decide +kernel))
theorem u_203 : Cond.methodLink RL 28 yX8_nextDropped ∈ WA := z_in0 _ (List.mem_of_getElem? (i := 203) (by decide +kernel))
theorem u_204 : Cond.instanceMethod yX8_nextDropped ∈ WA := z_in0 _ (List.mem_of_getElem? (i := 204) (by decide +kernel))
theorem u_205 : Cond.selects RX8 yX8_nextDropped yX8_nextDropped ∈ WA := z_in0 _ (List.mem_of_getElem? (i := 205) (by decide +kernel))
theorem u_206 : Cond.code yX8_nextDropped cX8_nextDropped 2 (some .int) ∈ WA := z_in0 _ (List.mem_of_getElem? (i := 206) (by decide +kernel))
theorem u_219 : Cond.methodLink RL 37 yX8_nextTorn ∈ WA := z_in0 _ (List.mem_of_getElem? (i := 219) (by decide +kernel))
theorem u_220 : Cond.instanceMethod yX8_nextTorn ∈ WA := z_in0 _ (List.mem_of_getElem? (i := 220) (by decide +kernel))
theorem u_221 : Cond.selects RX8 yX8_nextTorn yX8_nextTorn ∈ WA := z_in0 _ (List.mem_of_getElem? (i := 221) (by decide +kernel))
theorem u_222 : Cond.code yX8_nextTorn cX8_nextTorn 1 (some .int) ∈ WA := z_in0 _ (List.mem_of_getElem? (i := 222) (by decide +kernel))
theorem u_274 : Cond.methodLink RL 54 yX8_pending ∈ WA := z_in0 _ (List.mem_of_getElem? (i := 274) (by decide +kernel))
theorem u_275 : Cond.instanceMethod yX8_pending ∈ WA := z_in0 _ (List.mem_of_getElem? (i := 275) (by decide +kernel))
theorem u_276 : Cond.selects RX8 yX8_pending yX8_pending ∈ WA := z_in0 _ (List.mem_of_getElem? (i := 276) (by decide +kernel))
theorem u_277 : Cond.code yX8_pending cX8_pending 3 (some .int) ∈ WA := z_in0 _ (List.mem_of_getElem? (i := 277) (by decide +kernel))
theorem u_283 : Cond.methodLink RL 57 yX8_read ∈ WA := z_in0 _ (List.mem_of_getElem? (i := 283) (by decide +kernel))
theorem u_284 : Cond.instanceMethod yX8_read ∈ WA := z_in0 _ (List.mem_of_getElem? (i := 284) (by decide +kernel))
theorem u_285 : Cond.selects RX8 yX8_read yX8_read ∈ WA := z_in0 _ (List.mem_of_getElem? (i := 285) (by decide +kernel))
theorem u_286 : Cond.code yX8_read cX8_read 3 (some .int) ∈ WA := z_in0 _ (List.mem_of_getElem? (i := 286) (by decide +kernel))
theorem u_308 : Cond.methodLink RL 60 yX8_write ∈ WA := z_in0 _ (List.mem_of_getElem? (i := 308) (by decide +kernel))
theorem u_309 : Cond.instanceMethod yX8_write ∈ WA := z_in0 _ (List.mem_of_getElem? (i := 309) (by decide +kernel))
theorem u_310 : Cond.selects RX8 yX8_write yX8_write ∈ WA := z_in0 _ (List.mem_of_getElem? (i := 310) (by decide +kernel))
theorem u_311 : Cond.code yX8_write cX8_write 4 (some .int) ∈ WA := z_in0 _ (List.mem_of_getElem? (i := 311) (by decide +kernel))
theorem u_312 : Cond.methodLink RL 63 yX8_drop ∈ WA := z_in0 _ (List.mem_of_getElem? (i := 312) (by decide +kernel))
theorem u_313 : Cond.instanceMethod yX8_drop ∈ WA := z_in0 _ (List.mem_of_getElem? (i := 313) (by decide +kernel))
theorem u_314 : Cond.selects RX8 yX8_drop yX8_drop ∈ WA := z_in0 _ (List.mem_of_getElem? (i := 314) (by decide +kernel))
theorem u_315 : Cond.code yX8_drop cX8_drop 4 (some .int) ∈ WA := z_in0 _ (List.mem_of_getElem? (i := 315) (by decide +kernel))
theorem u_334 : Cond.methodLink RL 66 yX8_tear ∈ WA := z_in0 _ (List.mem_of_getElem? (i := 334) (by decide +kernel))
theorem u_335 : Cond.instanceMethod yX8_tear ∈ WA := z_in0 _ (List.mem_of_getElem? (i := 335) (by decide +kernel))
theorem u_336 : Cond.selects RX8 yX8_tear yX8_tear ∈ WA := z_in0 _ (List.mem_of_getElem? (i := 336) (by decide +kernel))
theorem u_337 : Cond.code yX8_tear cX8_tear 3 (some .int) ∈ WA := z_in0 _ (List.mem_of_getElem? (i := 337) (by decide +kernel))
theorem u_347 : Cond.methodLink RL 69 yX8_pass ∈ WA := z_in0 _ (List.mem_of_getElem? (i := 347) (by decide +kernel))
theorem u_348 : Cond.instanceMethod yX8_pass ∈ WA := z_in0 _ (List.mem_of_getElem? (i := 348) (by decide +kernel))
theorem u_349 : Cond.selects RX8 yX8_pass yX8_pass ∈ WA := z_in0 _ (List.mem_of_getElem? (i := 349) (by decide +kernel))
theorem u_350 : Cond.code yX8_pass cX8_pass 2 (some .int) ∈ WA := z_in0 _ (List.mem_of_getElem? (i := 350) (by decide +kernel))
theorem u_442 : Cond.methodLink RL 41 yX8_clearText ∈ WA := z_in0 _ (List.mem_of_getElem? (i := 442) (by decide +kernel))
theorem u_443 : Cond.instanceMethod yX8_clearText ∈ WA := z_in0 _ (List.mem_of_getElem? (i := 443) (by decide +kernel))
theorem u_444 : Cond.selects RX8 yX8_clearText yX8_clearText ∈ WA := z_in0 _ (List.mem_of_getElem? (i := 444) (by decide +kernel))
theorem u_445 : Cond.code yX8_clearText cX8_clearText 2 (some .int) ∈ WA := z_in0 _ (List.mem_of_getElem? (i := 445) (by decide +kernel))
theorem u_446 : Cond.methodLink RL 44 yX8_append ∈ WA := z_in0 _ (List.mem_of_getElem? (i := 446) (by decide +kernel))
theorem u_447 : Cond.instanceMethod yX8_append ∈ WA := z_in0 _ (List.mem_of_getElem? (i := 447) (by decide +kernel))
theorem u_448 : Cond.selects RX8 yX8_append yX8_append ∈ WA := z_in0 _ (List.mem_of_getElem? (i := 448) (by decide +kernel))
theorem u_449 : Cond.code yX8_append cX8_append 2 (some .int) ∈ WA := z_in0 _ (List.mem_of_getElem? (i := 449) (by decide +kernel))
theorem u_450 : Cond.methodLink RL 47 yX8_digest ∈ WA := z_in0 _ (List.mem_of_getElem? (i := 450) (by decide +kernel))
theorem u_451 : Cond.instanceMethod yX8_digest ∈ WA := z_in0 _ (List.mem_of_getElem? (i := 451) (by decide +kernel))
theorem u_452 : Cond.selects RX8 yX8_digest yX8_digest ∈ WA := z_in0 _ (List.mem_of_getElem? (i := 452) (by decide +kernel))
theorem u_453 : Cond.code yX8_digest cX8_digest 5 (some .long) ∈ WA := z_in0 _ (List.mem_of_getElem? (i := 453) (by decide +kernel))
theorem u_467 : Cond.methodLink RL 51 yX8_carryOut ∈ WA := z_in0 _ (List.mem_of_getElem? (i := 467) (by decide +kernel))
theorem u_468 : Cond.instanceMethod yX8_carryOut ∈ WA := z_in0 _ (List.mem_of_getElem? (i := 468) (by decide +kernel))
theorem u_469 : Cond.selects RX8 yX8_carryOut yX8_carryOut ∈ WA := z_in0 _ (List.mem_of_getElem? (i := 469) (by decide +kernel))
theorem u_470 : Cond.code yX8_carryOut cX8_carryOut 3 (some .int) ∈ WA := z_in0 _ (List.mem_of_getElem? (i := 470) (by decide +kernel))
theorem cwL_9 {R : Room} {s : State} {args : Array Value} (hts : ∀ w ∈ WA, w.before args s = true) (hR : rmX8_value.frames + 1 ≤ R.frames ∧ 8 + (2 + 11) + rmX8_value.locals ≤ R.locals) : CallW R s args RL RX8 9 yX8_value cX8_value 2 (some .int) (Cond.code yX8_value cX8_value 2 (some .int) :: WA) rmX8_value 0 0 1 := cwV 1 hts (z_goodV u_133 u_134 u_135 u_2 u_136) rfl rfl rfl (by decide +kernel) hR
theorem cwL_15 {R : Room} {s : State} {args : Array Value} (hts : ∀ w ∈ WA, w.before args s = true) (hR : rmX8_copy.frames + 1 ≤ R.frames ∧ 8 + (4 + 11) + rmX8_copy.locals ≤ R.locals) : CallW R s args RL RX8 15 yX8_copy cX8_copy 4 (some .int) (Cond.code yX8_copy cX8_copy 4 (some .int) :: WA) rmX8_copy 0 0 3 := cwV 3 hts (z_goodV u_154 u_155 u_156 u_2 u_157) rfl rfl rfl (by decide +kernel) hR
theorem cwL_19 {R : Room} {s : State} {args : Array Value} (hts : ∀ w ∈ WA, w.before args s = true) (hR : rmX8_line.frames + 1 ≤ R.frames ∧ 8 + (3 + 11) + rmX8_line.locals ≤ R.locals) : CallW R s args RL RX8 19 yX8_line cX8_line 3 (some .int) (Cond.code yX8_line cX8_line 3 (some .int) :: WA) rmX8_line 0 0 2 := cwV 2 hts (z_goodV u_173 u_174 u_175 u_2 u_176) rfl rfl rfl (by decide +kernel) hR
theorem cwL_23 {R : Room} {s : State} {args : Array Value} (hts : ∀ w ∈ WA, w.before args s = true) (hR : rmL_ones.frames + 1 ≤ R.frames ∧ 8 + (3 + 11) + rmL_ones.locals ≤ R.locals) : CallB R s args RL 23 yL_ones cL_ones 3 (some .int) (Cond.code yL_ones cL_ones 3 (some .int) :: WA) rmL_ones 0 0 1 ∧ (Cond.static yL_ones).before args s = true := va_cwS 1 hts (z_goodS u_200 u_201 u_123 u_202) rfl rfl rfl (by decide +kernel) hR
theorem cwL_28 {R : Room} {s : State} {args : Array Value} (hts : ∀ w ∈ WA, w.before args s = true) (hR : rmX8_nextDropped.frames + 1 ≤ R.frames ∧ 8 + (2 + 11) + rmX8_nextDropped.locals ≤ R.locals) : CallW R s args RL RX8 28 yX8_nextDropped cX8_nextDropped 2 (some .int) (Cond.code yX8_nextDropped cX8_nextDropped 2 (some .int) :: WA) rmX8_nextDropped 0 0 1 := cwV 1 hts (z_goodV u_203 u_204 u_205 u_2 u_206) rfl rfl rfl (by decide +kernel) hR
theorem cwL_31 {R : Room} {s : State} {args : Array Value} (hts : ∀ w ∈ WA, w.before args s = true) (hR : rmL_line.frames + 1 ≤ R.frames ∧ 8 + (8 + 11) + rmL_line.locals ≤ R.locals) : CallB R s args RL 31 yL_line cL_line 8 (some .boolean) (Cond.code yL_line cL_line 8 (some .boolean) :: WA) rmL_line 0 0 2 ∧ (Cond.static yL_line).before args s = true := va_cwS 2 hts (z_goodS u_130 u_131 u_123 u_132) rfl rfl rfl (by decide +kernel) hR
theorem cwL_34 {R : Room} {s : State} {args : Array Value} (hts : ∀ w ∈ WA, w.before args s = true) (hR : rmL_cache.frames + 1 ≤ R.frames ∧ 8 + (7 + 11) + rmL_cache.locals ≤ R.locals) : CallB R s args RL 34 yL_cache cL_cache 7 (some .boolean) (Cond.code yL_cache cL_cache 7 (some .boolean) :: WA) rmL_cache 0 0 2 ∧ (Cond.static yL_cache).before args s = true := va_cwS 2 hts (z_goodS u_197 u_198 u_123 u_199) rfl rfl rfl (by decide +kernel) hR
theorem cwL_37 {R : Room} {s : State} {args : Array Value} (hts : ∀ w ∈ WA, w.before args s = true) (hR : rmX8_nextTorn.frames + 1 ≤ R.frames ∧ 8 + (1 + 11) + rmX8_nextTorn.locals ≤ R.locals) : CallW R s args RL RX8 37 yX8_nextTorn cX8_nextTorn 1 (some .int) (Cond.code yX8_nextTorn cX8_nextTorn 1 (some .int) :: WA) rmX8_nextTorn 0 0 0 := cwV 0 hts (z_goodV u_219 u_220 u_221 u_2 u_222) rfl rfl rfl (by decide +kernel) hR
theorem cwL_41 {R : Room} {s : State} {args : Array Value} (hts : ∀ w ∈ WA, w.before args s = true) (hR : rmX8_clearText.frames + 1 ≤ R.frames ∧ 8 + (2 + 11) + rmX8_clearText.locals ≤ R.locals) : CallW R s args RL RX8 41 yX8_clearText cX8_clearText 2 (some .int) (Cond.code yX8_clearText cX8_clearText 2 (some .int) :: WA) rmX8_clearText 0 0 0 := cwV 0 hts (z_goodV u_442 u_443 u_444 u_2 u_445) rfl rfl rfl (by decide +kernel) hR
theorem cwL_44 {R : Room} {s : State} {args : Array Value} (hts : ∀ w ∈ WA, w.before args s = true) (hR : rmX8_append.frames + 1 ≤ R.frames ∧ 8 + (2 + 11) + rmX8_append.locals ≤ R.locals) : CallW R s args RL RX8 44 yX8_append cX8_append 2 (some .int) (Cond.code yX8_append cX8_append 2 (some .int) :: WA) rmX8_append 0 0 1 := cwV 1 hts (z_goodV u_446 u_447 u_448 u_2 u_449) rfl rfl rfl (by decide +kernel) hR
theorem cwL_47 {R : Room} {s : State} {args : Array Value} (hts : ∀ w ∈ WA, w.before args s = true) (hR : rmX8_digest.frames + 1 ≤ R.frames ∧ 8 + (5 + 11) + rmX8_digest.locals ≤ R.locals) : CallW R s args RL RX8 47 yX8_digest cX8_digest 5 (some .long) (Cond.code yX8_digest cX8_digest 5 (some .long) :: WA) rmX8_digest 0 0 0 := cwV 0 hts (z_goodV u_450 u_451 u_452 u_2 u_453) rfl rfl rfl (by decide +kernel) hR
theorem cwL_51 {R : Room} {s : State} {args : Array Value} (hts : ∀ w ∈ WA, w.before args s = true) (hR : rmX8_carryOut.frames + 1 ≤ R.frames ∧ 8 + (3 + 11) + rmX8_carryOut.locals ≤ R.locals) : CallW R s args RL RX8 51 yX8_carryOut cX8_carryOut 3 (some .int) (Cond.code yX8_carryOut cX8_carryOut 3 (some .int) :: WA) rmX8_carryOut 0 0 0 := cwV 0 hts (z_goodV u_467 u_468 u_469 u_2 u_470) rfl rfl rfl (by decide +kernel) hR
theorem cwL_54 {R : Room} {s : State} {args : Array Value} (hts : ∀ w ∈ WA, w.before args s = true) (hR : rmX8_pending.frames + 1 ≤ R.frames ∧ 8 + (3 + 11) + rmX8_pending.locals ≤ R.locals) : CallW R s args RL RX8 54 yX8_pending cX8_pending 3 (some .int) (Cond.code yX8_pending cX8_pending 3 (some .int) :: WA) rmX8_pending 0 0 2 := cwV 2 hts (z_goodV u_274 u_275 u_276 u_2 u_277) rfl rfl rfl (by decide +kernel) hR
theorem cwL_57 {R : Room} {s : State} {args : Array Value} (hts : ∀ w ∈ WA, w.before args s = true) (hR : rmX8_read.frames + 1 ≤ R.frames ∧ 8 + (3 + 11) + rmX8_read.locals ≤ R.locals) : CallW R s args RL RX8 57 yX8_read cX8_read 3 (some .int) (Cond.code yX8_read cX8_read 3 (some .int) :: WA) rmX8_read 0 0 2 := cwV 2 hts (z_goodV u_283 u_284 u_285 u_2 u_286) rfl rfl rfl (by decide +kernel) hR
theorem cwL_60 {R : Room} {s : State} {args : Array Value} (hts : ∀ w ∈ WA, w.before args s = true) (hR : rmX8_write.frames + 1 ≤ R.frames ∧ 8 + (4 + 11) + rmX8_write.locals ≤ R.locals) : CallW R s args RL RX8 60 yX8_write cX8_write 4 (some .int) (Cond.code yX8_write cX8_write 4 (some .int) :: WA) rmX8_write 0 0 3 := cwV 3 hts (z_goodV u_308 u_309 u_310 u_2 u_311) rfl rfl rfl (by decide +kernel) hR
theorem cwL_63 {R : Room} {s : State} {args : Array Value} (hts : ∀ w ∈ WA, w.before args s = true) (hR : rmX8_drop.frames + 1 ≤ R.frames ∧ 8 + (4 + 11) + rmX8_drop.locals ≤ R.locals) : CallW R s args RL RX8 63 yX8_drop cX8_drop 4 (some .int) (Cond.code yX8_drop cX8_drop 4 (some .int) :: WA) rmX8_drop 0 0 2 := cwV 2 hts (z_goodV u_312 u_313 u_314 u_2 u_315) rfl rfl rfl (by decide +kernel) hR
theorem cwL_66 {R : Room} {s : State} {args : Array Value} (hts : ∀ w ∈ WA, w.before args s = true) (hR : rmX8_tear.frames + 1 ≤ R.frames ∧ 8 + (3 + 11) + rmX8_tear.locals ≤ R.locals) : CallW R s args RL RX8 66 yX8_tear cX8_tear 3 (some .int) (Cond.code yX8_tear cX8_tear 3 (some .int) :: WA) rmX8_tear 0 0 1 := cwV 1 hts (z_goodV u_334 u_335 u_336 u_2 u_337) rfl rfl rfl (by decide +kernel) hR
theorem cwL_69 {R : Room} {s : State} {args : Array Value} (hts : ∀ w ∈ WA, w.before args s = true) (hR : rmX8_pass.frames + 1 ≤ R.frames ∧ 8 + (2 + 11) + rmX8_pass.locals ≤ R.locals) : CallW R s args RL RX8 69 yX8_pass cX8_pass 2 (some .int) (Cond.code yX8_pass cX8_pass 2 (some .int) :: WA) rmX8_pass 0 0 1 := cwV 1 hts (z_goodV u_347 u_348 u_349 u_2 u_350) rfl rfl rfl (by decide +kernel) hR
