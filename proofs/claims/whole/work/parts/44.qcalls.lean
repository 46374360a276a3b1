/-! the whole object: fields, rooms, call words (by wip/tools/qworld.py) -/
def c_sb (χ : cSt) (i x : Int32) : Option cSt := if i < 0 ∨ 100 ≤ i.toNatClampNeg then none else some (c_up χ 6 (z_up (χ 6) 11 (upd (χ 6 11) i.toNatClampNeg (vp_nar .byte x))))
theorem u_522 : Cond.fieldLink RX8 111 "CacheDiary$Machine" "messages" "I" ∈ WA := z_in0 _ (List.mem_of_getElem? (i := 522) (by decide +kernel))
theorem u_536 : Cond.fieldLink RX8 114 "CacheDiary$Machine" "diary" "LCacheDiary$Diary;" ∈ WA := z_in0 _ (List.mem_of_getElem? (i := 536) (by decide +kernel))
theorem u_16 : Cond.fieldLink RX8 12 "CacheDiary" "machine" "LCacheDiary$Machine;" ∈ WA := z_in0 _ (List.mem_of_getElem? (i := 16) (by decide +kernel))
theorem u_615 : Cond.fieldLink RX8 139 "CacheDiary$Machine" "log" "LCacheDiary$Log;" ∈ WA := z_in0 _ (List.mem_of_getElem? (i := 615) (by decide +kernel))
theorem u_616 : Cond.fieldLink RX8 143 "CacheDiary$Log" "count" "I" ∈ WA := z_in0 _ (List.mem_of_getElem? (i := 616) (by decide +kernel))
theorem u_753 : Cond.fieldLink RX8 181 "CacheDiary$OrderReader" "count" "I" ∈ WA := z_in0 _ (List.mem_of_getElem? (i := 753) (by decide +kernel))
theorem u_754 : Cond.fieldLink RX8 188 "CacheDiary$OrderReader" "number" "[I" ∈ WA := z_in0 _ (List.mem_of_getElem? (i := 754) (by decide +kernel))
theorem u_755 : Cond.fieldLink RX8 190 "CacheDiary$OrderReader" "cache" "[I" ∈ WA := z_in0 _ (List.mem_of_getElem? (i := 755) (by decide +kernel))
theorem u_756 : Cond.fieldLink RX8 193 "CacheDiary$OrderReader" "line" "[I" ∈ WA := z_in0 _ (List.mem_of_getElem? (i := 756) (by decide +kernel))
theorem u_848 : Cond.fieldLink RX8 194 "CacheDiary$History" "count" "I" ∈ WA := z_in0 _ (List.mem_of_getElem? (i := 848) (by decide +kernel))
theorem u_17 : Cond.fieldLink RX8 20 "CacheDiary" "trial" "LCacheDiary$Machine;" ∈ WA := z_in0 _ (List.mem_of_getElem? (i := 17) (by decide +kernel))
theorem u_21 : Cond.fieldLink RX8 26 "CacheDiary" "history" "LCacheDiary$History;" ∈ WA := z_in0 _ (List.mem_of_getElem? (i := 21) (by decide +kernel))
theorem u_23 : Cond.fieldLink RX8 30 "CacheDiary" "text" "[B" ∈ WA := z_in0 _ (List.mem_of_getElem? (i := 23) (by decide +kernel))
theorem u_24 : Cond.fieldLink RX8 34 "CacheDiary" "textLength" "I" ∈ WA := z_in0 _ (List.mem_of_getElem? (i := 24) (by decide +kernel))
theorem u_28 : Cond.fieldLink RX8 41 "CacheDiary" "orders" "LCacheDiary$OrderReader;" ∈ WA := z_in0 _ (List.mem_of_getElem? (i := 28) (by decide +kernel))
theorem u_147 : Cond.fieldLink RX8 52 "CacheDiary$Machine" "time" "I" ∈ WA := z_in0 _ (List.mem_of_getElem? (i := 147) (by decide +kernel))
theorem u_221 : Cond.fieldLink RX8 55 "CacheDiary$Machine" "caches" "I" ∈ WA := z_in0 _ (List.mem_of_getElem? (i := 221) (by decide +kernel))
theorem u_222 : Cond.fieldLink RX8 62 "CacheDiary$Machine" "requests" "LCacheDiary$Requests;" ∈ WA := z_in0 _ (List.mem_of_getElem? (i := 222) (by decide +kernel))
theorem u_297 : Cond.fieldLink RX8 83 "CacheDiary$Requests" "line" "[I" ∈ WA := z_in0 _ (List.mem_of_getElem? (i := 297) (by decide +kernel))
theorem u_521 : Cond.fieldLink RX8 98 "CacheDiary$Machine" "copies" "LCacheDiary$Copies;" ∈ WA := z_in0 _ (List.mem_of_getElem? (i := 521) (by decide +kernel))
def rmX8_append : Room := { frames := 9, cells := 8, slots := 48, locals := 260 }
def rmX8_begin : Room := { frames := 9, cells := 8, slots := 48, locals := 260 }
def rmX8_isPossible : Room := { frames := 5, cells := 0, slots := 0, locals := 120 }
def rmX8_carryOut : Room := { frames := 7, cells := 0, slots := 0, locals := 240 }
def rmX8_cheapest : Room := { frames := 9, cells := 8, slots := 48, locals := 260 }
def rmX8_clearText : Room := { frames := 7, cells := 0, slots := 0, locals := 240 }
def rmX8_copy : Room := { frames := 9, cells := 8, slots := 48, locals := 260 }
def rmX8_cost : Room := { frames := 9, cells := 8, slots := 48, locals := 260 }
def rmX8_hashLine : Room := { frames := 5, cells := 0, slots := 0, locals := 120 }
def rmX8_digest : Room := { frames := 7, cells := 0, slots := 0, locals := 240 }
def rmX8_drop : Room := { frames := 9, cells := 8, slots := 48, locals := 260 }
def rmX8_entry : Room := { frames := 9, cells := 8, slots := 48, locals := 260 }
def rmX8_line : Room := { frames := 9, cells := 8, slots := 48, locals := 260 }
def rmX8_nextDropped : Room := { frames := 9, cells := 8, slots := 48, locals := 260 }
def rmX8_nextTorn : Room := { frames := 7, cells := 0, slots := 0, locals := 240 }
def rmX8_pass : Room := { frames := 9, cells := 8, slots := 48, locals := 260 }
def rmX8_pending : Room := { frames := 9, cells := 8, slots := 48, locals := 260 }
def rmX8_read : Room := { frames := 9, cells := 8, slots := 48, locals := 260 }
def rmX8_takeBack : Room := { frames := 9, cells := 8, slots := 48, locals := 260 }
def rmX8_tear : Room := { frames := 9, cells := 8, slots := 48, locals := 260 }
def rmX8_ticksToServe : Room := { frames := 7, cells := 0, slots := 0, locals := 240 }
def rmX8_undo : Room := { frames := 9, cells := 8, slots := 48, locals := 260 }
def rmX8_value : Room := { frames := 9, cells := 8, slots := 48, locals := 260 }
def rmX8_write : Room := { frames := 9, cells := 8, slots := 48, locals := 260 }
theorem u_2 : Cond.initialized RX8 ∈ WA := z_in0 _ (List.mem_of_getElem? (i := 2) (by decide +kernel))
theorem u_20 : Cond.initialized RX2 ∈ WA := z_in0 _ (List.mem_of_getElem? (i := 20) (by decide +kernel))
theorem u_72 : Cond.methodLink RX8 16 yX4_startAnew ∈ WA := z_in0 _ (List.mem_of_getElem? (i := 72) (by decide +kernel))
theorem u_73 : Cond.instanceMethod yX4_startAnew ∈ WA := z_in0 _ (List.mem_of_getElem? (i := 73) (by decide +kernel))
theorem u_74 : Cond.selects RX4 yX4_startAnew yX4_startAnew ∈ WA := z_in0 _ (List.mem_of_getElem? (i := 74) (by decide +kernel))
theorem u_75 : Cond.code yX4_startAnew cX4_startAnew 4 none ∈ WA := z_in0 _ (List.mem_of_getElem? (i := 75) (by decide +kernel))
theorem u_153 : Cond.methodLink RX8 48 yX2_save ∈ WA := z_in0 _ (List.mem_of_getElem? (i := 153) (by decide +kernel))
theorem u_154 : Cond.instanceMethod yX2_save ∈ WA := z_in0 _ (List.mem_of_getElem? (i := 154) (by decide +kernel))
theorem u_155 : Cond.selects RX2 yX2_save yX2_save ∈ WA := z_in0 _ (List.mem_of_getElem? (i := 155) (by decide +kernel))
theorem u_156 : Cond.code yX2_save cX2_save 2 none ∈ WA := z_in0 _ (List.mem_of_getElem? (i := 156) (by decide +kernel))
theorem u_228 : Cond.methodLink RX8 66 yX7_isPending ∈ WA := z_in0 _ (List.mem_of_getElem? (i := 228) (by decide +kernel))
theorem u_237 : Cond.methodLink RX8 76 yX7_ask ∈ WA := z_in0 _ (List.mem_of_getElem? (i := 237) (by decide +kernel))
theorem u_238 : Cond.instanceMethod yX7_ask ∈ WA := z_in0 _ (List.mem_of_getElem? (i := 238) (by decide +kernel))
theorem u_239 : Cond.selects RX7 yX7_ask yX7_ask ∈ WA := z_in0 _ (List.mem_of_getElem? (i := 239) (by decide +kernel))
theorem u_240 : Cond.code yX7_ask cX7_ask 4 none ∈ WA := z_in0 _ (List.mem_of_getElem? (i := 240) (by decide +kernel))
theorem u_241 : Cond.methodLink RX8 79 yX4_isHit ∈ WA := z_in0 _ (List.mem_of_getElem? (i := 241) (by decide +kernel))
theorem u_298 : Cond.methodLink RX8 87 yX7_forget ∈ WA := z_in0 _ (List.mem_of_getElem? (i := 298) (by decide +kernel))
theorem u_313 : Cond.methodLink RX8 91 yX4_hasTimeFor ∈ WA := z_in0 _ (List.mem_of_getElem? (i := 313) (by decide +kernel))
theorem u_314 : Cond.instanceMethod yX4_hasTimeFor ∈ WA := z_in0 _ (List.mem_of_getElem? (i := 314) (by decide +kernel))
theorem u_315 : Cond.selects RX4 yX4_hasTimeFor yX4_hasTimeFor ∈ WA := z_in0 _ (List.mem_of_getElem? (i := 315) (by decide +kernel))
theorem u_316 : Cond.code yX4_hasTimeFor cX4_hasTimeFor 2 (some .boolean) ∈ WA := z_in0 _ (List.mem_of_getElem? (i := 316) (by decide +kernel))
theorem u_318 : Cond.methodLink RX8 94 yX4_letPass ∈ WA := z_in0 _ (List.mem_of_getElem? (i := 318) (by decide +kernel))
theorem u_319 : Cond.instanceMethod yX4_letPass ∈ WA := z_in0 _ (List.mem_of_getElem? (i := 319) (by decide +kernel))
theorem u_320 : Cond.selects RX4 yX4_letPass yX4_letPass ∈ WA := z_in0 _ (List.mem_of_getElem? (i := 320) (by decide +kernel))
theorem u_321 : Cond.code yX4_letPass cX4_letPass 5 (some .int) ∈ WA := z_in0 _ (List.mem_of_getElem? (i := 321) (by decide +kernel))
theorem u_523 : Cond.methodLink RX8 102 yX0_kindOf ∈ WA := z_in0 _ (List.mem_of_getElem? (i := 523) (by decide +kernel))
theorem u_524 : Cond.methodLink RX8 108 yX4_throwAway ∈ WA := z_in0 _ (List.mem_of_getElem? (i := 524) (by decide +kernel))
theorem u_537 : Cond.methodLink RX8 118 yX1_hasPage ∈ WA := z_in0 _ (List.mem_of_getElem? (i := 537) (by decide +kernel))
theorem u_538 : Cond.methodLink RX8 123 yX0_countOf ∈ WA := z_in0 _ (List.mem_of_getElem? (i := 538) (by decide +kernel))
theorem u_539 : Cond.methodLink RX8 126 yX1_tearOut ∈ WA := z_in0 _ (List.mem_of_getElem? (i := 539) (by decide +kernel))
theorem u_554 : Cond.methodLink RX8 130 yX0_fact ∈ WA := z_in0 _ (List.mem_of_getElem? (i := 554) (by decide +kernel))
theorem u_555 : Cond.instanceMethod yX0_fact ∈ WA := z_in0 _ (List.mem_of_getElem? (i := 555) (by decide +kernel))
theorem u_556 : Cond.selects RX0 yX0_fact yX0_fact ∈ WA := z_in0 _ (List.mem_of_getElem? (i := 556) (by decide +kernel))
theorem u_557 : Cond.code yX0_fact cX0_fact 5 (some .int) ∈ WA := z_in0 _ (List.mem_of_getElem? (i := 557) (by decide +kernel))
theorem u_577 : Cond.methodLink RX8 134 yX4_lineFact ∈ WA := z_in0 _ (List.mem_of_getElem? (i := 577) (by decide +kernel))
theorem u_578 : Cond.instanceMethod yX4_lineFact ∈ WA := z_in0 _ (List.mem_of_getElem? (i := 578) (by decide +kernel))
theorem u_579 : Cond.selects RX4 yX4_lineFact yX4_lineFact ∈ WA := z_in0 _ (List.mem_of_getElem? (i := 579) (by decide +kernel))
theorem u_580 : Cond.code yX4_lineFact cX4_lineFact 3 (some .int) ∈ WA := z_in0 _ (List.mem_of_getElem? (i := 580) (by decide +kernel))
theorem u_596 : Cond.methodLink RX8 137 yX7_fact ∈ WA := z_in0 _ (List.mem_of_getElem? (i := 596) (by decide +kernel))
theorem u_597 : Cond.instanceMethod yX7_fact ∈ WA := z_in0 _ (List.mem_of_getElem? (i := 597) (by decide +kernel))
theorem u_598 : Cond.selects RX7 yX7_fact yX7_fact ∈ WA := z_in0 _ (List.mem_of_getElem? (i := 598) (by decide +kernel))
theorem u_599 : Cond.code yX7_fact cX7_fact 3 (some .int) ∈ WA := z_in0 _ (List.mem_of_getElem? (i := 599) (by decide +kernel))
theorem u_617 : Cond.methodLink RX8 148 yX3_fact ∈ WA := z_in0 _ (List.mem_of_getElem? (i := 617) (by decide +kernel))
theorem u_618 : Cond.instanceMethod yX3_fact ∈ WA := z_in0 _ (List.mem_of_getElem? (i := 618) (by decide +kernel))
theorem u_619 : Cond.selects RX3 yX3_fact yX3_fact ∈ WA := z_in0 _ (List.mem_of_getElem? (i := 619) (by decide +kernel))
theorem u_620 : Cond.code yX3_fact cX3_fact 3 (some .int) ∈ WA := z_in0 _ (List.mem_of_getElem? (i := 620) (by decide +kernel))
theorem u_632 : Cond.methodLink RX8 149 yX4_number ∈ WA := z_in0 _ (List.mem_of_getElem? (i := 632) (by decide +kernel))
theorem u_633 : Cond.instanceMethod yX4_number ∈ WA := z_in0 _ (List.mem_of_getElem? (i := 633) (by decide +kernel))
theorem u_634 : Cond.selects RX4 yX4_number yX4_number ∈ WA := z_in0 _ (List.mem_of_getElem? (i := 634) (by decide +kernel))
theorem u_635 : Cond.code yX4_number cX4_number 2 (some .int) ∈ WA := z_in0 _ (List.mem_of_getElem? (i := 635) (by decide +kernel))
theorem u_659 : Cond.methodLink RX8 152 yX4_costOf ∈ WA := z_in0 _ (List.mem_of_getElem? (i := 659) (by decide +kernel))
theorem u_680 : Cond.methodLink RX8 156 yX1_lineToTear ∈ WA := z_in0 _ (List.mem_of_getElem? (i := 680) (by decide +kernel))
theorem u_692 : Cond.methodLink RX8 160 yX4_lineToDrop ∈ WA := z_in0 _ (List.mem_of_getElem? (i := 692) (by decide +kernel))
theorem u_701 : Cond.methodLink RX8 163 yX4_takeOver ∈ WA := z_in0 _ (List.mem_of_getElem? (i := 701) (by decide +kernel))
theorem u_702 : Cond.methodLink RX8 166 yX7_count ∈ WA := z_in0 _ (List.mem_of_getElem? (i := 702) (by decide +kernel))
theorem u_703 : Cond.methodLink RX8 168 yX4_tick ∈ WA := z_in0 _ (List.mem_of_getElem? (i := 703) (by decide +kernel))
theorem u_757 : Cond.methodLink RX8 177 yX5_readAll ∈ WA := z_in0 _ (List.mem_of_getElem? (i := 757) (by decide +kernel))
theorem u_758 : Cond.instanceMethod yX5_readAll ∈ WA := z_in0 _ (List.mem_of_getElem? (i := 758) (by decide +kernel))
theorem u_759 : Cond.selects RX5 yX5_readAll yX5_readAll ∈ WA := z_in0 _ (List.mem_of_getElem? (i := 759) (by decide +kernel))
theorem u_760 : Cond.code yX5_readAll cX5_readAll 6 (some .int) ∈ WA := z_in0 _ (List.mem_of_getElem? (i := 760) (by decide +kernel))
theorem u_808 : Cond.methodLink RX8 182 yX8_isPossible ∈ WA := z_in0 _ (List.mem_of_getElem? (i := 808) (by decide +kernel))
theorem u_809 : Cond.instanceMethod yX8_isPossible ∈ WA := z_in0 _ (List.mem_of_getElem? (i := 809) (by decide +kernel))
theorem u_810 : Cond.selects RX8 yX8_isPossible yX8_isPossible ∈ WA := z_in0 _ (List.mem_of_getElem? (i := 810) (by decide +kernel))
theorem u_811 : Cond.code yX8_isPossible cX8_isPossible 3 (some .boolean) ∈ WA := z_in0 _ (List.mem_of_getElem? (i := 811) (by decide +kernel))
theorem u_812 : Cond.methodLink RX8 185 yX5_isTicks ∈ WA := z_in0 _ (List.mem_of_getElem? (i := 812) (by decide +kernel))
theorem u_813 : Cond.instanceMethod yX5_isTicks ∈ WA := z_in0 _ (List.mem_of_getElem? (i := 813) (by decide +kernel))
theorem u_814 : Cond.selects RX5 yX5_isTicks yX5_isTicks ∈ WA := z_in0 _ (List.mem_of_getElem? (i := 814) (by decide +kernel))
theorem u_815 : Cond.code yX5_isTicks cX5_isTicks 2 (some .boolean) ∈ WA := z_in0 _ (List.mem_of_getElem? (i := 815) (by decide +kernel))
theorem u_849 : Cond.methodLink RX8 195 yX2_restore ∈ WA := z_in0 _ (List.mem_of_getElem? (i := 849) (by decide +kernel))
theorem u_850 : Cond.instanceMethod yX2_restore ∈ WA := z_in0 _ (List.mem_of_getElem? (i := 850) (by decide +kernel))
theorem u_851 : Cond.selects RX2 yX2_restore yX2_restore ∈ WA := z_in0 _ (List.mem_of_getElem? (i := 851) (by decide +kernel))
theorem u_852 : Cond.code yX2_restore cX2_restore 2 none ∈ WA := z_in0 _ (List.mem_of_getElem? (i := 852) (by decide +kernel))
theorem u_863 : Cond.methodLink RX8 202 yX8_hashLine ∈ WA := z_in0 _ (List.mem_of_getElem? (i := 863) (by decide +kernel))
theorem u_864 : Cond.instanceMethod yX8_hashLine ∈ WA := z_in0 _ (List.mem_of_getElem? (i := 864) (by decide +kernel))
theorem u_865 : Cond.selects RX8 yX8_hashLine yX8_hashLine ∈ WA := z_in0 _ (List.mem_of_getElem? (i := 865) (by decide +kernel))
theorem u_866 : Cond.code yX8_hashLine cX8_hashLine 8 (some .long) ∈ WA := z_in0 _ (List.mem_of_getElem? (i := 866) (by decide +kernel))
theorem cwX8_16 {R : Room} {s : State} {args : Array Value} (hts : ∀ w ∈ WA, w.before args s = true) (hR : rmX4_startAnew.frames + 1 ≤ R.frames ∧ 8 + (4 + 11) + rmX4_startAnew.locals ≤ R.locals) : CallW R s args RX8 RX4 16 yX4_startAnew cX4_startAnew 4 none (Cond.code yX4_startAnew cX4_startAnew 4 none :: WA) rmX4_startAnew 0 0 3 := cwV 3 hts (z_goodV u_72 u_73 u_74 u_15 u_75) rfl rfl rfl (by decide +kernel) hR
theorem cwX8_48 {R : Room} {s : State} {args : Array Value} (hts : ∀ w ∈ WA, w.before args s = true) (hR : rmX2_save.frames + 1 ≤ R.frames ∧ 8 + (2 + 11) + rmX2_save.locals ≤ R.locals) : CallW R s args RX8 RX2 48 yX2_save cX2_save 2 none (Cond.code yX2_save cX2_save 2 none :: WA) rmX2_save 0 0 1 := cwV 1 hts (z_goodV u_153 u_154 u_155 u_20 u_156) rfl rfl rfl (by decide +kernel) hR
theorem cwX8_66 {R : Room} {s : State} {args : Array Value} (hts : ∀ w ∈ WA, w.before args s = true) (hR : rmX7_isPending.frames + 1 ≤ R.frames ∧ 8 + (2 + 11) + rmX7_isPending.locals ≤ R.locals) : CallW R s args RX8 RX7 66 yX7_isPending cX7_isPending 2 (some .boolean) (Cond.code yX7_isPending cX7_isPending 2 (some .boolean) :: WA) rmX7_isPending 0 0 1 := cwV 1 hts (z_goodV u_228 u_229 u_230 u_45 u_231) rfl rfl rfl (by decide +kernel) hR
theorem cwX8_76 {R : Room} {s : State} {args : Array Value} (hts : ∀ w ∈ WA, w.before args s = true) (hR : rmX7_ask.frames + 1 ≤ R.frames ∧ 8 + (4 + 11) + rmX7_ask.locals ≤ R.locals) : CallW R s args RX8 RX7 76 yX7_ask cX7_ask 4 none (Cond.code yX7_ask cX7_ask 4 none :: WA) rmX7_ask 0 0 3 := cwV 3 hts (z_goodV u_237 u_238 u_239 u_45 u_240) rfl rfl rfl (by decide +kernel) hR
theorem cwX8_79 {R : Room} {s : State} {args : Array Value} (hts : ∀ w ∈ WA, w.before args s = true) (hR : rmX4_isHit.frames + 1 ≤ R.frames ∧ 8 + (5 + 11) + rmX4_isHit.locals ≤ R.locals) : CallW R s args RX8 RX4 79 yX4_isHit cX4_isHit 5 (some .boolean) (Cond.code yX4_isHit cX4_isHit 5 (some .boolean) :: WA) rmX4_isHit 0 0 3 := cwV 3 hts (z_goodV u_241 u_242 u_243 u_15 u_244) rfl rfl rfl (by decide +kernel) hR
theorem cwX8_87 {R : Room} {s : State} {args : Array Value} (hts : ∀ w ∈ WA, w.before args s = true) (hR : rmX7_forget.frames + 1 ≤ R.frames ∧ 8 + (2 + 11) + rmX7_forget.locals ≤ R.locals) : CallW R s args RX8 RX7 87 yX7_forget cX7_forget 2 none (Cond.code yX7_forget cX7_forget 2 none :: WA) rmX7_forget 0 0 1 := cwV 1 hts (z_goodV u_298 u_299 u_300 u_45 u_301) rfl rfl rfl (by decide +kernel) hR
theorem cwX8_91 {R : Room} {s : State} {args : Array Value} (hts : ∀ w ∈ WA, w.before args s = true) (hR : rmX4_hasTimeFor.frames + 1 ≤ R.frames ∧ 8 + (2 + 11) + rmX4_hasTimeFor.locals ≤ R.locals) : CallW R s args RX8 RX4 91 yX4_hasTimeFor cX4_hasTimeFor 2 (some .boolean) (Cond.code yX4_hasTimeFor cX4_hasTimeFor 2 (some .boolean) :: WA) rmX4_hasTimeFor 0 0 1 := cwV 1 hts (z_goodV u_313 u_314 u_315 u_15 u_316) rfl rfl rfl (by decide +kernel) hR
theorem cwX8_94 {R : Room} {s : State} {args : Array Value} (hts : ∀ w ∈ WA, w.before args s = true) (hR : rmX4_letPass.frames + 1 ≤ R.frames ∧ 8 + (5 + 11) + rmX4_letPass.locals ≤ R.locals) : CallW R s args RX8 RX4 94 yX4_letPass cX4_letPass 5 (some .int) (Cond.code yX4_letPass cX4_letPass 5 (some .int) :: WA) rmX4_letPass 0 0 1 := cwV 1 hts (z_goodV u_318 u_319 u_320 u_15 u_321) rfl rfl rfl (by decide +kernel) hR
theorem cwX8_102 {R : Room} {s : State} {args : Array Value} (hts : ∀ w ∈ WA, w.before args s = true) (hR : rmX0_kindOf.frames + 1 ≤ R.frames ∧ 8 + (3 + 11) + rmX0_kindOf.locals ≤ R.locals) : CallW R s args RX8 RX0 102 yX0_kindOf cX0_kindOf 3 (some .int) (Cond.code yX0_kindOf cX0_kindOf 3 (some .int) :: WA) rmX0_kindOf 0 0 2 := cwV 2 hts (z_goodV u_523 u_246 u_247 u_37 u_248) rfl rfl rfl (by decide +kernel) hR
theorem cwX8_108 {R : Room} {s : State} {args : Array Value} (hts : ∀ w ∈ WA, w.before args s = true) (hR : rmX4_throwAway.frames + 1 ≤ R.frames ∧ 8 + (3 + 11) + rmX4_throwAway.locals ≤ R.locals) : CallW R s args RX8 RX4 108 yX4_throwAway cX4_throwAway 3 none (Cond.code yX4_throwAway cX4_throwAway 3 none :: WA) rmX4_throwAway 0 0 2 := cwV 2 hts (z_goodV u_524 u_428 u_429 u_15 u_430) rfl rfl rfl (by decide +kernel) hR
theorem cwX8_118 {R : Room} {s : State} {args : Array Value} (hts : ∀ w ∈ WA, w.before args s = true) (hR : rmX1_hasPage.frames + 1 ≤ R.frames ∧ 8 + (2 + 11) + rmX1_hasPage.locals ≤ R.locals) : CallW R s args RX8 RX1 118 yX1_hasPage cX1_hasPage 2 (some .boolean) (Cond.code yX1_hasPage cX1_hasPage 2 (some .boolean) :: WA) rmX1_hasPage 0 0 1 := cwV 1 hts (z_goodV u_537 u_348 u_349 u_41 u_350) rfl rfl rfl (by decide +kernel) hR
theorem cwX8_123 {R : Room} {s : State} {args : Array Value} (hts : ∀ w ∈ WA, w.before args s = true) (hR : rmX0_countOf.frames + 1 ≤ R.frames ∧ 8 + (4 + 11) + rmX0_countOf.locals ≤ R.locals) : CallW R s args RX8 RX0 123 yX0_countOf cX0_countOf 4 (some .int) (Cond.code yX0_countOf cX0_countOf 4 (some .int) :: WA) rmX0_countOf 0 0 1 := cwV 1 hts (z_goodV u_538 u_395 u_396 u_37 u_397) rfl rfl rfl (by decide +kernel) hR
theorem cwX8_126 {R : Room} {s : State} {args : Array Value} (hts : ∀ w ∈ WA, w.before args s = true) (hR : rmX1_tearOut.frames + 1 ≤ R.frames ∧ 8 + (3 + 11) + rmX1_tearOut.locals ≤ R.locals) : CallW R s args RX8 RX1 126 yX1_tearOut cX1_tearOut 3 none (Cond.code yX1_tearOut cX1_tearOut 3 none :: WA) rmX1_tearOut 0 0 2 := cwV 2 hts (z_goodV u_539 u_399 u_400 u_41 u_401) rfl rfl rfl (by decide +kernel) hR
theorem cwX8_130 {R : Room} {s : State} {args : Array Value} (hts : ∀ w ∈ WA, w.before args s = true) (hR : rmX0_fact.frames + 1 ≤ R.frames ∧ 8 + (5 + 11) + rmX0_fact.locals ≤ R.locals) : CallW R s args RX8 RX0 130 yX0_fact cX0_fact 5 (some .int) (Cond.code yX0_fact cX0_fact 5 (some .int) :: WA) rmX0_fact 0 0 3 := cwV 3 hts (z_goodV u_554 u_555 u_556 u_37 u_557) rfl rfl rfl (by decide +kernel) hR
theorem cwX8_134 {R : Room} {s : State} {args : Array Value} (hts : ∀ w ∈ WA, w.before args s = true) (hR : rmX4_lineFact.frames + 1 ≤ R.frames ∧ 8 + (3 + 11) + rmX4_lineFact.locals ≤ R.locals) : CallW R s args RX8 RX4 134 yX4_lineFact cX4_lineFact 3 (some .int) (Cond.code yX4_lineFact cX4_lineFact 3 (some .int) :: WA) rmX4_lineFact 0 0 2 := cwV 2 hts (z_goodV u_577 u_578 u_579 u_15 u_580) rfl rfl rfl (by decide +kernel) hR
theorem cwX8_137 {R : Room} {s : State} {args : Array Value} (hts : ∀ w ∈ WA, w.before args s = true) (hR : rmX7_fact.frames + 1 ≤ R.frames ∧ 8 + (3 + 11) + rmX7_fact.locals ≤ R.locals) : CallW R s args RX8 RX7 137 yX7_fact cX7_fact 3 (some .int) (Cond.code yX7_fact cX7_fact 3 (some .int) :: WA) rmX7_fact 0 0 2 := cwV 2 hts (z_goodV u_596 u_597 u_598 u_45 u_599) rfl rfl rfl (by decide +kernel) hR
theorem cwX8_148 {R : Room} {s : State} {args : Array Value} (hts : ∀ w ∈ WA, w.before args s = true) (hR : rmX3_fact.frames + 1 ≤ R.frames ∧ 8 + (3 + 11) + rmX3_fact.locals ≤ R.locals) : CallW R s args RX8 RX3 148 yX3_fact cX3_fact 3 (some .int) (Cond.code yX3_fact cX3_fact 3 (some .int) :: WA) rmX3_fact 0 0 2 := cwV 2 hts (z_goodV u_617 u_618 u_619 u_49 u_620) rfl rfl rfl (by decide +kernel) hR
theorem cwX8_149 {R : Room} {s : State} {args : Array Value} (hts : ∀ w ∈ WA, w.before args s = true) (hR : rmX4_number.frames + 1 ≤ R.frames ∧ 8 + (2 + 11) + rmX4_number.locals ≤ R.locals) : CallW R s args RX8 RX4 149 yX4_number cX4_number 2 (some .int) (Cond.code yX4_number cX4_number 2 (some .int) :: WA) rmX4_number 0 0 1 := cwV 1 hts (z_goodV u_632 u_633 u_634 u_15 u_635) rfl rfl rfl (by decide +kernel) hR
theorem cwX8_152 {R : Room} {s : State} {args : Array Value} (hts : ∀ w ∈ WA, w.before args s = true) (hR : rmX4_costOf.frames + 1 ≤ R.frames ∧ 8 + (6 + 11) + rmX4_costOf.locals ≤ R.locals) : CallW R s args RX8 RX4 152 yX4_costOf cX4_costOf 6 (some .int) (Cond.code yX4_costOf cX4_costOf 6 (some .int) :: WA) rmX4_costOf 0 0 3 := cwV 3 hts (z_goodV u_659 u_344 u_345 u_15 u_346) rfl rfl rfl (by decide +kernel) hR
theorem cwX8_156 {R : Room} {s : State} {args : Array Value} (hts : ∀ w ∈ WA, w.before args s = true) (hR : rmX1_lineToTear.frames + 1 ≤ R.frames ∧ 8 + (4 + 11) + rmX1_lineToTear.locals ≤ R.locals) : CallW R s args RX8 RX1 156 yX1_lineToTear cX1_lineToTear 4 (some .int) (Cond.code yX1_lineToTear cX1_lineToTear 4 (some .int) :: WA) rmX1_lineToTear 0 0 0 := cwV 0 hts (z_goodV u_680 u_391 u_392 u_41 u_393) rfl rfl rfl (by decide +kernel) hR
theorem cwX8_160 {R : Room} {s : State} {args : Array Value} (hts : ∀ w ∈ WA, w.before args s = true) (hR : rmX4_lineToDrop.frames + 1 ≤ R.frames ∧ 8 + (2 + 11) + rmX4_lineToDrop.locals ≤ R.locals) : CallW R s args RX8 RX4 160 yX4_lineToDrop cX4_lineToDrop 2 (some .int) (Cond.code yX4_lineToDrop cX4_lineToDrop 2 (some .int) :: WA) rmX4_lineToDrop 0 0 1 := cwV 1 hts (z_goodV u_692 u_371 u_372 u_15 u_373) rfl rfl rfl (by decide +kernel) hR
theorem cwX8_166 {R : Room} {s : State} {args : Array Value} (hts : ∀ w ∈ WA, w.before args s = true) (hR : rmX7_count.frames + 1 ≤ R.frames ∧ 8 + (3 + 11) + rmX7_count.locals ≤ R.locals) : CallW R s args RX8 RX7 166 yX7_count cX7_count 3 (some .int) (Cond.code yX7_count cX7_count 3 (some .int) :: WA) rmX7_count 0 0 0 := cwV 0 hts (z_goodV u_702 u_323 u_324 u_45 u_325) rfl rfl rfl (by decide +kernel) hR
theorem cwX8_168 {R : Room} {s : State} {args : Array Value} (hts : ∀ w ∈ WA, w.before args s = true) (hR : rmX4_tick.frames + 1 ≤ R.frames ∧ 8 + (8 + 11) + rmX4_tick.locals ≤ R.locals) : CallW R s args RX8 RX4 168 yX4_tick cX4_tick 8 (some .int) (Cond.code yX4_tick cX4_tick 8 (some .int) :: WA) rmX4_tick 0 0 0 := cwV 0 hts (z_goodV u_703 u_327 u_328 u_15 u_329) rfl rfl rfl (by decide +kernel) hR
theorem cwX8_177 {R : Room} {s : State} {args : Array Value} (hts : ∀ w ∈ WA, w.before args s = true) (hR : rmX5_readAll.frames + 1 ≤ R.frames ∧ 8 + (6 + 11) + rmX5_readAll.locals ≤ R.locals) : CallW R s args RX8 RX5 177 yX5_readAll cX5_readAll 6 (some .int) (Cond.code yX5_readAll cX5_readAll 6 (some .int) :: WA) rmX5_readAll 0 0 2 := cwV 2 hts (z_goodV u_757 u_758 u_759 u_27 u_760) rfl rfl rfl (by decide +kernel) hR
theorem cwX8_182 {R : Room} {s : State} {args : Array Value} (hts : ∀ w ∈ WA, w.before args s = true) (hR : rmX8_isPossible.frames + 1 ≤ R.frames ∧ 8 + (3 + 11) + rmX8_isPossible.locals ≤ R.locals) : CallW R s args RX8 RX8 182 yX8_isPossible cX8_isPossible 3 (some .boolean) (Cond.code yX8_isPossible cX8_isPossible 3 (some .boolean) :: WA) rmX8_isPossible 0 0 1 := cwV 1 hts (z_goodV u_808 u_809 u_810 u_2 u_811) rfl rfl rfl (by decide +kernel) hR
theorem cwX8_185 {R : Room} {s : State} {args : Array Value} (hts : ∀ w ∈ WA, w.before args s = true) (hR : rmX5_isTicks.frames + 1 ≤ R.frames ∧ 8 + (2 + 11) + rmX5_isTicks.locals ≤ R.locals) : CallW R s args RX8 RX5 185 yX5_isTicks cX5_isTicks 2 (some .boolean) (Cond.code yX5_isTicks cX5_isTicks 2 (some .boolean) :: WA) rmX5_isTicks 0 0 1 := cwV 1 hts (z_goodV u_812 u_813 u_814 u_27 u_815) rfl rfl rfl (by decide +kernel) hR
theorem cwX8_195 {R : Room} {s : State} {args : Array Value} (hts : ∀ w ∈ WA, w.before args s = true) (hR : rmX2_restore.frames + 1 ≤ R.frames ∧ 8 + (2 + 11) + rmX2_restore.locals ≤ R.locals) : CallW R s args RX8 RX2 195 yX2_restore cX2_restore 2 none (Cond.code yX2_restore cX2_restore 2 none :: WA) rmX2_restore 0 0 1 := cwV 1 hts (z_goodV u_849 u_850 u_851 u_20 u_852) rfl rfl rfl (by decide +kernel) hR
theorem cwX8_202 {R : Room} {s : State} {args : Array Value} (hts : ∀ w ∈ WA, w.before args s = true) (hR : rmX8_hashLine.frames + 1 ≤ R.frames ∧ 8 + (8 + 11) + rmX8_hashLine.locals ≤ R.locals) : CallW R s args RX8 RX8 202 yX8_hashLine cX8_hashLine 8 (some .long) (Cond.code yX8_hashLine cX8_hashLine 8 (some .long) :: WA) rmX8_hashLine 0 0 2 := cwV 2 hts (z_goodV u_863 u_864 u_865 u_2 u_866) rfl rfl rfl (by decide +kernel) hR
section QL
variable {p : Program} {l : Launch} {e : Env} {R : Room} {s : State} {m : MethodId} {args : Array Value} {below : List Frame} {meth : Method} {c : Code} {H : Heap} {locs : List Loc} {cells slots : Nat} {Q : State → Prop}
variable {cc : ByteArray} {nL pc : Nat} {own : String} {ls : Array Slot} {rest st0 : List Value} {γ : Type} {res : γ} {D : va_G} {cI cB cM : ClassId} {ad6 : Nat → Nat} {a : Nat → Nat → Nat} {A : Nat → Prop} {σ : cSt}
theorem qld19 (S : CallFix p m c cc nL s args WA RX8) (K : qK D cI cB cM ad6 A s) (hs : qS D cI cB cM ad6 a A s σ H locs) {i : Int32} {k : Int32 → Option γ} (hf : (z_ag (σ 0 7) 6 i).bind k = some res) (hdg : decode cc pc = .ok (.iaload, 1)) (kk : ∀ x : Int32, k x = some res → W p l e R s m args below meth c H locs cells slots Q (F0 m (pc + 1) ls (.int x :: rest))) : W p l e R s m args below meth c H locs cells slots Q (F0 m pc ls (.int i :: .ref (a 1 11) :: rest)) := by
  obtain ⟨G, hP, hD, hS⟩ := hs
  exact z_ald S K.1 hP 19 0 rfl rfl hf hdg kk
theorem qld4 (S : CallFix p m c cc nL s args WA RX8) (K : qK D cI cB cM ad6 A s) (hs : qS D cI cB cM ad6 a A s σ H locs) {i : Int32} {k : Int32 → Option γ} (hf : (z_ag (σ 6 0) 34 i).bind k = some res) (hdg : decode cc pc = .ok (.iaload, 1)) (kk : ∀ x : Int32, k x = some res → W p l e R s m args below meth c H locs cells slots Q (F0 m (pc + 1) ls (.int x :: rest))) : W p l e R s m args below meth c H locs cells slots Q (F0 m pc ls (.int i :: .ref (a 3 1) :: rest)) := by
  obtain ⟨G, hP, hD, hS⟩ := hs
  exact z_ald S K.1 hP 4 0 rfl rfl hf hdg kk
theorem qld5 (S : CallFix p m c cc nL s args WA RX8) (K : qK D cI cB cM ad6 A s) (hs : qS D cI cB cM ad6 a A s σ H locs) {i : Int32} {k : Int32 → Option γ} (hf : (z_ag (σ 6 1) 34 i).bind k = some res) (hdg : decode cc pc = .ok (.iaload, 1)) (kk : ∀ x : Int32, k x = some res → W p l e R s m args below meth c H locs cells slots Q (F0 m (pc + 1) ls (.int x :: rest))) : W p l e R s m args below meth c H locs cells slots Q (F0 m pc ls (.int i :: .ref (a 3 2) :: rest)) := by
  obtain ⟨G, hP, hD, hS⟩ := hs
  exact z_ald S K.1 hP 5 0 rfl rfl hf hdg kk
theorem qld6 (S : CallFix p m c cc nL s args WA RX8) (K : qK D cI cB cM ad6 A s) (hs : qS D cI cB cM ad6 a A s σ H locs) {i : Int32} {k : Int32 → Option γ} (hf : (z_ag (σ 6 2) 34 i).bind k = some res) (hdg : decode cc pc = .ok (.iaload, 1)) (kk : ∀ x : Int32, k x = some res → W p l e R s m args below meth c H locs cells slots Q (F0 m (pc + 1) ls (.int x :: rest))) : W p l e R s m args below meth c H locs cells slots Q (F0 m pc ls (.int i :: .ref (a 3 3) :: rest)) := by
  obtain ⟨G, hP, hD, hS⟩ := hs
  exact z_ald S K.1 hP 6 0 rfl rfl hf hdg kk
/-- a byte of the text -/
theorem qbst (S : CallFix p m c cc nL s args WA RX8) (K : qK D cI cB cM ad6 A s) (hs : qS D cI cB cM ad6 a A s σ H locs) {i x : Int32} {k : cSt → Option γ} (hf : (c_sb σ i x).bind k = some res) (hdg : decode cc pc = .ok (.bastore, 1)) (kk : ∀ (σ' : cSt) (H1 : Heap) (locs1 : List Loc), qS D cI cB cM ad6 a A s σ' H1 locs1 → k σ' = some res → W p l e R s m args below meth c H1 locs1 cells slots Q (F0 m (pc + 1) ls rest)) : W p l e R s m args below meth c H locs cells slots Q (F0 m pc ls (.int x :: .int i :: .ref (a 3 4) :: rest)) := by
  obtain ⟨G, hP, hD, hS⟩ := hs
  unfold c_sb at hf
  split at hf
  · simp at hf
  · rename_i hn
    exact va_bast S.1 S.2.1 K.1 hP (qD_va hD cI cB cM ad6 σ) hS 7 1 rfl rfl hn hdg (fun H1 locs1 h1 h2 h3 => kk (c_up σ 6 (z_up (σ 6) 11 (upd (σ 6 11) i.toNatClampNeg (vp_nar .byte x)))) H1 locs1 ⟨G, h1, hD, h3⟩ hf)
theorem qgX8_111_8 (S : CallFix p m c cc nL s args WA RX8) (K : qK D cI cB cM ad6 A s) (hs : qS D cI cB cM ad6 a A s σ H locs) (hdg : decode cc pc = .ok (.getfield 111, 3)) (kk : W p l e R s m args below meth c H locs cells slots Q (F0 m (pc + 3) ls (.int (σ 0 22 0) :: rest))) : W p l e R s m args below meth c H locs cells slots Q (F0 m pc ls (.ref (a 1 0) :: rest)) := by
  obtain ⟨G, hP, hD, hS⟩ := hs
  exact va_get (D := D) (ci := 4) (v := .int (σ 0 22 0)) (C := RX4) (T := TX4) (N := 14) S.1 S.2.1 S.2.2.2.2 inlX4 S.2.2.2.1 K.1 hP 8 rfl rfl 9 (by decide) (S.2.2.2.2 _ u_522) (fun _ h9 => h9) rfl hdg kk
theorem qgX8_114_8 (S : CallFix p m c cc nL s args WA RX8) (K : qK D cI cB cM ad6 A s) (hs : qS D cI cB cM ad6 a A s σ H locs) (hdg : decode cc pc = .ok (.getfield 114, 3)) (kk : W p l e R s m args below meth c H locs cells slots Q (F0 m (pc + 3) ls (.ref (a 1 8) :: rest))) : W p l e R s m args below meth c H locs cells slots Q (F0 m pc ls (.ref (a 1 0) :: rest)) := by
  obtain ⟨G, hP, hD, hS⟩ := hs
  exact va_get (D := D) (ci := 4) (v := .ref (a 1 8)) (C := RX4) (T := TX4) (N := 14) S.1 S.2.1 S.2.2.2.2 inlX4 S.2.2.2.1 K.1 hP 8 rfl rfl 3 (by decide) (S.2.2.2.2 _ u_536) (fun _ h9 => h9) rfl hdg kk
theorem qgX8_12_0 (S : CallFix p m c cc nL s args WA RX8) (K : qK D cI cB cM ad6 A s) (hs : qS D cI cB cM ad6 a A s σ H locs) (hdg : decode cc pc = .ok (.getfield 12, 3)) (kk : W p l e R s m args below meth c H locs cells slots Q (F0 m (pc + 3) ls (.ref (a 1 0) :: rest))) : W p l e R s m args below meth c H locs cells slots Q (F0 m pc ls (.ref (a 0 0) :: rest)) := by
  obtain ⟨G, hP, hD, hS⟩ := hs
  exact va_get (D := D) (ci := 7) (v := .ref (a 1 0)) (C := RX8) (T := TX8) (N := 6) S.1 S.2.1 S.2.2.2.2 inlX8 S.2.2.2.1 K.1 hP 0 rfl rfl 0 (by decide) (S.2.2.2.2 _ u_16) (fun _ h9 => h9) rfl hdg kk
theorem qgX8_139_8 (S : CallFix p m c cc nL s args WA RX8) (K : qK D cI cB cM ad6 A s) (hs : qS D cI cB cM ad6 a A s σ H locs) (hdg : decode cc pc = .ok (.getfield 139, 3)) (kk : W p l e R s m args below meth c H locs cells slots Q (F0 m (pc + 3) ls (.ref (a 1 14) :: rest))) : W p l e R s m args below meth c H locs cells slots Q (F0 m pc ls (.ref (a 1 0) :: rest)) := by
  obtain ⟨G, hP, hD, hS⟩ := hs
  exact va_get (D := D) (ci := 4) (v := .ref (a 1 14)) (C := RX4) (T := TX4) (N := 14) S.1 S.2.1 S.2.2.2.2 inlX4 S.2.2.2.1 K.1 hP 8 rfl rfl 5 (by decide) (S.2.2.2.2 _ u_615) (fun _ h9 => h9) rfl hdg kk
theorem qgX8_143_22 (S : CallFix p m c cc nL s args WA RX8) (K : qK D cI cB cM ad6 A s) (hs : qS D cI cB cM ad6 a A s σ H locs) (hdg : decode cc pc = .ok (.getfield 143, 3)) (kk : W p l e R s m args below meth c H locs cells slots Q (F0 m (pc + 3) ls (.int (σ 0 18 0) :: rest))) : W p l e R s m args below meth c H locs cells slots Q (F0 m pc ls (.ref (a 1 14) :: rest)) := by
  obtain ⟨G, hP, hD, hS⟩ := hs
  exact va_get (D := D) (ci := 3) (v := .int (σ 0 18 0)) (C := RX3) (T := TX3) (N := 2) S.1 S.2.1 S.2.2.2.2 inlX3 S.2.2.2.1 K.1 hP 22 rfl rfl 1 (by decide) (S.2.2.2.2 _ u_616) (fun _ h9 => h9) rfl hdg kk
theorem qgX8_181_3 (S : CallFix p m c cc nL s args WA RX8) (K : qK D cI cB cM ad6 A s) (hs : qS D cI cB cM ad6 a A s σ H locs) (hdg : decode cc pc = .ok (.getfield 181, 3)) (kk : W p l e R s m args below meth c H locs cells slots Q (F0 m (pc + 3) ls (.int (σ 6 3 0) :: rest))) : W p l e R s m args below meth c H locs cells slots Q (F0 m pc ls (.ref (a 3 0) :: rest)) := by
  obtain ⟨G, hP, hD, hS⟩ := hs
  exact va_get (D := D) (ci := 5) (v := .int (σ 6 3 0)) (C := RX5) (T := TX5) (N := 11) S.1 S.2.1 S.2.2.2.2 inlX5 S.2.2.2.1 K.1 hP 3 rfl rfl 3 (by decide) (S.2.2.2.2 _ u_753) (fun _ h9 => h9) rfl hdg kk
theorem qgX8_188_3 (S : CallFix p m c cc nL s args WA RX8) (K : qK D cI cB cM ad6 A s) (hs : qS D cI cB cM ad6 a A s σ H locs) (hdg : decode cc pc = .ok (.getfield 188, 3)) (kk : W p l e R s m args below meth c H locs cells slots Q (F0 m (pc + 3) ls (.ref (a 3 3) :: rest))) : W p l e R s m args below meth c H locs cells slots Q (F0 m pc ls (.ref (a 3 0) :: rest)) := by
  obtain ⟨G, hP, hD, hS⟩ := hs
  exact va_get (D := D) (ci := 5) (v := .ref (a 3 3)) (C := RX5) (T := TX5) (N := 11) S.1 S.2.1 S.2.2.2.2 inlX5 S.2.2.2.1 K.1 hP 3 rfl rfl 2 (by decide) (S.2.2.2.2 _ u_754) (fun _ h9 => h9) rfl hdg kk
theorem qgX8_190_3 (S : CallFix p m c cc nL s args WA RX8) (K : qK D cI cB cM ad6 A s) (hs : qS D cI cB cM ad6 a A s σ H locs) (hdg : decode cc pc = .ok (.getfield 190, 3)) (kk : W p l e R s m args below meth c H locs cells slots Q (F0 m (pc + 3) ls (.ref (a 3 1) :: rest))) : W p l e R s m args below meth c H locs cells slots Q (F0 m pc ls (.ref (a 3 0) :: rest)) := by
  obtain ⟨G, hP, hD, hS⟩ := hs
  exact va_get (D := D) (ci := 5) (v := .ref (a 3 1)) (C := RX5) (T := TX5) (N := 11) S.1 S.2.1 S.2.2.2.2 inlX5 S.2.2.2.1 K.1 hP 3 rfl rfl 0 (by decide) (S.2.2.2.2 _ u_755) (fun _ h9 => h9) rfl hdg kk
theorem qgX8_193_3 (S : CallFix p m c cc nL s args WA RX8) (K : qK D cI cB cM ad6 A s) (hs : qS D cI cB cM ad6 a A s σ H locs) (hdg : decode cc pc = .ok (.getfield 193, 3)) (kk : W p l e R s m args below meth c H locs cells slots Q (F0 m (pc + 3) ls (.ref (a 3 2) :: rest))) : W p l e R s m args below meth c H locs cells slots Q (F0 m pc ls (.ref (a 3 0) :: rest)) := by
  obtain ⟨G, hP, hD, hS⟩ := hs
  exact va_get (D := D) (ci := 5) (v := .ref (a 3 2)) (C := RX5) (T := TX5) (N := 11) S.1 S.2.1 S.2.2.2.2 inlX5 S.2.2.2.1 K.1 hP 3 rfl rfl 1 (by decide) (S.2.2.2.2 _ u_756) (fun _ h9 => h9) rfl hdg kk
theorem qgX8_194_1 (S : CallFix p m c cc nL s args WA RX8) (K : qK D cI cB cM ad6 A s) (hs : qS D cI cB cM ad6 a A s σ H locs) (hdg : decode cc pc = .ok (.getfield 194, 3)) (kk : W p l e R s m args below meth c H locs cells slots Q (F0 m (pc + 3) ls (.int (σ 7 1 0) :: rest))) : W p l e R s m args below meth c H locs cells slots Q (F0 m pc ls (.ref (a 0 1) :: rest)) := by
  obtain ⟨G, hP, hD, hS⟩ := hs
  exact va_get (D := D) (ci := 2) (v := .int (σ 7 1 0)) (C := RX2) (T := TX2) (N := 2) S.1 S.2.1 S.2.2.2.2 inlX2 S.2.2.2.1 K.1 hP 1 rfl rfl 1 (by decide) (S.2.2.2.2 _ u_848) (fun _ h9 => h9) rfl hdg kk
theorem qgX8_20_0 (S : CallFix p m c cc nL s args WA RX8) (K : qK D cI cB cM ad6 A s) (hs : qS D cI cB cM ad6 a A s σ H locs) (hdg : decode cc pc = .ok (.getfield 20, 3)) (kk : W p l e R s m args below meth c H locs cells slots Q (F0 m (pc + 3) ls (.ref (a 2 0) :: rest))) : W p l e R s m args below meth c H locs cells slots Q (F0 m pc ls (.ref (a 0 0) :: rest)) := by
  obtain ⟨G, hP, hD, hS⟩ := hs
  exact va_get (D := D) (ci := 7) (v := .ref (a 2 0)) (C := RX8) (T := TX8) (N := 6) S.1 S.2.1 S.2.2.2.2 inlX8 S.2.2.2.1 K.1 hP 0 rfl rfl 1 (by decide) (S.2.2.2.2 _ u_17) (fun _ h9 => h9) rfl hdg kk
theorem qgX8_26_0 (S : CallFix p m c cc nL s args WA RX8) (K : qK D cI cB cM ad6 A s) (hs : qS D cI cB cM ad6 a A s σ H locs) (hdg : decode cc pc = .ok (.getfield 26, 3)) (kk : W p l e R s m args below meth c H locs cells slots Q (F0 m (pc + 3) ls (.ref (a 0 1) :: rest))) : W p l e R s m args below meth c H locs cells slots Q (F0 m pc ls (.ref (a 0 0) :: rest)) := by
  obtain ⟨G, hP, hD, hS⟩ := hs
  exact va_get (D := D) (ci := 7) (v := .ref (a 0 1)) (C := RX8) (T := TX8) (N := 6) S.1 S.2.1 S.2.2.2.2 inlX8 S.2.2.2.1 K.1 hP 0 rfl rfl 2 (by decide) (S.2.2.2.2 _ u_21) (fun _ h9 => h9) rfl hdg kk
theorem qgX8_30_0 (S : CallFix p m c cc nL s args WA RX8) (K : qK D cI cB cM ad6 A s) (hs : qS D cI cB cM ad6 a A s σ H locs) (hdg : decode cc pc = .ok (.getfield 30, 3)) (kk : W p l e R s m args below meth c H locs cells slots Q (F0 m (pc + 3) ls (.ref (a 3 4) :: rest))) : W p l e R s m args below meth c H locs cells slots Q (F0 m pc ls (.ref (a 0 0) :: rest)) := by
  obtain ⟨G, hP, hD, hS⟩ := hs
  exact va_get (D := D) (ci := 7) (v := .ref (a 3 4)) (C := RX8) (T := TX8) (N := 6) S.1 S.2.1 S.2.2.2.2 inlX8 S.2.2.2.1 K.1 hP 0 rfl rfl 3 (by decide) (S.2.2.2.2 _ u_23) (fun _ h9 => h9) rfl hdg kk
theorem qgX8_34_0 (S : CallFix p m c cc nL s args WA RX8) (K : qK D cI cB cM ad6 A s) (hs : qS D cI cB cM ad6 a A s σ H locs) (hdg : decode cc pc = .ok (.getfield 34, 3)) (kk : W p l e R s m args below meth c H locs cells slots Q (F0 m (pc + 3) ls (.int (σ 7 0 0) :: rest))) : W p l e R s m args below meth c H locs cells slots Q (F0 m pc ls (.ref (a 0 0) :: rest)) := by
  obtain ⟨G, hP, hD, hS⟩ := hs
  exact va_get (D := D) (ci := 7) (v := .int (σ 7 0 0)) (C := RX8) (T := TX8) (N := 6) S.1 S.2.1 S.2.2.2.2 inlX8 S.2.2.2.1 K.1 hP 0 rfl rfl 4 (by decide) (S.2.2.2.2 _ u_24) (fun _ h9 => h9) rfl hdg kk
theorem qgX8_41_0 (S : CallFix p m c cc nL s args WA RX8) (K : qK D cI cB cM ad6 A s) (hs : qS D cI cB cM ad6 a A s σ H locs) (hdg : decode cc pc = .ok (.getfield 41, 3)) (kk : W p l e R s m args below meth c H locs cells slots Q (F0 m (pc + 3) ls (.ref (a 3 0) :: rest))) : W p l e R s m args below meth c H locs cells slots Q (F0 m pc ls (.ref (a 0 0) :: rest)) := by
  obtain ⟨G, hP, hD, hS⟩ := hs
  exact va_get (D := D) (ci := 7) (v := .ref (a 3 0)) (C := RX8) (T := TX8) (N := 6) S.1 S.2.1 S.2.2.2.2 inlX8 S.2.2.2.1 K.1 hP 0 rfl rfl 5 (by decide) (S.2.2.2.2 _ u_28) (fun _ h9 => h9) rfl hdg kk
theorem qgX8_52_8 (S : CallFix p m c cc nL s args WA RX8) (K : qK D cI cB cM ad6 A s) (hs : qS D cI cB cM ad6 a A s σ H locs) (hdg : decode cc pc = .ok (.getfield 52, 3)) (kk : W p l e R s m args below meth c H locs cells slots Q (F0 m (pc + 3) ls (.int (σ 0 21 0) :: rest))) : W p l e R s m args below meth c H locs cells slots Q (F0 m pc ls (.ref (a 1 0) :: rest)) := by
  obtain ⟨G, hP, hD, hS⟩ := hs
  exact va_get (D := D) (ci := 4) (v := .int (σ 0 21 0)) (C := RX4) (T := TX4) (N := 14) S.1 S.2.1 S.2.2.2.2 inlX4 S.2.2.2.1 K.1 hP 8 rfl rfl 8 (by decide) (S.2.2.2.2 _ u_147) (fun _ h9 => h9) rfl hdg kk
theorem qgX8_55_8 (S : CallFix p m c cc nL s args WA RX8) (K : qK D cI cB cM ad6 A s) (hs : qS D cI cB cM ad6 a A s σ H locs) (hdg : decode cc pc = .ok (.getfield 55, 3)) (kk : W p l e R s m args below meth c H locs cells slots Q (F0 m (pc + 3) ls (.int (σ 0 19 0) :: rest))) : W p l e R s m args below meth c H locs cells slots Q (F0 m pc ls (.ref (a 1 0) :: rest)) := by
  obtain ⟨G, hP, hD, hS⟩ := hs
  exact va_get (D := D) (ci := 4) (v := .int (σ 0 19 0)) (C := RX4) (T := TX4) (N := 14) S.1 S.2.1 S.2.2.2.2 inlX4 S.2.2.2.1 K.1 hP 8 rfl rfl 6 (by decide) (S.2.2.2.2 _ u_221) (fun _ h9 => h9) rfl hdg kk
theorem qgX8_62_8 (S : CallFix p m c cc nL s args WA RX8) (K : qK D cI cB cM ad6 A s) (hs : qS D cI cB cM ad6 a A s σ H locs) (hdg : decode cc pc = .ok (.getfield 62, 3)) (kk : W p l e R s m args below meth c H locs cells slots Q (F0 m (pc + 3) ls (.ref (a 1 10) :: rest))) : W p l e R s m args below meth c H locs cells slots Q (F0 m pc ls (.ref (a 1 0) :: rest)) := by
  obtain ⟨G, hP, hD, hS⟩ := hs
  exact va_get (D := D) (ci := 4) (v := .ref (a 1 10)) (C := RX4) (T := TX4) (N := 14) S.1 S.2.1 S.2.2.2.2 inlX4 S.2.2.2.1 K.1 hP 8 rfl rfl 4 (by decide) (S.2.2.2.2 _ u_222) (fun _ h9 => h9) rfl hdg kk
theorem qgX8_62_24 (S : CallFix p m c cc nL s args WA RX8) (K : qK D cI cB cM ad6 A s) (hs : qS D cI cB cM ad6 a A s σ H locs) (hdg : decode cc pc = .ok (.getfield 62, 3)) (kk : W p l e R s m args below meth c H locs cells slots Q (F0 m (pc + 3) ls (.ref (a 2 10) :: rest))) : W p l e R s m args below meth c H locs cells slots Q (F0 m pc ls (.ref (a 2 0) :: rest)) := by
  obtain ⟨G, hP, hD, hS⟩ := hs
  exact va_get (D := D) (ci := 4) (v := .ref (a 2 10)) (C := RX4) (T := TX4) (N := 14) S.1 S.2.1 S.2.2.2.2 inlX4 S.2.2.2.1 K.1 hP 24 rfl rfl 4 (by decide) (S.2.2.2.2 _ u_222) (fun _ h9 => h9) rfl hdg kk
theorem qgX8_83_18 (S : CallFix p m c cc nL s args WA RX8) (K : qK D cI cB cM ad6 A s) (hs : qS D cI cB cM ad6 a A s σ H locs) (hdg : decode cc pc = .ok (.getfield 83, 3)) (kk : W p l e R s m args below meth c H locs cells slots Q (F0 m (pc + 3) ls (.ref (a 1 11) :: rest))) : W p l e R s m args below meth c H locs cells slots Q (F0 m pc ls (.ref (a 1 10) :: rest)) := by
  obtain ⟨G, hP, hD, hS⟩ := hs
  exact va_get (D := D) (ci := 6) (v := .ref (a 1 11)) (C := RX7) (T := TX7) (N := 3) S.1 S.2.1 S.2.2.2.2 inlX7 S.2.2.2.1 K.1 hP 18 rfl rfl 0 (by decide) (S.2.2.2.2 _ u_297) (fun _ h9 => h9) rfl hdg kk
theorem qgX8_98_8 (S : CallFix p m c cc nL s args WA RX8) (K : qK D cI cB cM ad6 A s) (hs : qS D cI cB cM ad6 a A s σ H locs) (hdg : decode cc pc = .ok (.getfield 98, 3)) (kk : W p l e R s m args below meth c H locs cells slots Q (F0 m (pc + 3) ls (.ref (a 1 3) :: rest))) : W p l e R s m args below meth c H locs cells slots Q (F0 m pc ls (.ref (a 1 0) :: rest)) := by
  obtain ⟨G, hP, hD, hS⟩ := hs
  exact va_get (D := D) (ci := 4) (v := .ref (a 1 3)) (C := RX4) (T := TX4) (N := 14) S.1 S.2.1 S.2.2.2.2 inlX4 S.2.2.2.1 K.1 hP 8 rfl rfl 2 (by decide) (S.2.2.2.2 _ u_521) (fun _ h9 => h9) rfl hdg kk
theorem qpX8_111_8 (S : CallFix p m c cc nL s args WA RX8) (K : qK D cI cB cM ad6 A s) (hs : qS D cI cB cM ad6 a A s σ H locs) {x : Int32} {k : cSt → Option γ} (hf : (c_sf σ 0 22 x).bind k = some res) (hdg : decode cc pc = .ok (.putfield 111, 3)) (kk : ∀ (σ' : cSt) (H1 : Heap) (locs1 : List Loc), qS D cI cB cM ad6 a A s σ' H1 locs1 → k σ' = some res → W p l e R s m args below meth c H1 locs1 cells slots Q (F0 m (pc + 3) ls rest)) : W p l e R s m args below meth c H locs cells slots Q (F0 m pc ls (.int x :: .ref (a 1 0) :: rest)) := by
  obtain ⟨G, hP, hD, hS⟩ := hs
  exact va_put (D := D) (ci := 4) (v := .int x) (ty := .int) (C := RX4) (T := TX4) (N := 14) S.1 S.2.1 S.2.2.2.2 inlX4 tyX4 tyX4_ok nmX4 S.2.2.2.1 K.1 hP (qD_va hD cI cB cM ad6 σ) hS 8 rfl rfl 9 (by decide) (S.2.2.2.2 _ u_522) (fun _ h9 => h9) rfl (by decide +kernel) rfl rfl (Nat.le_of_ble_eq_true rfl) hdg (fun H1 locs1 h1 h2 h3 => kk (c_up σ 0 (z_up (σ 0) 22 (fun _ => x))) H1 locs1 ⟨G, h1, hD, h3⟩ hf)
theorem qpX8_34_0 (S : CallFix p m c cc nL s args WA RX8) (K : qK D cI cB cM ad6 A s) (hs : qS D cI cB cM ad6 a A s σ H locs) {x : Int32} {k : cSt → Option γ} (hf : (c_sf σ 7 0 x).bind k = some res) (hdg : decode cc pc = .ok (.putfield 34, 3)) (kk : ∀ (σ' : cSt) (H1 : Heap) (locs1 : List Loc), qS D cI cB cM ad6 a A s σ' H1 locs1 → k σ' = some res → W p l e R s m args below meth c H1 locs1 cells slots Q (F0 m (pc + 3) ls rest)) : W p l e R s m args below meth c H locs cells slots Q (F0 m pc ls (.int x :: .ref (a 0 0) :: rest)) := by
  obtain ⟨G, hP, hD, hS⟩ := hs
  exact va_put (D := D) (ci := 7) (v := .int x) (ty := .int) (C := RX8) (T := TX8) (N := 6) S.1 S.2.1 S.2.2.2.2 inlX8 tyX8 tyX8_ok nmX8 S.2.2.2.1 K.1 hP (qD_va hD cI cB cM ad6 σ) hS 0 rfl rfl 4 (by decide) (S.2.2.2.2 _ u_24) (fun _ h9 => h9) rfl (by decide +kernel) rfl rfl (Nat.le_of_ble_eq_true rfl) hdg (fun H1 locs1 h1 h2 h3 => kk (c_up σ 7 (z_up (σ 7) 0 (fun _ => x))) H1 locs1 ⟨G, h1, hD, h3⟩ hf)
theorem qV0 (K : qK D cI cB cM ad6 A s) (hs : qS D cI cB cM ad6 a A s σ H locs) : ∃ cellB : Cell, H[a 0 0]? = some cellB ∧ cellB.vm.isStatics = false ∧ s.vm.findClass RX8 = some cellB.cls := by
  obtain ⟨G, hP, hD, hS⟩ := hs
  exact va_recv K.1 hP (ci := 7) (q0 := 0) rfl rfl
theorem qV1 (K : qK D cI cB cM ad6 A s) (hs : qS D cI cB cM ad6 a A s σ H locs) : ∃ cellB : Cell, H[a 0 1]? = some cellB ∧ cellB.vm.isStatics = false ∧ s.vm.findClass RX2 = some cellB.cls := by
  obtain ⟨G, hP, hD, hS⟩ := hs
  exact va_recv K.1 hP (ci := 2) (q0 := 1) rfl rfl
theorem qV3 (K : qK D cI cB cM ad6 A s) (hs : qS D cI cB cM ad6 a A s σ H locs) : ∃ cellB : Cell, H[a 3 0]? = some cellB ∧ cellB.vm.isStatics = false ∧ s.vm.findClass RX5 = some cellB.cls := by
  obtain ⟨G, hP, hD, hS⟩ := hs
  exact va_recv K.1 hP (ci := 5) (q0 := 3) rfl rfl
theorem qV8 (K : qK D cI cB cM ad6 A s) (hs : qS D cI cB cM ad6 a A s σ H locs) : ∃ cellB : Cell, H[a 1 0]? = some cellB ∧ cellB.vm.isStatics = false ∧ s.vm.findClass RX4 = some cellB.cls := by
  obtain ⟨G, hP, hD, hS⟩ := hs
  exact va_recv K.1 hP (ci := 4) (q0 := 8) rfl rfl
theorem qV11 (K : qK D cI cB cM ad6 A s) (hs : qS D cI cB cM ad6 a A s σ H locs) : ∃ cellB : Cell, H[a 1 3]? = some cellB ∧ cellB.vm.isStatics = false ∧ s.vm.findClass RX0 = some cellB.cls := by
  obtain ⟨G, hP, hD, hS⟩ := hs
  exact va_recv K.1 hP (ci := 0) (q0 := 11) rfl rfl
theorem qV16 (K : qK D cI cB cM ad6 A s) (hs : qS D cI cB cM ad6 a A s σ H locs) : ∃ cellB : Cell, H[a 1 8]? = some cellB ∧ cellB.vm.isStatics = false ∧ s.vm.findClass RX1 = some cellB.cls := by
  obtain ⟨G, hP, hD, hS⟩ := hs
  exact va_recv K.1 hP (ci := 1) (q0 := 16) rfl rfl
theorem qV18 (K : qK D cI cB cM ad6 A s) (hs : qS D cI cB cM ad6 a A s σ H locs) : ∃ cellB : Cell, H[a 1 10]? = some cellB ∧ cellB.vm.isStatics = false ∧ s.vm.findClass RX7 = some cellB.cls := by
  obtain ⟨G, hP, hD, hS⟩ := hs
  exact va_recv K.1 hP (ci := 6) (q0 := 18) rfl rfl
theorem qV22 (K : qK D cI cB cM ad6 A s) (hs : qS D cI cB cM ad6 a A s σ H locs) : ∃ cellB : Cell, H[a 1 14]? = some cellB ∧ cellB.vm.isStatics = false ∧ s.vm.findClass RX3 = some cellB.cls := by
  obtain ⟨G, hP, hD, hS⟩ := hs
  exact va_recv K.1 hP (ci := 3) (q0 := 22) rfl rfl
theorem qV24 (K : qK D cI cB cM ad6 A s) (hs : qS D cI cB cM ad6 a A s σ H locs) : ∃ cellB : Cell, H[a 2 0]? = some cellB ∧ cellB.vm.isStatics = false ∧ s.vm.findClass RX4 = some cellB.cls := by
  obtain ⟨G, hP, hD, hS⟩ := hs
  exact va_recv K.1 hP (ci := 4) (q0 := 24) rfl rfl
theorem qV27 (K : qK D cI cB cM ad6 A s) (hs : qS D cI cB cM ad6 a A s σ H locs) : ∃ cellB : Cell, H[a 2 3]? = some cellB ∧ cellB.vm.isStatics = false ∧ s.vm.findClass RX0 = some cellB.cls := by
  obtain ⟨G, hP, hD, hS⟩ := hs
  exact va_recv K.1 hP (ci := 0) (q0 := 27) rfl rfl
theorem qV32 (K : qK D cI cB cM ad6 A s) (hs : qS D cI cB cM ad6 a A s σ H locs) : ∃ cellB : Cell, H[a 2 8]? = some cellB ∧ cellB.vm.isStatics = false ∧ s.vm.findClass RX1 = some cellB.cls := by
  obtain ⟨G, hP, hD, hS⟩ := hs
  exact va_recv K.1 hP (ci := 1) (q0 := 32) rfl rfl
theorem qV34 (K : qK D cI cB cM ad6 A s) (hs : qS D cI cB cM ad6 a A s σ H locs) : ∃ cellB : Cell, H[a 2 10]? = some cellB ∧ cellB.vm.isStatics = false ∧ s.vm.findClass RX7 = some cellB.cls := by
  obtain ⟨G, hP, hD, hS⟩ := hs
  exact va_recv K.1 hP (ci := 6) (q0 := 34) rfl rfl
theorem qV38 (K : qK D cI cB cM ad6 A s) (hs : qS D cI cB cM ad6 a A s σ H locs) : ∃ cellB : Cell, H[a 2 14]? = some cellB ∧ cellB.vm.isStatics = false ∧ s.vm.findClass RX3 = some cellB.cls := by
  obtain ⟨G, hP, hD, hS⟩ := hs
  exact va_recv K.1 hP (ci := 3) (q0 := 38) rfl rfl
theorem qtkT (S : CallFix p m c cc nL s args WA own) (K : qK D cI cB cM ad6 A s) (hs : qS D cI cB cM ad6 a A s σ H locs) (hl : ls.size = nL) {index : Nat} (hlk : Cond.methodLink own index yX4_takeOver ∈ WA) {k : cSt → Option γ} (hf : c_b1 σ 1 (fX4_takeOver (σ 0) (σ 1)) k = some res) (hdg : decode cc pc = .ok (.invokevirtual index, 3)) (hR : rmX4_takeOver.frames + 1 ≤ R.frames ∧ 8 + (2 + 11) + rmX4_takeOver.locals ≤ R.locals) (hroom : (rest.map fun v => v.category).sum ≤ 8) (hfit : cells + 0 ≤ R.cells ∧ slots + 0 ≤ R.slots)
    (kk : ∀ (σ' : cSt) (H1 : Heap) (locs1 : List Loc), qS D cI cB cM ad6 a A s σ' H1 locs1 → k σ' = some res → W p l e R s m args below meth c H1 locs1 cells slots Q (F0 m (pc + 3) ls rest)) : W p l e R s m args below meth c H locs cells slots Q (F0 m pc ls (.ref (a 1 0) :: .ref (a 2 0) :: rest)) := by
  obtain ⟨G, hP, hD, hS⟩ := hs
  unfold c_b1 at hf
  obtain ⟨-, -, hPs, hPd, -, -, -, -⟩ := qParts.mp hP
  exact qtk (gd := a 2) (gs := a 1) S (K.1.sub [0] rfl) hPd hPs (qD_1 hD) (qD_0 hD) (qD_nd hD (l1 := 24) (l2 := 8) (by omega) (by omega) (by omega) (qLo_3 a G) (qLo_2 a G)) (fun q h => qBk_A hD (l1 := 24) (by omega) (gA_1 h)) (fun q h => qBk_A hD (l1 := 8) (by omega) (gA_0 h)) hS hl hf hlk hdg hR hroom hfit (fun τ H1 locs1 h1 h2 hk hS hf => kk _ H1 locs1 ⟨G, qAf_3_2 hP hD hk h1 h2, hD, hS⟩ hf)
end QL
