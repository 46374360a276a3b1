/-! a machine: rooms, constants, call words (by wip/tools/gworld.py) -/
theorem k_bipush_10 : (Int8.ofInt 10).toInt32 = nI 10 := by decide
theorem k_bipush_34 : (Int8.ofInt 34).toInt32 = nI 34 := by decide
theorem k_bipush_48 : (Int8.ofInt 48).toInt32 = nI 48 := by decide
theorem k_bipush_53 : (Int8.ofInt 53).toInt32 = nI 53 := by decide
theorem k_bipush_57 : (Int8.ofInt 57).toInt32 = nI 57 := by decide
theorem k_bipush_58 : (Int8.ofInt 58).toInt32 = nI 58 := by decide
theorem k_bipush_59 : (Int8.ofInt 59).toInt32 = nI 59 := by decide
theorem k_bipush_61 : (Int8.ofInt 61).toInt32 = nI 61 := by decide
theorem k_bipush_114 : (Int8.ofInt 114).toInt32 = nI 114 := by decide
theorem k_bipush_116 : (Int8.ofInt 116).toInt32 = nI 116 := by decide
theorem k_bipush_119 : (Int8.ofInt 119).toInt32 = nI 119 := by decide
def rmX5_isTicks : Room := { frames := 0, cells := 0, slots := 0, locals := 0 }
def rmX5_keepOrder : Room := { frames := 0, cells := 0, slots := 0, locals := 0 }
def rmX5_startNumber : Room := { frames := 0, cells := 0, slots := 0, locals := 0 }
def rmX5_takeKind : Room := { frames := 1, cells := 0, slots := 0, locals := 21 }
def rmX5_takeCache : Room := { frames := 0, cells := 0, slots := 0, locals := 0 }
def rmX5_takeColon : Room := { frames := 1, cells := 0, slots := 0, locals := 21 }
def rmX5_takeDigit : Room := { frames := 0, cells := 0, slots := 0, locals := 0 }
def rmX5_takeOfNumber : Room := { frames := 1, cells := 0, slots := 0, locals := 22 }
def rmX5_take : Room := { frames := 2, cells := 0, slots := 0, locals := 45 }
def rmX5_readAll : Room := { frames := 3, cells := 0, slots := 0, locals := 67 }
theorem u_23 : Cond.initialized RX5 ∈ WA := z_in0 _ (List.mem_of_getElem? (i := 23) (by decide +kernel))
theorem u_480 : Cond.methodLink RX5 34 yX5_take ∈ WA := z_in0 _ (List.mem_of_getElem? (i := 480) (by decide +kernel))
theorem u_481 : Cond.instanceMethod yX5_take ∈ WA := z_in0 _ (List.mem_of_getElem? (i := 481) (by decide +kernel))
theorem u_482 : Cond.selects RX5 yX5_take yX5_take ∈ WA := z_in0 _ (List.mem_of_getElem? (i := 482) (by decide +kernel))
theorem u_483 : Cond.code yX5_take cX5_take 3 (some .int) ∈ WA := z_in0 _ (List.mem_of_getElem? (i := 483) (by decide +kernel))
theorem u_486 : Cond.methodLink RX5 38 yX5_takeKind ∈ WA := z_in0 _ (List.mem_of_getElem? (i := 486) (by decide +kernel))
theorem u_487 : Cond.instanceMethod yX5_takeKind ∈ WA := z_in0 _ (List.mem_of_getElem? (i := 487) (by decide +kernel))
theorem u_488 : Cond.selects RX5 yX5_takeKind yX5_takeKind ∈ WA := z_in0 _ (List.mem_of_getElem? (i := 488) (by decide +kernel))
theorem u_489 : Cond.code yX5_takeKind cX5_takeKind 2 (some .boolean) ∈ WA := z_in0 _ (List.mem_of_getElem? (i := 489) (by decide +kernel))
theorem u_493 : Cond.methodLink RX5 63 yX5_startNumber ∈ WA := z_in0 _ (List.mem_of_getElem? (i := 493) (by decide +kernel))
theorem u_494 : Cond.instanceMethod yX5_startNumber ∈ WA := z_in0 _ (List.mem_of_getElem? (i := 494) (by decide +kernel))
theorem u_495 : Cond.selects RX5 yX5_startNumber yX5_startNumber ∈ WA := z_in0 _ (List.mem_of_getElem? (i := 495) (by decide +kernel))
theorem u_496 : Cond.code yX5_startNumber cX5_startNumber 2 none ∈ WA := z_in0 _ (List.mem_of_getElem? (i := 496) (by decide +kernel))
theorem u_499 : Cond.methodLink RX5 45 yX5_takeCache ∈ WA := z_in0 _ (List.mem_of_getElem? (i := 499) (by decide +kernel))
theorem u_500 : Cond.instanceMethod yX5_takeCache ∈ WA := z_in0 _ (List.mem_of_getElem? (i := 500) (by decide +kernel))
theorem u_501 : Cond.selects RX5 yX5_takeCache yX5_takeCache ∈ WA := z_in0 _ (List.mem_of_getElem? (i := 501) (by decide +kernel))
theorem u_502 : Cond.code yX5_takeCache cX5_takeCache 2 (some .boolean) ∈ WA := z_in0 _ (List.mem_of_getElem? (i := 502) (by decide +kernel))
theorem u_503 : Cond.methodLink RX5 51 yX5_takeColon ∈ WA := z_in0 _ (List.mem_of_getElem? (i := 503) (by decide +kernel))
theorem u_504 : Cond.instanceMethod yX5_takeColon ∈ WA := z_in0 _ (List.mem_of_getElem? (i := 504) (by decide +kernel))
theorem u_505 : Cond.selects RX5 yX5_takeColon yX5_takeColon ∈ WA := z_in0 _ (List.mem_of_getElem? (i := 505) (by decide +kernel))
theorem u_506 : Cond.code yX5_takeColon cX5_takeColon 2 (some .boolean) ∈ WA := z_in0 _ (List.mem_of_getElem? (i := 506) (by decide +kernel))
theorem u_508 : Cond.methodLink RX5 54 yX5_takeOfNumber ∈ WA := z_in0 _ (List.mem_of_getElem? (i := 508) (by decide +kernel))
theorem u_509 : Cond.instanceMethod yX5_takeOfNumber ∈ WA := z_in0 _ (List.mem_of_getElem? (i := 509) (by decide +kernel))
theorem u_510 : Cond.selects RX5 yX5_takeOfNumber yX5_takeOfNumber ∈ WA := z_in0 _ (List.mem_of_getElem? (i := 510) (by decide +kernel))
theorem u_511 : Cond.code yX5_takeOfNumber cX5_takeOfNumber 4 (some .int) ∈ WA := z_in0 _ (List.mem_of_getElem? (i := 511) (by decide +kernel))
theorem u_517 : Cond.methodLink RX5 80 yX5_takeDigit ∈ WA := z_in0 _ (List.mem_of_getElem? (i := 517) (by decide +kernel))
theorem u_518 : Cond.instanceMethod yX5_takeDigit ∈ WA := z_in0 _ (List.mem_of_getElem? (i := 518) (by decide +kernel))
theorem u_519 : Cond.selects RX5 yX5_takeDigit yX5_takeDigit ∈ WA := z_in0 _ (List.mem_of_getElem? (i := 519) (by decide +kernel))
theorem u_520 : Cond.code yX5_takeDigit cX5_takeDigit 3 (some .int) ∈ WA := z_in0 _ (List.mem_of_getElem? (i := 520) (by decide +kernel))
theorem u_522 : Cond.methodLink RX5 98 yX5_keepOrder ∈ WA := z_in0 _ (List.mem_of_getElem? (i := 522) (by decide +kernel))
theorem u_523 : Cond.instanceMethod yX5_keepOrder ∈ WA := z_in0 _ (List.mem_of_getElem? (i := 523) (by decide +kernel))
theorem u_524 : Cond.selects RX5 yX5_keepOrder yX5_keepOrder ∈ WA := z_in0 _ (List.mem_of_getElem? (i := 524) (by decide +kernel))
theorem u_525 : Cond.code yX5_keepOrder cX5_keepOrder 1 none ∈ WA := z_in0 _ (List.mem_of_getElem? (i := 525) (by decide +kernel))
theorem cwX5_34 {R : Room} {s : State} {args : Array Value} (hts : ∀ w ∈ WA, w.before args s = true) (hR : rmX5_take.frames + 1 ≤ R.frames ∧ 8 + (3 + 11) + rmX5_take.locals ≤ R.locals) : CallW R s args RX5 RX5 34 yX5_take cX5_take 3 (some .int) (Cond.code yX5_take cX5_take 3 (some .int) :: WA) rmX5_take 0 0 2 := cwV 2 hts (z_goodV u_480 u_481 u_482 u_23 u_483) rfl rfl rfl (by decide +kernel) hR
theorem cwX5_38 {R : Room} {s : State} {args : Array Value} (hts : ∀ w ∈ WA, w.before args s = true) (hR : rmX5_takeKind.frames + 1 ≤ R.frames ∧ 8 + (2 + 11) + rmX5_takeKind.locals ≤ R.locals) : CallW R s args RX5 RX5 38 yX5_takeKind cX5_takeKind 2 (some .boolean) (Cond.code yX5_takeKind cX5_takeKind 2 (some .boolean) :: WA) rmX5_takeKind 0 0 1 := cwV 1 hts (z_goodV u_486 u_487 u_488 u_23 u_489) rfl rfl rfl (by decide +kernel) hR
theorem cwX5_45 {R : Room} {s : State} {args : Array Value} (hts : ∀ w ∈ WA, w.before args s = true) (hR : rmX5_takeCache.frames + 1 ≤ R.frames ∧ 8 + (2 + 11) + rmX5_takeCache.locals ≤ R.locals) : CallW R s args RX5 RX5 45 yX5_takeCache cX5_takeCache 2 (some .boolean) (Cond.code yX5_takeCache cX5_takeCache 2 (some .boolean) :: WA) rmX5_takeCache 0 0 1 := cwV 1 hts (z_goodV u_499 u_500 u_501 u_23 u_502) rfl rfl rfl (by decide +kernel) hR
theorem cwX5_51 {R : Room} {s : State} {args : Array Value} (hts : ∀ w ∈ WA, w.before args s = true) (hR : rmX5_takeColon.frames + 1 ≤ R.frames ∧ 8 + (2 + 11) + rmX5_takeColon.locals ≤ R.locals) : CallW R s args RX5 RX5 51 yX5_takeColon cX5_takeColon 2 (some .boolean) (Cond.code yX5_takeColon cX5_takeColon 2 (some .boolean) :: WA) rmX5_takeColon 0 0 1 := cwV 1 hts (z_goodV u_503 u_504 u_505 u_23 u_506) rfl rfl rfl (by decide +kernel) hR
theorem cwX5_54 {R : Room} {s : State} {args : Array Value} (hts : ∀ w ∈ WA, w.before args s = true) (hR : rmX5_takeOfNumber.frames + 1 ≤ R.frames ∧ 8 + (4 + 11) + rmX5_takeOfNumber.locals ≤ R.locals) : CallW R s args RX5 RX5 54 yX5_takeOfNumber cX5_takeOfNumber 4 (some .int) (Cond.code yX5_takeOfNumber cX5_takeOfNumber 4 (some .int) :: WA) rmX5_takeOfNumber 0 0 2 := cwV 2 hts (z_goodV u_508 u_509 u_510 u_23 u_511) rfl rfl rfl (by decide +kernel) hR
theorem cwX5_63 {R : Room} {s : State} {args : Array Value} (hts : ∀ w ∈ WA, w.before args s = true) (hR : rmX5_startNumber.frames + 1 ≤ R.frames ∧ 8 + (2 + 11) + rmX5_startNumber.locals ≤ R.locals) : CallW R s args RX5 RX5 63 yX5_startNumber cX5_startNumber 2 none (Cond.code yX5_startNumber cX5_startNumber 2 none :: WA) rmX5_startNumber 0 0 1 := cwV 1 hts (z_goodV u_493 u_494 u_495 u_23 u_496) rfl rfl rfl (by decide +kernel) hR
theorem cwX5_80 {R : Room} {s : State} {args : Array Value} (hts : ∀ w ∈ WA, w.before args s = true) (hR : rmX5_takeDigit.frames + 1 ≤ R.frames ∧ 8 + (3 + 11) + rmX5_takeDigit.locals ≤ R.locals) : CallW R s args RX5 RX5 80 yX5_takeDigit cX5_takeDigit 3 (some .int) (Cond.code yX5_takeDigit cX5_takeDigit 3 (some .int) :: WA) rmX5_takeDigit 0 0 2 := cwV 2 hts (z_goodV u_517 u_518 u_519 u_23 u_520) rfl rfl rfl (by decide +kernel) hR
theorem cwX5_98 {R : Room} {s : State} {args : Array Value} (hts : ∀ w ∈ WA, w.before args s = true) (hR : rmX5_keepOrder.frames + 1 ≤ R.frames ∧ 8 + (1 + 11) + rmX5_keepOrder.locals ≤ R.locals) : CallW R s args RX5 RX5 98 yX5_keepOrder cX5_keepOrder 1 none (Cond.code yX5_keepOrder cX5_keepOrder 1 none :: WA) rmX5_keepOrder 0 0 0 := cwV 0 hts (z_goodV u_522 u_523 u_524 u_23 u_525) rfl rfl rfl (by decide +kernel) hR
