/-! a machine: rooms, constants, call words (by wip/tools/gworld.py) -/
theorem k_bipush_34 : (Int8.ofInt 34).toInt32 = nI 34 := by decide
def rmX5_isTicks : Room := { frames := 0, cells := 0, slots := 0, locals := 0 }
def rmX5_keepOrder : Room := { frames := 0, cells := 0, slots := 0, locals := 0 }
def rmX5_startNumber : Room := { frames := 0, cells := 0, slots := 0, locals := 0 }
def rmX5_takeKind : Room := { frames := 1, cells := 0, slots := 0, locals := 21 }
def rmX5_takeCache : Room := { frames := 0, cells := 0, slots := 0, locals := 0 }
def rmX5_takeColon : Room := { frames := 1, cells := 0, slots := 0, locals := 21 }
def rmX5_takeDigit : Room := { frames := 0, cells := 0, slots := 0, locals := 0 }
def rmX5_takeOfNumber : Room := { frames := 1, cells := 0, slots := 0, locals := 22 }
def rmX5_take : Room := { frames := 2, cells := 0, slots := 0, locals := 45 }
def rmX5_readAll : Room := { frames := 3, cells := 0, slots := 0, locals := 67 }
theorem u_27 : Cond.initialized RX5 ∈ WA := z_in0 _ (List.mem_of_getElem? (i := 27) (by decide +kernel))
theorem u_762 : Cond.methodLink RX5 34 yX5_take ∈ WA := z_in0 _ (List.mem_of_getElem? (i := 762) (by decide +kernel))
theorem u_763 : Cond.instanceMethod yX5_take ∈ WA := z_in0 _ (List.mem_of_getElem? (i := 763) (by decide +kernel))
theorem u_764 : Cond.selects RX5 yX5_take yX5_take ∈ WA := z_in0 _ (List.mem_of_getElem? (i := 764) (by decide +kernel))
theorem u_765 : Cond.code yX5_take cX5_take 3 (some .int) ∈ WA := z_in0 _ (List.mem_of_getElem? (i := 765) (by decide +kernel))
theorem u_768 : Cond.methodLink RX5 38 yX5_takeKind ∈ WA := z_in0 _ (List.mem_of_getElem? (i := 768) (by decide +kernel))
theorem u_769 : Cond.instanceMethod yX5_takeKind ∈ WA := z_in0 _ (List.mem_of_getElem? (i := 769) (by decide +kernel))
theorem u_770 : Cond.selects RX5 yX5_takeKind yX5_takeKind ∈ WA := z_in0 _ (List.mem_of_getElem? (i := 770) (by decide +kernel))
theorem u_771 : Cond.code yX5_takeKind cX5_takeKind 2 (some .boolean) ∈ WA := z_in0 _ (List.mem_of_getElem? (i := 771) (by decide +kernel))
theorem u_775 : Cond.methodLink RX5 63 yX5_startNumber ∈ WA := z_in0 _ (List.mem_of_getElem? (i := 775) (by decide +kernel))
theorem u_776 : Cond.instanceMethod yX5_startNumber ∈ WA := z_in0 _ (List.mem_of_getElem? (i := 776) (by decide +kernel))
theorem u_777 : Cond.selects RX5 yX5_startNumber yX5_startNumber ∈ WA := z_in0 _ (List.mem_of_getElem? (i := 777) (by decide +kernel))
theorem u_778 : Cond.code yX5_startNumber cX5_startNumber 2 none ∈ WA := z_in0 _ (List.mem_of_getElem? (i := 778) (by decide +kernel))
theorem u_781 : Cond.methodLink RX5 45 yX5_takeCache ∈ WA := z_in0 _ (List.mem_of_getElem? (i := 781) (by decide +kernel))
theorem u_782 : Cond.instanceMethod yX5_takeCache ∈ WA := z_in0 _ (List.mem_of_getElem? (i := 782) (by decide +kernel))
theorem u_783 : Cond.selects RX5 yX5_takeCache yX5_takeCache ∈ WA := z_in0 _ (List.mem_of_getElem? (i := 783) (by decide +kernel))
theorem u_784 : Cond.code yX5_takeCache cX5_takeCache 2 (some .boolean) ∈ WA := z_in0 _ (List.mem_of_getElem? (i := 784) (by decide +kernel))
theorem u_785 : Cond.methodLink RX5 51 yX5_takeColon ∈ WA := z_in0 _ (List.mem_of_getElem? (i := 785) (by decide +kernel))
theorem u_786 : Cond.instanceMethod yX5_takeColon ∈ WA := z_in0 _ (List.mem_of_getElem? (i := 786) (by decide +kernel))
theorem u_787 : Cond.selects RX5 yX5_takeColon yX5_takeColon ∈ WA := z_in0 _ (List.mem_of_getElem? (i := 787) (by decide +kernel))
theorem u_788 : Cond.code yX5_takeColon cX5_takeColon 2 (some .boolean) ∈ WA := z_in0 _ (List.mem_of_getElem? (i := 788) (by decide +kernel))
theorem u_790 : Cond.methodLink RX5 54 yX5_takeOfNumber ∈ WA := z_in0 _ (List.mem_of_getElem? (i := 790) (by decide +kernel))
theorem u_791 : Cond.instanceMethod yX5_takeOfNumber ∈ WA := z_in0 _ (List.mem_of_getElem? (i := 791) (by decide +kernel))
theorem u_792 : Cond.selects RX5 yX5_takeOfNumber yX5_takeOfNumber ∈ WA := z_in0 _ (List.mem_of_getElem? (i := 792) (by decide +kernel))
theorem u_793 : Cond.code yX5_takeOfNumber cX5_takeOfNumber 4 (some .int) ∈ WA := z_in0 _ (List.mem_of_getElem? (i := 793) (by decide +kernel))
theorem u_799 : Cond.methodLink RX5 80 yX5_takeDigit ∈ WA := z_in0 _ (List.mem_of_getElem? (i := 799) (by decide +kernel))
theorem u_800 : Cond.instanceMethod yX5_takeDigit ∈ WA := z_in0 _ (List.mem_of_getElem? (i := 800) (by decide +kernel))
theorem u_801 : Cond.selects RX5 yX5_takeDigit yX5_takeDigit ∈ WA := z_in0 _ (List.mem_of_getElem? (i := 801) (by decide +kernel))
theorem u_802 : Cond.code yX5_takeDigit cX5_takeDigit 3 (some .int) ∈ WA := z_in0 _ (List.mem_of_getElem? (i := 802) (by decide +kernel))
theorem u_804 : Cond.methodLink RX5 98 yX5_keepOrder ∈ WA := z_in0 _ (List.mem_of_getElem? (i := 804) (by decide +kernel))
theorem u_805 : Cond.instanceMethod yX5_keepOrder ∈ WA := z_in0 _ (List.mem_of_getElem? (i := 805) (by decide +kernel))
theorem u_806 : Cond.selects RX5 yX5_keepOrder yX5_keepOrder ∈ WA := z_in0 _ (List.mem_of_getElem? (i := 806) (by decide +kernel))
theorem u_807 : Cond.code yX5_keepOrder cX5_keepOrder 1 none ∈ WA := z_in0 _ (List.mem_of_getElem? (i := 807) (by decide +kernel))
theorem cwX5_34 {R : Room} {s : State} {args : Array Value} (hts : ∀ w ∈ WA, w.before args s = true) (hR : rmX5_take.frames + 1 ≤ R.frames ∧ 8 + (3 + 11) + rmX5_take.locals ≤ R.locals) : CallW R s args RX5 RX5 34 yX5_take cX5_take 3 (some .int) (Cond.code yX5_take cX5_take 3 (some .int) :: WA) rmX5_take 0 0 2 := cwV 2 hts (z_goodV u_762 u_763 u_764 u_27 u_765) rfl rfl rfl (by decide +kernel) hR
theorem cwX5_38 {R : Room} {s : State} {args : Array Value} (hts : ∀ w ∈ WA, w.before args s = true) (hR : rmX5_takeKind.frames + 1 ≤ R.frames ∧ 8 + (2 + 11) + rmX5_takeKind.locals ≤ R.locals) : CallW R s args RX5 RX5 38 yX5_takeKind cX5_takeKind 2 (some .boolean) (Cond.code yX5_takeKind cX5_takeKind 2 (some .boolean) :: WA) rmX5_takeKind 0 0 1 := cwV 1 hts (z_goodV u_768 u_769 u_770 u_27 u_771) rfl rfl rfl (by decide +kernel) hR
theorem cwX5_45 {R : Room} {s : State} {args : Array Value} (hts : ∀ w ∈ WA, w.before args s = true) (hR : rmX5_takeCache.frames + 1 ≤ R.frames ∧ 8 + (2 + 11) + rmX5_takeCache.locals ≤ R.locals) : CallW R s args RX5 RX5 45 yX5_takeCache cX5_takeCache 2 (some .boolean) (Cond.code yX5_takeCache cX5_takeCache 2 (some .boolean) :: WA) rmX5_takeCache 0 0 1 := cwV 1 hts (z_goodV u_781 u_782 u_783 u_27 u_784) rfl rfl rfl (by decide +kernel) hR
theorem cwX5_51 {R : Room} {s : State} {args : Array Value} (hts : ∀ w ∈ WA, w.before args s = true) (hR : rmX5_takeColon.frames + 1 ≤ R.frames ∧ 8 + (2 + 11) + rmX5_takeColon.locals ≤ R.locals) : CallW R s args RX5 RX5 51 yX5_takeColon cX5_takeColon 2 (some .boolean) (Cond.code yX5_takeColon cX5_takeColon 2 (some .boolean) :: WA) rmX5_takeColon 0 0 1 := cwV 1 hts (z_goodV u_785 u_786 u_787 u_27 u_788) rfl rfl rfl (by decide +kernel) hR
theorem cwX5_54 {R : Room} {s : State} {args : Array Value} (hts : ∀ w ∈ WA, w.before args s = true) (hR : rmX5_takeOfNumber.frames + 1 ≤ R.frames ∧ 8 + (4 + 11) + rmX5_takeOfNumber.locals ≤ R.locals) : CallW R s args RX5 RX5 54 yX5_takeOfNumber cX5_takeOfNumber 4 (some .int) (Cond.code yX5_takeOfNumber cX5_takeOfNumber 4 (some .int) :: WA) rmX5_takeOfNumber 0 0 2 := cwV 2 hts (z_goodV u_790 u_791 u_792 u_27 u_793) rfl rfl rfl (by decide +kernel) hR
theorem cwX5_63 {R : Room} {s : State} {args : Array Value} (hts : ∀ w ∈ WA, w.before args s = true) (hR : rmX5_startNumber.frames + 1 ≤ R.frames ∧ 8 + (2 + 11) + rmX5_startNumber.locals ≤ R.locals) : CallW R s args RX5 RX5 63 yX5_startNumber cX5_startNumber 2 none (Cond.code yX5_startNumber cX5_startNumber 2 none :: WA) rmX5_startNumber 0 0 1 := cwV 1 hts (z_goodV u_775 u_776 u_777 u_27 u_778) rfl rfl rfl (by decide +kernel) hR
theorem cwX5_80 {R : Room} {s : State} {args : Array Value} (hts : ∀ w ∈ WA, w.before args s = true) (hR : rmX5_takeDigit.frames + 1 ≤ R.frames ∧ 8 + (3 + 11) + rmX5_takeDigit.locals ≤ R.locals) : CallW R s args RX5 RX5 80 yX5_takeDigit cX5_takeDigit 3 (some .int) (Cond.code yX5_takeDigit cX5_takeDigit 3 (some .int) :: WA) rmX5_takeDigit 0 0 2 := cwV 2 hts (z_goodV u_799 u_800 u_801 u_27 u_802) rfl rfl rfl (by decide +kernel) hR
theorem cwX5_98 {R : Room} {s : State} {args : Array Value} (hts : ∀ w ∈ WA, w.before args s = true) (hR : rmX5_keepOrder.frames + 1 ≤ R.frames ∧ 8 + (1 + 11) + rmX5_keepOrder.locals ≤ R.locals) : CallW R s args RX5 RX5 98 yX5_keepOrder cX5_keepOrder 1 none (Cond.code yX5_keepOrder cX5_keepOrder 1 none :: WA) rmX5_keepOrder 0 0 0 := cwV 0 hts (z_goodV u_804 u_805 u_806 u_27 u_807) rfl rfl rfl (by decide +kernel) hR
