/-! a machine: rooms, constants, call words (by wip/tools/gworld.py) -/
def rmX0_takeOver : Room := { frames := 1, cells := 0, slots := 0, locals := 40 }
def rmX1_takeOver : Room := { frames := 1, cells := 0, slots := 0, locals := 40 }
def rmX3_takeOver : Room := { frames := 1, cells := 0, slots := 0, locals := 40 }
def rmX7_takeOver : Room := { frames := 1, cells := 0, slots := 0, locals := 40 }
def rmX4_takeOver : Room := { frames := 2, cells := 0, slots := 0, locals := 61 }
theorem u_246 : Cond.methodLink RX4 90 arraycopyName ∈ WA := z_in0 _ (List.mem_of_getElem? (i := 246) (by decide +kernel))
theorem u_250 : Cond.methodLink RX4 96 yX0_takeOver ∈ WA := z_in0 _ (List.mem_of_getElem? (i := 250) (by decide +kernel))
theorem u_251 : Cond.instanceMethod yX0_takeOver ∈ WA := z_in0 _ (List.mem_of_getElem? (i := 251) (by decide +kernel))
theorem u_252 : Cond.selects RX0 yX0_takeOver yX0_takeOver ∈ WA := z_in0 _ (List.mem_of_getElem? (i := 252) (by decide +kernel))
theorem u_253 : Cond.code yX0_takeOver cX0_takeOver 2 none ∈ WA := z_in0 _ (List.mem_of_getElem? (i := 253) (by decide +kernel))
theorem u_254 : Cond.methodLink RX0 34 arraycopyName ∈ WA := z_in0 _ (List.mem_of_getElem? (i := 254) (by decide +kernel))
theorem u_255 : Cond.methodLink RX4 100 yX1_takeOver ∈ WA := z_in0 _ (List.mem_of_getElem? (i := 255) (by decide +kernel))
theorem u_256 : Cond.instanceMethod yX1_takeOver ∈ WA := z_in0 _ (List.mem_of_getElem? (i := 256) (by decide +kernel))
theorem u_257 : Cond.selects RX1 yX1_takeOver yX1_takeOver ∈ WA := z_in0 _ (List.mem_of_getElem? (i := 257) (by decide +kernel))
theorem u_258 : Cond.code yX1_takeOver cX1_takeOver 2 none ∈ WA := z_in0 _ (List.mem_of_getElem? (i := 258) (by decide +kernel))
theorem u_259 : Cond.methodLink RX1 40 arraycopyName ∈ WA := z_in0 _ (List.mem_of_getElem? (i := 259) (by decide +kernel))
theorem u_260 : Cond.methodLink RX4 103 yX7_takeOver ∈ WA := z_in0 _ (List.mem_of_getElem? (i := 260) (by decide +kernel))
theorem u_261 : Cond.instanceMethod yX7_takeOver ∈ WA := z_in0 _ (List.mem_of_getElem? (i := 261) (by decide +kernel))
theorem u_262 : Cond.selects RX7 yX7_takeOver yX7_takeOver ∈ WA := z_in0 _ (List.mem_of_getElem? (i := 262) (by decide +kernel))
theorem u_263 : Cond.code yX7_takeOver cX7_takeOver 2 none ∈ WA := z_in0 _ (List.mem_of_getElem? (i := 263) (by decide +kernel))
theorem u_264 : Cond.methodLink RX7 27 arraycopyName ∈ WA := z_in0 _ (List.mem_of_getElem? (i := 264) (by decide +kernel))
theorem u_265 : Cond.methodLink RX4 106 yX3_takeOver ∈ WA := z_in0 _ (List.mem_of_getElem? (i := 265) (by decide +kernel))
theorem u_266 : Cond.instanceMethod yX3_takeOver ∈ WA := z_in0 _ (List.mem_of_getElem? (i := 266) (by decide +kernel))
theorem u_267 : Cond.selects RX3 yX3_takeOver yX3_takeOver ∈ WA := z_in0 _ (List.mem_of_getElem? (i := 267) (by decide +kernel))
theorem u_268 : Cond.code yX3_takeOver cX3_takeOver 2 none ∈ WA := z_in0 _ (List.mem_of_getElem? (i := 268) (by decide +kernel))
theorem u_269 : Cond.methodLink RX3 15 arraycopyName ∈ WA := z_in0 _ (List.mem_of_getElem? (i := 269) (by decide +kernel))
theorem cwX4_96 {R : Room} {s : State} {args : Array Value} (hts : ∀ w ∈ WA, w.before args s = true) (hR : rmX0_takeOver.frames + 1 ≤ R.frames ∧ 8 + (2 + 11) + rmX0_takeOver.locals ≤ R.locals) : CallW R s args RX4 RX0 96 yX0_takeOver cX0_takeOver 2 none (Cond.code yX0_takeOver cX0_takeOver 2 none :: WA) rmX0_takeOver 0 0 1 := cwV 1 hts (z_goodV u_250 u_251 u_252 u_33 u_253) rfl rfl rfl (by decide +kernel) hR
theorem cwX4_100 {R : Room} {s : State} {args : Array Value} (hts : ∀ w ∈ WA, w.before args s = true) (hR : rmX1_takeOver.frames + 1 ≤ R.frames ∧ 8 + (2 + 11) + rmX1_takeOver.locals ≤ R.locals) : CallW R s args RX4 RX1 100 yX1_takeOver cX1_takeOver 2 none (Cond.code yX1_takeOver cX1_takeOver 2 none :: WA) rmX1_takeOver 0 0 1 := cwV 1 hts (z_goodV u_255 u_256 u_257 u_37 u_258) rfl rfl rfl (by decide +kernel) hR
theorem cwX4_103 {R : Room} {s : State} {args : Array Value} (hts : ∀ w ∈ WA, w.before args s = true) (hR : rmX7_takeOver.frames + 1 ≤ R.frames ∧ 8 + (2 + 11) + rmX7_takeOver.locals ≤ R.locals) : CallW R s args RX4 RX7 103 yX7_takeOver cX7_takeOver 2 none (Cond.code yX7_takeOver cX7_takeOver 2 none :: WA) rmX7_takeOver 0 0 1 := cwV 1 hts (z_goodV u_260 u_261 u_262 u_41 u_263) rfl rfl rfl (by decide +kernel) hR
theorem cwX4_106 {R : Room} {s : State} {args : Array Value} (hts : ∀ w ∈ WA, w.before args s = true) (hR : rmX3_takeOver.frames + 1 ≤ R.frames ∧ 8 + (2 + 11) + rmX3_takeOver.locals ≤ R.locals) : CallW R s args RX4 RX3 106 yX3_takeOver cX3_takeOver 2 none (Cond.code yX3_takeOver cX3_takeOver 2 none :: WA) rmX3_takeOver 0 0 1 := cwV 1 hts (z_goodV u_265 u_266 u_267 u_45 u_268) rfl rfl rfl (by decide +kernel) hR
