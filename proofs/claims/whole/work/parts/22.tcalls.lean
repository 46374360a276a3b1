/-! a machine: rooms, constants, call words (by wip/tools/gworld.py) -/
def rmX0_takeOver : Room := { frames := 1, cells := 0, slots := 0, locals := 40 }
def rmX1_takeOver : Room := { frames := 1, cells := 0, slots := 0, locals := 40 }
def rmX3_takeOver : Room := { frames := 1, cells := 0, slots := 0, locals := 40 }
def rmX7_takeOver : Room := { frames := 1, cells := 0, slots := 0, locals := 40 }
def rmX4_takeOver : Room := { frames := 2, cells := 0, slots := 0, locals := 61 }
theorem u_166 : Cond.methodLink RX4 90 arraycopyName ∈ WA := z_in0 _ (List.mem_of_getElem? (i := 166) (by decide +kernel))
theorem u_170 : Cond.methodLink RX4 96 yX0_takeOver ∈ WA := z_in0 _ (List.mem_of_getElem? (i := 170) (by decide +kernel))
theorem u_171 : Cond.instanceMethod yX0_takeOver ∈ WA := z_in0 _ (List.mem_of_getElem? (i := 171) (by decide +kernel))
theorem u_172 : Cond.selects RX0 yX0_takeOver yX0_takeOver ∈ WA := z_in0 _ (List.mem_of_getElem? (i := 172) (by decide +kernel))
theorem u_173 : Cond.code yX0_takeOver cX0_takeOver 2 none ∈ WA := z_in0 _ (List.mem_of_getElem? (i := 173) (by decide +kernel))
theorem u_174 : Cond.methodLink RX0 34 arraycopyName ∈ WA := z_in0 _ (List.mem_of_getElem? (i := 174) (by decide +kernel))
theorem u_175 : Cond.methodLink RX4 100 yX1_takeOver ∈ WA := z_in0 _ (List.mem_of_getElem? (i := 175) (by decide +kernel))
theorem u_176 : Cond.instanceMethod yX1_takeOver ∈ WA := z_in0 _ (List.mem_of_getElem? (i := 176) (by decide +kernel))
theorem u_177 : Cond.selects RX1 yX1_takeOver yX1_takeOver ∈ WA := z_in0 _ (List.mem_of_getElem? (i := 177) (by decide +kernel))
theorem u_178 : Cond.code yX1_takeOver cX1_takeOver 2 none ∈ WA := z_in0 _ (List.mem_of_getElem? (i := 178) (by decide +kernel))
theorem u_179 : Cond.methodLink RX1 40 arraycopyName ∈ WA := z_in0 _ (List.mem_of_getElem? (i := 179) (by decide +kernel))
theorem u_180 : Cond.methodLink RX4 103 yX7_takeOver ∈ WA := z_in0 _ (List.mem_of_getElem? (i := 180) (by decide +kernel))
theorem u_181 : Cond.instanceMethod yX7_takeOver ∈ WA := z_in0 _ (List.mem_of_getElem? (i := 181) (by decide +kernel))
theorem u_182 : Cond.selects RX7 yX7_takeOver yX7_takeOver ∈ WA := z_in0 _ (List.mem_of_getElem? (i := 182) (by decide +kernel))
theorem u_183 : Cond.code yX7_takeOver cX7_takeOver 2 none ∈ WA := z_in0 _ (List.mem_of_getElem? (i := 183) (by decide +kernel))
theorem u_184 : Cond.methodLink RX7 27 arraycopyName ∈ WA := z_in0 _ (List.mem_of_getElem? (i := 184) (by decide +kernel))
theorem u_185 : Cond.methodLink RX4 106 yX3_takeOver ∈ WA := z_in0 _ (List.mem_of_getElem? (i := 185) (by decide +kernel))
theorem u_186 : Cond.instanceMethod yX3_takeOver ∈ WA := z_in0 _ (List.mem_of_getElem? (i := 186) (by decide +kernel))
theorem u_187 : Cond.selects RX3 yX3_takeOver yX3_takeOver ∈ WA := z_in0 _ (List.mem_of_getElem? (i := 187) (by decide +kernel))
theorem u_188 : Cond.code yX3_takeOver cX3_takeOver 2 none ∈ WA := z_in0 _ (List.mem_of_getElem? (i := 188) (by decide +kernel))
theorem u_189 : Cond.methodLink RX3 15 arraycopyName ∈ WA := z_in0 _ (List.mem_of_getElem? (i := 189) (by decide +kernel))
theorem cwX4_96 {R : Room} {s : State} {args : Array Value} (hts : ∀ w ∈ WA, w.before args s = true) (hR : rmX0_takeOver.frames + 1 ≤ R.frames ∧ 8 + (2 + 11) + rmX0_takeOver.locals ≤ R.locals) : CallW R s args RX4 RX0 96 yX0_takeOver cX0_takeOver 2 none (Cond.code yX0_takeOver cX0_takeOver 2 none :: WA) rmX0_takeOver 0 0 1 := cwV 1 hts (z_goodV u_170 u_171 u_172 u_37 u_173) rfl rfl rfl (by decide +kernel) hR
theorem cwX4_100 {R : Room} {s : State} {args : Array Value} (hts : ∀ w ∈ WA, w.before args s = true) (hR : rmX1_takeOver.frames + 1 ≤ R.frames ∧ 8 + (2 + 11) + rmX1_takeOver.locals ≤ R.locals) : CallW R s args RX4 RX1 100 yX1_takeOver cX1_takeOver 2 none (Cond.code yX1_takeOver cX1_takeOver 2 none :: WA) rmX1_takeOver 0 0 1 := cwV 1 hts (z_goodV u_175 u_176 u_177 u_41 u_178) rfl rfl rfl (by decide +kernel) hR
theorem cwX4_103 {R : Room} {s : State} {args : Array Value} (hts : ∀ w ∈ WA, w.before args s = true) (hR : rmX7_takeOver.frames + 1 ≤ R.frames ∧ 8 + (2 + 11) + rmX7_takeOver.locals ≤ R.locals) : CallW R s args RX4 RX7 103 yX7_takeOver cX7_takeOver 2 none (Cond.code yX7_takeOver cX7_takeOver 2 none :: WA) rmX7_takeOver 0 0 1 := cwV 1 hts (z_goodV u_180 u_181 u_182 u_45 u_183) rfl rfl rfl (by decide +kernel) hR
theorem cwX4_106 {R : Room} {s : State} {args : Array Value} (hts : ∀ w ∈ WA, w.before args s = true) (hR : rmX3_takeOver.frames + 1 ≤ R.frames ∧ 8 + (2 + 11) + rmX3_takeOver.locals ≤ R.locals) : CallW R s args RX4 RX3 106 yX3_takeOver cX3_takeOver 2 none (Cond.code yX3_takeOver cX3_takeOver 2 none :: WA) rmX3_takeOver 0 0 1 := cwV 1 hts (z_goodV u_185 u_186 u_187 u_49 u_188) rfl rfl rfl (by decide +kernel) hR
