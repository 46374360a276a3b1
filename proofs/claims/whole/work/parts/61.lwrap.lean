/-! the wrappers of the law (by wip/tools/law.py) -/
theorem ul_143 : Cond.methodLink RL 7 yX8_begin ∈ WA := z_in0 _ (List.mem_of_getElem? (i := 143) (by decide +kernel))
theorem ul_144 : Cond.instanceMethod yX8_begin ∈ WA := z_in0 _ (List.mem_of_getElem? (i := 144) (by decide +kernel))
theorem ul_145 : Cond.selects RX8 yX8_begin yX8_begin ∈ WA := z_in0 _ (List.mem_of_getElem? (i := 145) (by decide +kernel))
theorem ul_2 : Cond.initialized RX8 ∈ WA := z_in0 _ (List.mem_of_getElem? (i := 2) (by decide +kernel))
theorem ul_146 : Cond.code yX8_begin cX8_begin 5 (some .int) ∈ WA := z_in0 _ (List.mem_of_getElem? (i := 146) (by decide +kernel))
theorem ul_142 : Cond.classLink RL 13 "java/lang/IllegalArgumentException" ∈ WA := z_in0 _ (List.mem_of_getElem? (i := 142) (by decide +kernel))
theorem ul_217 : Cond.methodLink RL 15 yX8_read ∈ WA := z_in0 _ (List.mem_of_getElem? (i := 217) (by decide +kernel))
theorem ul_218 : Cond.instanceMethod yX8_read ∈ WA := z_in0 _ (List.mem_of_getElem? (i := 218) (by decide +kernel))
theorem ul_219 : Cond.selects RX8 yX8_read yX8_read ∈ WA := z_in0 _ (List.mem_of_getElem? (i := 219) (by decide +kernel))
theorem ul_220 : Cond.code yX8_read cX8_read 3 (some .int) ∈ WA := z_in0 _ (List.mem_of_getElem? (i := 220) (by decide +kernel))
theorem ul_215 : Cond.classLink RL 19 "java/lang/IndexOutOfBoundsException" ∈ WA := z_in0 _ (List.mem_of_getElem? (i := 215) (by decide +kernel))
theorem ul_216 : Cond.classLink RL 21 "java/lang/IllegalStateException" ∈ WA := z_in0 _ (List.mem_of_getElem? (i := 216) (by decide +kernel))
theorem ul_282 : Cond.methodLink RL 23 yX8_write ∈ WA := z_in0 _ (List.mem_of_getElem? (i := 282) (by decide +kernel))
theorem ul_283 : Cond.instanceMethod yX8_write ∈ WA := z_in0 _ (List.mem_of_getElem? (i := 283) (by decide +kernel))
theorem ul_284 : Cond.selects RX8 yX8_write yX8_write ∈ WA := z_in0 _ (List.mem_of_getElem? (i := 284) (by decide +kernel))
theorem ul_285 : Cond.code yX8_write cX8_write 4 (some .int) ∈ WA := z_in0 _ (List.mem_of_getElem? (i := 285) (by decide +kernel))
theorem ul_293 : Cond.methodLink RL 26 yX8_takeBack ∈ WA := z_in0 _ (List.mem_of_getElem? (i := 293) (by decide +kernel))
theorem ul_294 : Cond.instanceMethod yX8_takeBack ∈ WA := z_in0 _ (List.mem_of_getElem? (i := 294) (by decide +kernel))
theorem ul_295 : Cond.selects RX8 yX8_takeBack yX8_takeBack ∈ WA := z_in0 _ (List.mem_of_getElem? (i := 295) (by decide +kernel))
theorem ul_296 : Cond.code yX8_takeBack cX8_takeBack 3 (some .int) ∈ WA := z_in0 _ (List.mem_of_getElem? (i := 296) (by decide +kernel))
theorem ul_309 : Cond.methodLink RL 30 yX8_pass ∈ WA := z_in0 _ (List.mem_of_getElem? (i := 309) (by decide +kernel))
theorem ul_310 : Cond.instanceMethod yX8_pass ∈ WA := z_in0 _ (List.mem_of_getElem? (i := 310) (by decide +kernel))
theorem ul_311 : Cond.selects RX8 yX8_pass yX8_pass ∈ WA := z_in0 _ (List.mem_of_getElem? (i := 311) (by decide +kernel))
theorem ul_312 : Cond.code yX8_pass cX8_pass 2 (some .int) ∈ WA := z_in0 _ (List.mem_of_getElem? (i := 312) (by decide +kernel))
theorem ul_517 : Cond.methodLink RL 33 yX8_drop ∈ WA := z_in0 _ (List.mem_of_getElem? (i := 517) (by decide +kernel))
theorem ul_518 : Cond.instanceMethod yX8_drop ∈ WA := z_in0 _ (List.mem_of_getElem? (i := 518) (by decide +kernel))
theorem ul_519 : Cond.selects RX8 yX8_drop yX8_drop ∈ WA := z_in0 _ (List.mem_of_getElem? (i := 519) (by decide +kernel))
theorem ul_520 : Cond.code yX8_drop cX8_drop 4 (some .int) ∈ WA := z_in0 _ (List.mem_of_getElem? (i := 520) (by decide +kernel))
theorem ul_532 : Cond.methodLink RL 36 yX8_tear ∈ WA := z_in0 _ (List.mem_of_getElem? (i := 532) (by decide +kernel))
theorem ul_533 : Cond.instanceMethod yX8_tear ∈ WA := z_in0 _ (List.mem_of_getElem? (i := 533) (by decide +kernel))
theorem ul_534 : Cond.selects RX8 yX8_tear yX8_tear ∈ WA := z_in0 _ (List.mem_of_getElem? (i := 534) (by decide +kernel))
theorem ul_535 : Cond.code yX8_tear cX8_tear 3 (some .int) ∈ WA := z_in0 _ (List.mem_of_getElem? (i := 535) (by decide +kernel))
theorem ul_550 : Cond.methodLink RL 39 yX8_copy ∈ WA := z_in0 _ (List.mem_of_getElem? (i := 550) (by decide +kernel))
theorem ul_551 : Cond.instanceMethod yX8_copy ∈ WA := z_in0 _ (List.mem_of_getElem? (i := 551) (by decide +kernel))
theorem ul_552 : Cond.selects RX8 yX8_copy yX8_copy ∈ WA := z_in0 _ (List.mem_of_getElem? (i := 552) (by decide +kernel))
theorem ul_553 : Cond.code yX8_copy cX8_copy 4 (some .int) ∈ WA := z_in0 _ (List.mem_of_getElem? (i := 553) (by decide +kernel))
theorem ul_573 : Cond.methodLink RL 42 yX8_line ∈ WA := z_in0 _ (List.mem_of_getElem? (i := 573) (by decide +kernel))
theorem ul_574 : Cond.instanceMethod yX8_line ∈ WA := z_in0 _ (List.mem_of_getElem? (i := 574) (by decide +kernel))
theorem ul_575 : Cond.selects RX8 yX8_line yX8_line ∈ WA := z_in0 _ (List.mem_of_getElem? (i := 575) (by decide +kernel))
theorem ul_576 : Cond.code yX8_line cX8_line 3 (some .int) ∈ WA := z_in0 _ (List.mem_of_getElem? (i := 576) (by decide +kernel))
theorem ul_592 : Cond.methodLink RL 45 yX8_pending ∈ WA := z_in0 _ (List.mem_of_getElem? (i := 592) (by decide +kernel))
theorem ul_593 : Cond.instanceMethod yX8_pending ∈ WA := z_in0 _ (List.mem_of_getElem? (i := 593) (by decide +kernel))
theorem ul_594 : Cond.selects RX8 yX8_pending yX8_pending ∈ WA := z_in0 _ (List.mem_of_getElem? (i := 594) (by decide +kernel))
theorem ul_595 : Cond.code yX8_pending cX8_pending 3 (some .int) ∈ WA := z_in0 _ (List.mem_of_getElem? (i := 595) (by decide +kernel))
theorem ul_611 : Cond.methodLink RL 48 yX8_entry ∈ WA := z_in0 _ (List.mem_of_getElem? (i := 611) (by decide +kernel))
theorem ul_612 : Cond.instanceMethod yX8_entry ∈ WA := z_in0 _ (List.mem_of_getElem? (i := 612) (by decide +kernel))
theorem ul_613 : Cond.selects RX8 yX8_entry yX8_entry ∈ WA := z_in0 _ (List.mem_of_getElem? (i := 613) (by decide +kernel))
theorem ul_614 : Cond.code yX8_entry cX8_entry 3 (some .int) ∈ WA := z_in0 _ (List.mem_of_getElem? (i := 614) (by decide +kernel))
theorem ul_628 : Cond.methodLink RL 51 yX8_value ∈ WA := z_in0 _ (List.mem_of_getElem? (i := 628) (by decide +kernel))
theorem ul_629 : Cond.instanceMethod yX8_value ∈ WA := z_in0 _ (List.mem_of_getElem? (i := 629) (by decide +kernel))
theorem ul_630 : Cond.selects RX8 yX8_value yX8_value ∈ WA := z_in0 _ (List.mem_of_getElem? (i := 630) (by decide +kernel))
theorem ul_631 : Cond.code yX8_value cX8_value 2 (some .int) ∈ WA := z_in0 _ (List.mem_of_getElem? (i := 631) (by decide +kernel))
theorem ul_655 : Cond.methodLink RL 54 yX8_cost ∈ WA := z_in0 _ (List.mem_of_getElem? (i := 655) (by decide +kernel))
theorem ul_656 : Cond.instanceMethod yX8_cost ∈ WA := z_in0 _ (List.mem_of_getElem? (i := 656) (by decide +kernel))
theorem ul_657 : Cond.selects RX8 yX8_cost yX8_cost ∈ WA := z_in0 _ (List.mem_of_getElem? (i := 657) (by decide +kernel))
theorem ul_658 : Cond.code yX8_cost cX8_cost 4 (some .int) ∈ WA := z_in0 _ (List.mem_of_getElem? (i := 658) (by decide +kernel))
theorem ul_688 : Cond.methodLink RL 58 yX8_nextDropped ∈ WA := z_in0 _ (List.mem_of_getElem? (i := 688) (by decide +kernel))
theorem ul_689 : Cond.instanceMethod yX8_nextDropped ∈ WA := z_in0 _ (List.mem_of_getElem? (i := 689) (by decide +kernel))
theorem ul_690 : Cond.selects RX8 yX8_nextDropped yX8_nextDropped ∈ WA := z_in0 _ (List.mem_of_getElem? (i := 690) (by decide +kernel))
theorem ul_691 : Cond.code yX8_nextDropped cX8_nextDropped 2 (some .int) ∈ WA := z_in0 _ (List.mem_of_getElem? (i := 691) (by decide +kernel))
theorem ul_711 : Cond.methodLink RL 61 yX8_cheapest ∈ WA := z_in0 _ (List.mem_of_getElem? (i := 711) (by decide +kernel))
theorem ul_712 : Cond.instanceMethod yX8_cheapest ∈ WA := z_in0 _ (List.mem_of_getElem? (i := 712) (by decide +kernel))
theorem ul_713 : Cond.selects RX8 yX8_cheapest yX8_cheapest ∈ WA := z_in0 _ (List.mem_of_getElem? (i := 713) (by decide +kernel))
theorem ul_714 : Cond.code yX8_cheapest cX8_cheapest 7 (some .int) ∈ WA := z_in0 _ (List.mem_of_getElem? (i := 714) (by decide +kernel))
theorem ul_732 : Cond.methodLink RL 65 yX8_append ∈ WA := z_in0 _ (List.mem_of_getElem? (i := 732) (by decide +kernel))
theorem ul_733 : Cond.instanceMethod yX8_append ∈ WA := z_in0 _ (List.mem_of_getElem? (i := 733) (by decide +kernel))
theorem ul_734 : Cond.selects RX8 yX8_append yX8_append ∈ WA := z_in0 _ (List.mem_of_getElem? (i := 734) (by decide +kernel))
theorem ul_735 : Cond.code yX8_append cX8_append 2 (some .int) ∈ WA := z_in0 _ (List.mem_of_getElem? (i := 735) (by decide +kernel))
theorem ul_844 : Cond.methodLink RL 68 yX8_undo ∈ WA := z_in0 _ (List.mem_of_getElem? (i := 844) (by decide +kernel))
theorem ul_845 : Cond.instanceMethod yX8_undo ∈ WA := z_in0 _ (List.mem_of_getElem? (i := 845) (by decide +kernel))
theorem ul_846 : Cond.selects RX8 yX8_undo yX8_undo ∈ WA := z_in0 _ (List.mem_of_getElem? (i := 846) (by decide +kernel))
theorem ul_847 : Cond.code yX8_undo cX8_undo 1 (some .int) ∈ WA := z_in0 _ (List.mem_of_getElem? (i := 847) (by decide +kernel))
theorem cwL_7 {R : Room} {s : State} {args : Array Value} (hts : ∀ w ∈ WA, w.before args s = true) (hR : rmX8_begin.frames + 1 ≤ R.frames ∧ 8 + (5 + 11) + rmX8_begin.locals ≤ R.locals) : CallW R s args RL RX8 7 yX8_begin cX8_begin 5 (some .int) (Cond.code yX8_begin cX8_begin 5 (some .int) :: WA) rmX8_begin 8 48 3 := cwV 3 hts (z_goodV ul_143 ul_144 ul_145 ul_2 ul_146) rfl rfl rfl (by decide +kernel) hR
theorem cwL_15 {R : Room} {s : State} {args : Array Value} (hts : ∀ w ∈ WA, w.before args s = true) (hR : rmX8_read.frames + 1 ≤ R.frames ∧ 8 + (3 + 11) + rmX8_read.locals ≤ R.locals) : CallW R s args RL RX8 15 yX8_read cX8_read 3 (some .int) (Cond.code yX8_read cX8_read 3 (some .int) :: WA) rmX8_read 8 48 2 := cwV 2 hts (z_goodV ul_217 ul_218 ul_219 ul_2 ul_220) rfl rfl rfl (by decide +kernel) hR
theorem cwL_23 {R : Room} {s : State} {args : Array Value} (hts : ∀ w ∈ WA, w.before args s = true) (hR : rmX8_write.frames + 1 ≤ R.frames ∧ 8 + (4 + 11) + rmX8_write.locals ≤ R.locals) : CallW R s args RL RX8 23 yX8_write cX8_write 4 (some .int) (Cond.code yX8_write cX8_write 4 (some .int) :: WA) rmX8_write 8 48 3 := cwV 3 hts (z_goodV ul_282 ul_283 ul_284 ul_2 ul_285) rfl rfl rfl (by decide +kernel) hR
theorem cwL_26 {R : Room} {s : State} {args : Array Value} (hts : ∀ w ∈ WA, w.before args s = true) (hR : rmX8_takeBack.frames + 1 ≤ R.frames ∧ 8 + (3 + 11) + rmX8_takeBack.locals ≤ R.locals) : CallW R s args RL RX8 26 yX8_takeBack cX8_takeBack 3 (some .int) (Cond.code yX8_takeBack cX8_takeBack 3 (some .int) :: WA) rmX8_takeBack 8 48 1 := cwV 1 hts (z_goodV ul_293 ul_294 ul_295 ul_2 ul_296) rfl rfl rfl (by decide +kernel) hR
theorem cwL_30 {R : Room} {s : State} {args : Array Value} (hts : ∀ w ∈ WA, w.before args s = true) (hR : rmX8_pass.frames + 1 ≤ R.frames ∧ 8 + (2 + 11) + rmX8_pass.locals ≤ R.locals) : CallW R s args RL RX8 30 yX8_pass cX8_pass 2 (some .int) (Cond.code yX8_pass cX8_pass 2 (some .int) :: WA) rmX8_pass 8 48 1 := cwV 1 hts (z_goodV ul_309 ul_310 ul_311 ul_2 ul_312) rfl rfl rfl (by decide +kernel) hR
theorem cwL_33 {R : Room} {s : State} {args : Array Value} (hts : ∀ w ∈ WA, w.before args s = true) (hR : rmX8_drop.frames + 1 ≤ R.frames ∧ 8 + (4 + 11) + rmX8_drop.locals ≤ R.locals) : CallW R s args RL RX8 33 yX8_drop cX8_drop 4 (some .int) (Cond.code yX8_drop cX8_drop 4 (some .int) :: WA) rmX8_drop 8 48 2 := cwV 2 hts (z_goodV ul_517 ul_518 ul_519 ul_2 ul_520) rfl rfl rfl (by decide +kernel) hR
theorem cwL_36 {R : Room} {s : State} {args : Array Value} (hts : ∀ w ∈ WA, w.before args s = true) (hR : rmX8_tear.frames + 1 ≤ R.frames ∧ 8 + (3 + 11) + rmX8_tear.locals ≤ R.locals) : CallW R s args RL RX8 36 yX8_tear cX8_tear 3 (some .int) (Cond.code yX8_tear cX8_tear 3 (some .int) :: WA) rmX8_tear 8 48 1 := cwV 1 hts (z_goodV ul_532 ul_533 ul_534 ul_2 ul_535) rfl rfl rfl (by decide +kernel) hR
theorem cwL_39 {R : Room} {s : State} {args : Array Value} (hts : ∀ w ∈ WA, w.before args s = true) (hR : rmX8_copy.frames + 1 ≤ R.frames ∧ 8 + (4 + 11) + rmX8_copy.locals ≤ R.locals) : CallW R s args RL RX8 39 yX8_copy cX8_copy 4 (some .int) (Cond.code yX8_copy cX8_copy 4 (some .int) :: WA) rmX8_copy 8 48 3 := cwV 3 hts (z_goodV ul_550 ul_551 ul_552 ul_2 ul_553) rfl rfl rfl (by decide +kernel) hR
theorem cwL_42 {R : Room} {s : State} {args : Array Value} (hts : ∀ w ∈ WA, w.before args s = true) (hR : rmX8_line.frames + 1 ≤ R.frames ∧ 8 + (3 + 11) + rmX8_line.locals ≤ R.locals) : CallW R s args RL RX8 42 yX8_line cX8_line 3 (some .int) (Cond.code yX8_line cX8_line 3 (some .int) :: WA) rmX8_line 8 48 2 := cwV 2 hts (z_goodV ul_573 ul_574 ul_575 ul_2 ul_576) rfl rfl rfl (by decide +kernel) hR
theorem cwL_45 {R : Room} {s : State} {args : Array Value} (hts : ∀ w ∈ WA, w.before args s = true) (hR : rmX8_pending.frames + 1 ≤ R.frames ∧ 8 + (3 + 11) + rmX8_pending.locals ≤ R.locals) : CallW R s args RL RX8 45 yX8_pending cX8_pending 3 (some .int) (Cond.code yX8_pending cX8_pending 3 (some .int) :: WA) rmX8_pending 8 48 2 := cwV 2 hts (z_goodV ul_592 ul_593 ul_594 ul_2 ul_595) rfl rfl rfl (by decide +kernel) hR
theorem cwL_48 {R : Room} {s : State} {args : Array Value} (hts : ∀ w ∈ WA, w.before args s = true) (hR : rmX8_entry.frames + 1 ≤ R.frames ∧ 8 + (3 + 11) + rmX8_entry.locals ≤ R.locals) : CallW R s args RL RX8 48 yX8_entry cX8_entry 3 (some .int) (Cond.code yX8_entry cX8_entry 3 (some .int) :: WA) rmX8_entry 8 48 2 := cwV 2 hts (z_goodV ul_611 ul_612 ul_613 ul_2 ul_614) rfl rfl rfl (by decide +kernel) hR
theorem cwL_51 {R : Room} {s : State} {args : Array Value} (hts : ∀ w ∈ WA, w.before args s = true) (hR : rmX8_value.frames + 1 ≤ R.frames ∧ 8 + (2 + 11) + rmX8_value.locals ≤ R.locals) : CallW R s args RL RX8 51 yX8_value cX8_value 2 (some .int) (Cond.code yX8_value cX8_value 2 (some .int) :: WA) rmX8_value 8 48 1 := cwV 1 hts (z_goodV ul_628 ul_629 ul_630 ul_2 ul_631) rfl rfl rfl (by decide +kernel) hR
theorem cwL_54 {R : Room} {s : State} {args : Array Value} (hts : ∀ w ∈ WA, w.before args s = true) (hR : rmX8_cost.frames + 1 ≤ R.frames ∧ 8 + (4 + 11) + rmX8_cost.locals ≤ R.locals) : CallW R s args RL RX8 54 yX8_cost cX8_cost 4 (some .int) (Cond.code yX8_cost cX8_cost 4 (some .int) :: WA) rmX8_cost 8 48 3 := cwV 3 hts (z_goodV ul_655 ul_656 ul_657 ul_2 ul_658) rfl rfl rfl (by decide +kernel) hR
theorem cwL_58 {R : Room} {s : State} {args : Array Value} (hts : ∀ w ∈ WA, w.before args s = true) (hR : rmX8_nextDropped.frames + 1 ≤ R.frames ∧ 8 + (2 + 11) + rmX8_nextDropped.locals ≤ R.locals) : CallW R s args RL RX8 58 yX8_nextDropped cX8_nextDropped 2 (some .int) (Cond.code yX8_nextDropped cX8_nextDropped 2 (some .int) :: WA) rmX8_nextDropped 8 48 1 := cwV 1 hts (z_goodV ul_688 ul_689 ul_690 ul_2 ul_691) rfl rfl rfl (by decide +kernel) hR
theorem cwL_61 {R : Room} {s : State} {args : Array Value} (hts : ∀ w ∈ WA, w.before args s = true) (hR : rmX8_cheapest.frames + 1 ≤ R.frames ∧ 8 + (7 + 11) + rmX8_cheapest.locals ≤ R.locals) : CallW R s args RL RX8 61 yX8_cheapest cX8_cheapest 7 (some .int) (Cond.code yX8_cheapest cX8_cheapest 7 (some .int) :: WA) rmX8_cheapest 8 48 2 := cwV 2 hts (z_goodV ul_711 ul_712 ul_713 ul_2 ul_714) rfl rfl rfl (by decide +kernel) hR
theorem cwL_65 {R : Room} {s : State} {args : Array Value} (hts : ∀ w ∈ WA, w.before args s = true) (hR : rmX8_append.frames + 1 ≤ R.frames ∧ 8 + (2 + 11) + rmX8_append.locals ≤ R.locals) : CallW R s args RL RX8 65 yX8_append cX8_append 2 (some .int) (Cond.code yX8_append cX8_append 2 (some .int) :: WA) rmX8_append 8 48 1 := cwV 1 hts (z_goodV ul_732 ul_733 ul_734 ul_2 ul_735) rfl rfl rfl (by decide +kernel) hR
theorem cwL_68 {R : Room} {s : State} {args : Array Value} (hts : ∀ w ∈ WA, w.before args s = true) (hR : rmX8_undo.frames + 1 ≤ R.frames ∧ 8 + (1 + 11) + rmX8_undo.locals ≤ R.locals) : CallW R s args RL RX8 68 yX8_undo cX8_undo 1 (some .int) (Cond.code yX8_undo cX8_undo 1 (some .int) :: WA) rmX8_undo 8 48 0 := cwV 0 hts (z_goodV ul_844 ul_845 ul_846 ul_2 ul_847) rfl rfl rfl (by decide +kernel) hR
set_option maxHeartbeats 4000000 in
set_option maxRecDepth 100000 in
theorem metL_begin (l : Launch) (hfl : l.stackTraces = false) (D : va_G) (cI cB cM cL : ClassId) (ad6 : Nat → Nat) (a : Nat → Nat → Nat) (A : Nat → Prop) (ao : Nat) (hao : ¬ A ao) (a0 : Int32) (a1 : Int32) (a2 : Int32) (χ : cSt) (f : Nat → Int64) (res : cRes) (hf : fX8_begin a0 a1 a2 χ = some res) (hw : ∀ k, res = .inl k → (wk 0 (nI 1) 0) k ≠ 0) : Met l yL_begin (Cond.codeWith yL_begin cL_begin 6 (some .int) [(0, 12, 15, 13)] :: WA) rmL (lPc D cI cB cM cL ad6 a A ao χ f [.ref (a 0 0), .int a0, .int a1, .int a2, .ref ao]) (lQ D cI cB cM cL ad6 a A ao (wk 0 (nI 1) 0) χ res) 8 48 (lAw A ao) := by
  refine l_ofWH (cc := cL_begin) (maxL := 6) (ret := some .int) (hh := [(0, 12, 15, 13)]) (by decide) rfl ?_
  intro p e s m args below meth c s₁ B hml hv
  obtain ⟨rfl, ⟨G, hP, hD, hK⟩, hF, hY⟩ := hv
  have hts0 := atoms_spec (ws := Cond.codeWith yL_begin cL_begin 6 (some .int) [(0, 12, 15, 13)] :: WA) B.pre
  have htab : c.exceptionTable.toList = tableOf [(0, 12, 15, 13)] := vx_table (x := yL_begin) B (hts0 _ List.mem_cons_self)
  have S : CallFix p m c cL_begin 6 s _ WA RL := ⟨B.exec, B.bytes, hml, findClass_of_methodNamed B.named, fun w h => hts0 w (List.mem_cons_of_mem _ h)⟩
  have hr := B.returns
  have hk := B.notSynchronized
  have hl := lv_entry [.ref (a 0 0), .int a0, .int a1, .int a2, .ref ao] (n := 6) (Nat.le_of_ble_eq_true rfl)
  rw [lg_entry_eq]
  generalize (lg_sl [.ref (a 0 0), .int a0, .int a1, .int a2, .ref ao] ++ List.replicate (6 - (lg_sl [.ref (a 0 0), .int a0, .int a1, .int a2, .ref ao]).length) Slot.unset).toArray = ls at hl ⊢
  have hl : lv_has ls 6 [(0, .ref (a 0 0)), (1, .int a0), (2, .int a1), (3, .int a2), (4, .ref ao)] := hl
  have hS : va_S (lAw A ao) s.heap s.heap [] := va_S.rf
  obtain ⟨hPq, hPo⟩ := lw_P.mp hP
  have K0 : qK D cI cB cM ad6 A s := ⟨hK.sub [0, 1, 2] rfl, hF⟩
  have hs0 : qS D cI cB cM ad6 a A s χ s.heap [] := ⟨G, hPq, hD, va_S.rf⟩
  refine lv_aload S.1 S.2.1 dL_begin_0 (lv_at hl 4 rfl) ?_
  refine lv_iconst (v := nI 0) S.1 S.2.1 dL_begin_2 (by decide) ?_
  refine lv_aload_n S.1 S.2.1 dL_begin_3 rfl (lv_at hl 0 rfl) ?_
  refine lv_iload_n S.1 S.2.1 dL_begin_4 rfl (lv_at hl 1 rfl) ?_
  refine lv_iload_n S.1 S.2.1 dL_begin_5 rfl (lv_at hl 2 rfl) ?_
  refine lv_iload_n S.1 S.2.1 dL_begin_6 rfl (lv_at hl 3 rfl) ?_
  refine vx_calli (vx_runV (As := [.int a0, .int a1, .int a2]) (rest := [.int (nI 0), .ref ao]) S (metX8_begin l hfl D cI cB cM ad6 a A a0 a1 a2 χ res hf) (cwL_7 S.2.2.2.2 ⟨Nat.le_of_ble_eq_true rfl, Nat.le_of_ble_eq_true rfl⟩) ⟨qPc_blind _ _ _ _ _ _ _ _ _, qV0 K0 hs0, qPre K0 hs0 _⟩ rfl rfl hl.1 rfl (lv_room (Nat.le_of_ble_eq_true rfl)) dL_begin_7 ⟨Nat.le_of_ble_eq_true rfl, Nat.le_of_ble_eq_true rfl⟩) hS (fun q _ h => Or.inl h) (fun q h => Or.inl h) (fun q _ h => Or.inl h) (fun E ce q9 u t H1 locs ht hvm hpx hBX hz1 hk1 hS1 hce hcv hcl => ?_) (fun r u t H1 locs ht hvm hpo hB hz1 hk1 hS1 => ?_)
  · obtain ⟨rfl, G1, hP1, hD1, -⟩ := hBX
    rw [ht] at hP1
    have hPw : va_P D vwCl (wL cI cB cM cL ad6 a G1 ao χ f) H1 := lw_P.mpr ⟨hP1, l_out hPo hk1 hao⟩
    subst hpx
    have hne := hw u rfl
    match u, hne, hcl with
    | 0, hne, hcl => exact absurd rfl hne
    | 1, hne, hcl =>
      refine vx_catch (E := c_ex 1) S.2.2.2.1 [] (⟨0, 12, 15, 13⟩ : ExceptionTableEntry) [] htab (fun z h => absurd h List.not_mem_nil) (by decide) (by decide) (S.2.2.2.2 _ ul_142) (hY.1 1) hce hcv hcl ?_
      refine lv_astore (lv' := [(5, .ref q9), (0, .ref (a 0 0)), (1, .int a0), (2, .int a1), (3, .int a2), (4, .ref ao)]) S.1 S.2.1 dL_begin_15 hl (by decide) rfl (fun ls hl => ?_)
      refine lv_iconst (v := nI 1) S.1 S.2.1 dL_begin_17 (by decide) ?_
      exact W.iret S.1 S.2.1 hr (fun t ht hW => ⟨⟨nI 1, (χ, f), rfl, ⟨rfl, rfl⟩, G1, by rw [ht]; exact hPw, hD1, va_K.moved hW.alike hK⟩, hS1.F ht⟩) hS1.2.2 dL_begin_18 (hlocks := hk)
    | u + 2, hne, hcl => exact absurd rfl hne
  · obtain ⟨G1, hP1, hD1, -⟩ := hB
    rw [ht] at hP1
    have hPw : va_P D vwCl (wL cI cB cM cL ad6 a G1 ao u f) H1 := lw_P.mpr ⟨hP1, l_out hPo hk1 hao⟩
    subst hpo
    refine lv_i2l S.1 S.2.1 dL_begin_10 rfl ?_
    refine va_last S.1 S.2.1 hK hPw (lw_D hD1 hao) hS1 104 3 lw_at rfl (vp_in_nI (n := 0) (by omega) (by omega)) dL_begin_11 (fun H2 locs2 hP2 hD2 hS2 => ?_)
    rw [lw_set] at hP2
    refine lv_goto (tgt := 19) S.1 S.2.1 dL_begin_12 (by decide) ?_
    refine lv_iconst (v := nI 0) S.1 S.2.1 dL_begin_19 (by decide) ?_
    exact W.iret S.1 S.2.1 hr (fun t ht hW => ⟨⟨nI 0, (u, _), rfl, ⟨rfl, rfl, l_upd f _⟩, G1, by rw [ht]; exact hP2, hD1, va_K.moved hW.alike hK⟩, hS2.F ht⟩) hS2.2.2 dL_begin_20 (hlocks := hk)
set_option maxHeartbeats 4000000 in
set_option maxRecDepth 100000 in
theorem metL_read (l : Launch) (hfl : l.stackTraces = false) (D : va_G) (cI cB cM cL : ClassId) (ad6 : Nat → Nat) (a : Nat → Nat → Nat) (A : Nat → Prop) (ao : Nat) (hao : ¬ A ao) (a0 : Int32) (a1 : Int32) (χ : cSt) (f : Nat → Int64) (res : cRes) (hf : fX8_read a0 a1 χ = some res) (hw : ∀ k, res = .inl k → (wk (nI 1) 0 (nI 2)) k ≠ 0) : Met l yL_read (Cond.codeWith yL_read cL_read 5 (some .int) [(0, 10, 13, 19), (0, 10, 17, 21)] :: WA) rmL (lPc D cI cB cM cL ad6 a A ao χ f [.ref (a 0 0), .int a0, .int a1, .ref ao]) (lQ D cI cB cM cL ad6 a A ao (wk (nI 1) 0 (nI 2)) χ res) 8 48 (lAw A ao) := by
  refine l_ofWH (cc := cL_read) (maxL := 5) (ret := some .int) (hh := [(0, 10, 13, 19), (0, 10, 17, 21)]) (by decide) rfl ?_
  intro p e s m args below meth c s₁ B hml hv
  obtain ⟨rfl, ⟨G, hP, hD, hK⟩, hF, hY⟩ := hv
  have hts0 := atoms_spec (ws := Cond.codeWith yL_read cL_read 5 (some .int) [(0, 10, 13, 19), (0, 10, 17, 21)] :: WA) B.pre
  have htab : c.exceptionTable.toList = tableOf [(0, 10, 13, 19), (0, 10, 17, 21)] := vx_table (x := yL_read) B (hts0 _ List.mem_cons_self)
  have S : CallFix p m c cL_read 5 s _ WA RL := ⟨B.exec, B.bytes, hml, findClass_of_methodNamed B.named, fun w h => hts0 w (List.mem_cons_of_mem _ h)⟩
  have hr := B.returns
  have hk := B.notSynchronized
  have hl := lv_entry [.ref (a 0 0), .int a0, .int a1, .ref ao] (n := 5) (Nat.le_of_ble_eq_true rfl)
  rw [lg_entry_eq]
  generalize (lg_sl [.ref (a 0 0), .int a0, .int a1, .ref ao] ++ List.replicate (5 - (lg_sl [.ref (a 0 0), .int a0, .int a1, .ref ao]).length) Slot.unset).toArray = ls at hl ⊢
  have hl : lv_has ls 5 [(0, .ref (a 0 0)), (1, .int a0), (2, .int a1), (3, .ref ao)] := hl
  have hS : va_S (lAw A ao) s.heap s.heap [] := va_S.rf
  obtain ⟨hPq, hPo⟩ := lw_P.mp hP
  have K0 : qK D cI cB cM ad6 A s := ⟨hK.sub [0, 1, 2] rfl, hF⟩
  have hs0 : qS D cI cB cM ad6 a A s χ s.heap [] := ⟨G, hPq, hD, va_S.rf⟩
  refine lv_aload_n S.1 S.2.1 dL_read_0 rfl (lv_at hl 3 rfl) ?_
  refine lv_iconst (v := nI 0) S.1 S.2.1 dL_read_1 (by decide) ?_
  refine lv_aload_n S.1 S.2.1 dL_read_2 rfl (lv_at hl 0 rfl) ?_
  refine lv_iload_n S.1 S.2.1 dL_read_3 rfl (lv_at hl 1 rfl) ?_
  refine lv_iload_n S.1 S.2.1 dL_read_4 rfl (lv_at hl 2 rfl) ?_
  refine vx_calli (vx_runV (As := [.int a0, .int a1]) (rest := [.int (nI 0), .ref ao]) S (metX8_read l hfl D cI cB cM ad6 a A a0 a1 χ res hf) (cwL_15 S.2.2.2.2 ⟨Nat.le_of_ble_eq_true rfl, Nat.le_of_ble_eq_true rfl⟩) ⟨qPc_blind _ _ _ _ _ _ _ _ _, qV0 K0 hs0, qPre K0 hs0 _⟩ rfl rfl hl.1 rfl (lv_room (Nat.le_of_ble_eq_true rfl)) dL_read_5 ⟨Nat.le_of_ble_eq_true rfl, Nat.le_of_ble_eq_true rfl⟩) hS (fun q _ h => Or.inl h) (fun q h => Or.inl h) (fun q _ h => Or.inl h) (fun E ce q9 u t H1 locs ht hvm hpx hBX hz1 hk1 hS1 hce hcv hcl => ?_) (fun r u t H1 locs ht hvm hpo hB hz1 hk1 hS1 => ?_)
  · obtain ⟨rfl, G1, hP1, hD1, -⟩ := hBX
    rw [ht] at hP1
    have hPw : va_P D vwCl (wL cI cB cM cL ad6 a G1 ao χ f) H1 := lw_P.mpr ⟨hP1, l_out hPo hk1 hao⟩
    subst hpx
    have hne := hw u rfl
    match u, hne, hcl with
    | 0, hne, hcl =>
      refine vx_catch (E := c_ex 0) S.2.2.2.1 [] (⟨0, 10, 13, 19⟩ : ExceptionTableEntry) [(⟨0, 10, 17, 21⟩ : ExceptionTableEntry)] htab (fun z h => absurd h List.not_mem_nil) (by decide) (by decide) (S.2.2.2.2 _ ul_215) (hY.1 0) hce hcv hcl ?_
      refine lv_astore (lv' := [(4, .ref q9), (0, .ref (a 0 0)), (1, .int a0), (2, .int a1), (3, .ref ao)]) S.1 S.2.1 dL_read_13 hl (by decide) rfl (fun ls hl => ?_)
      refine lv_iconst (v := nI 1) S.1 S.2.1 dL_read_15 (by decide) ?_
      exact W.iret S.1 S.2.1 hr (fun t ht hW => ⟨⟨nI 1, (χ, f), rfl, ⟨rfl, rfl⟩, G1, by rw [ht]; exact hPw, hD1, va_K.moved hW.alike hK⟩, hS1.F ht⟩) hS1.2.2 dL_read_16 (hlocks := hk)
    | 1, hne, hcl => exact absurd rfl hne
    | u + 2, hne, hcl =>
      refine vx_catch (E := c_ex (u + 2)) S.2.2.2.1 [(⟨0, 10, 13, 19⟩ : ExceptionTableEntry)] (⟨0, 10, 17, 21⟩ : ExceptionTableEntry) [] htab (fun z h => by rw [List.mem_singleton] at h; subst h; exact Or.inr ⟨by decide, _, S.2.2.2.2 _ ul_215, hY.2 2 0 (by decide)⟩) (by decide) (by decide) (S.2.2.2.2 _ ul_216) (hY.1 (u + 2)) hce hcv hcl ?_
      refine lv_astore (lv' := [(4, .ref q9), (0, .ref (a 0 0)), (1, .int a0), (2, .int a1), (3, .ref ao)]) S.1 S.2.1 dL_read_17 hl (by decide) rfl (fun ls hl => ?_)
      refine lv_iconst (v := nI 2) S.1 S.2.1 dL_read_19 (by decide) ?_
      exact W.iret S.1 S.2.1 hr (fun t ht hW => ⟨⟨nI 2, (χ, f), rfl, ⟨rfl, rfl⟩, G1, by rw [ht]; exact hPw, hD1, va_K.moved hW.alike hK⟩, hS1.F ht⟩) hS1.2.2 dL_read_20 (hlocks := hk)
  · obtain ⟨G1, hP1, hD1, -⟩ := hB
    rw [ht] at hP1
    have hPw : va_P D vwCl (wL cI cB cM cL ad6 a G1 ao u f) H1 := lw_P.mpr ⟨hP1, l_out hPo hk1 hao⟩
    subst hpo
    refine lv_i2l S.1 S.2.1 dL_read_8 rfl ?_
    refine va_last S.1 S.2.1 hK hPw (lw_D hD1 hao) hS1 104 3 lw_at rfl (vp_in_nI (n := 0) (by omega) (by omega)) dL_read_9 (fun H2 locs2 hP2 hD2 hS2 => ?_)
    rw [lw_set] at hP2
    refine lv_goto (tgt := 21) S.1 S.2.1 dL_read_10 (by decide) ?_
    refine lv_iconst (v := nI 0) S.1 S.2.1 dL_read_21 (by decide) ?_
    exact W.iret S.1 S.2.1 hr (fun t ht hW => ⟨⟨nI 0, (u, _), rfl, ⟨rfl, rfl, l_upd f _⟩, G1, by rw [ht]; exact hP2, hD1, va_K.moved hW.alike hK⟩, hS2.F ht⟩) hS2.2.2 dL_read_22 (hlocks := hk)
set_option maxHeartbeats 4000000 in
set_option maxRecDepth 100000 in
theorem metL_write (l : Launch) (hfl : l.stackTraces = false) (D : va_G) (cI cB cM cL : ClassId) (ad6 : Nat → Nat) (a : Nat → Nat → Nat) (A : Nat → Prop) (ao : Nat) (hao : ¬ A ao) (a0 : Int32) (a1 : Int32) (a2 : Int32) (χ : cSt) (f : Nat → Int64) (res : cRes) (hf : fX8_write a0 a1 a2 χ = some res) (hw : ∀ k, res = .inl k → (wk (nI 1) (nI 2) (nI 3)) k ≠ 0) : Met l yL_write (Cond.codeWith yL_write cL_write 6 (some .int) [(0, 12, 15, 19), (0, 12, 19, 13), (0, 12, 23, 21)] :: WA) rmL (lPc D cI cB cM cL ad6 a A ao χ f [.ref (a 0 0), .int a0, .int a1, .int a2, .ref ao]) (lQ D cI cB cM cL ad6 a A ao (wk (nI 1) (nI 2) (nI 3)) χ res) 8 48 (lAw A ao) := by
  refine l_ofWH (cc := cL_write) (maxL := 6) (ret := some .int) (hh := [(0, 12, 15, 19), (0, 12, 19, 13), (0, 12, 23, 21)]) (by decide) rfl ?_
  intro p e s m args below meth c s₁ B hml hv
  obtain ⟨rfl, ⟨G, hP, hD, hK⟩, hF, hY⟩ := hv
  have hts0 := atoms_spec (ws := Cond.codeWith yL_write cL_write 6 (some .int) [(0, 12, 15, 19), (0, 12, 19, 13), (0, 12, 23, 21)] :: WA) B.pre
  have htab : c.exceptionTable.toList = tableOf [(0, 12, 15, 19), (0, 12, 19, 13), (0, 12, 23, 21)] := vx_table (x := yL_write) B (hts0 _ List.mem_cons_self)
  have S : CallFix p m c cL_write 6 s _ WA RL := ⟨B.exec, B.bytes, hml, findClass_of_methodNamed B.named, fun w h => hts0 w (List.mem_cons_of_mem _ h)⟩
  have hr := B.returns
  have hk := B.notSynchronized
  have hl := lv_entry [.ref (a 0 0), .int a0, .int a1, .int a2, .ref ao] (n := 6) (Nat.le_of_ble_eq_true rfl)
  rw [lg_entry_eq]
  generalize (lg_sl [.ref (a 0 0), .int a0, .int a1, .int a2, .ref ao] ++ List.replicate (6 - (lg_sl [.ref (a 0 0), .int a0, .int a1, .int a2, .ref ao]).length) Slot.unset).toArray = ls at hl ⊢
  have hl : lv_has ls 6 [(0, .ref (a 0 0)), (1, .int a0), (2, .int a1), (3, .int a2), (4, .ref ao)] := hl
  have hS : va_S (lAw A ao) s.heap s.heap [] := va_S.rf
  obtain ⟨hPq, hPo⟩ := lw_P.mp hP
  have K0 : qK D cI cB cM ad6 A s := ⟨hK.sub [0, 1, 2] rfl, hF⟩
  have hs0 : qS D cI cB cM ad6 a A s χ s.heap [] := ⟨G, hPq, hD, va_S.rf⟩
  refine lv_aload S.1 S.2.1 dL_write_0 (lv_at hl 4 rfl) ?_
  refine lv_iconst (v := nI 0) S.1 S.2.1 dL_write_2 (by decide) ?_
  refine lv_aload_n S.1 S.2.1 dL_write_3 rfl (lv_at hl 0 rfl) ?_
  refine lv_iload_n S.1 S.2.1 dL_write_4 rfl (lv_at hl 1 rfl) ?_
  refine lv_iload_n S.1 S.2.1 dL_write_5 rfl (lv_at hl 2 rfl) ?_
  refine lv_iload_n S.1 S.2.1 dL_write_6 rfl (lv_at hl 3 rfl) ?_
  refine vx_calli (vx_runV (As := [.int a0, .int a1, .int a2]) (rest := [.int (nI 0), .ref ao]) S (metX8_write l hfl D cI cB cM ad6 a A a0 a1 a2 χ res hf) (cwL_23 S.2.2.2.2 ⟨Nat.le_of_ble_eq_true rfl, Nat.le_of_ble_eq_true rfl⟩) ⟨qPc_blind _ _ _ _ _ _ _ _ _, qV0 K0 hs0, qPre K0 hs0 _⟩ rfl rfl hl.1 rfl (lv_room (Nat.le_of_ble_eq_true rfl)) dL_write_7 ⟨Nat.le_of_ble_eq_true rfl, Nat.le_of_ble_eq_true rfl⟩) hS (fun q _ h => Or.inl h) (fun q h => Or.inl h) (fun q _ h => Or.inl h) (fun E ce q9 u t H1 locs ht hvm hpx hBX hz1 hk1 hS1 hce hcv hcl => ?_) (fun r u t H1 locs ht hvm hpo hB hz1 hk1 hS1 => ?_)
  · obtain ⟨rfl, G1, hP1, hD1, -⟩ := hBX
    rw [ht] at hP1
    have hPw : va_P D vwCl (wL cI cB cM cL ad6 a G1 ao χ f) H1 := lw_P.mpr ⟨hP1, l_out hPo hk1 hao⟩
    subst hpx
    have hne := hw u rfl
    match u, hne, hcl with
    | 0, hne, hcl =>
      refine vx_catch (E := c_ex 0) S.2.2.2.1 [] (⟨0, 12, 15, 19⟩ : ExceptionTableEntry) [(⟨0, 12, 19, 13⟩ : ExceptionTableEntry), (⟨0, 12, 23, 21⟩ : ExceptionTableEntry)] htab (fun z h => absurd h List.not_mem_nil) (by decide) (by decide) (S.2.2.2.2 _ ul_215) (hY.1 0) hce hcv hcl ?_
      refine lv_astore (lv' := [(5, .ref q9), (0, .ref (a 0 0)), (1, .int a0), (2, .int a1), (3, .int a2), (4, .ref ao)]) S.1 S.2.1 dL_write_15 hl (by decide) rfl (fun ls hl => ?_)
      refine lv_iconst (v := nI 1) S.1 S.2.1 dL_write_17 (by decide) ?_
      exact W.iret S.1 S.2.1 hr (fun t ht hW => ⟨⟨nI 1, (χ, f), rfl, ⟨rfl, rfl⟩, G1, by rw [ht]; exact hPw, hD1, va_K.moved hW.alike hK⟩, hS1.F ht⟩) hS1.2.2 dL_write_18 (hlocks := hk)
    | 1, hne, hcl =>
      refine vx_catch (E := c_ex 1) S.2.2.2.1 [(⟨0, 12, 15, 19⟩ : ExceptionTableEntry)] (⟨0, 12, 19, 13⟩ : ExceptionTableEntry) [(⟨0, 12, 23, 21⟩ : ExceptionTableEntry)] htab (fun z h => by rw [List.mem_singleton] at h; subst h; exact Or.inr ⟨by decide, _, S.2.2.2.2 _ ul_215, hY.2 1 0 (by decide)⟩) (by decide) (by decide) (S.2.2.2.2 _ ul_142) (hY.1 1) hce hcv hcl ?_
      refine lv_astore (lv' := [(5, .ref q9), (0, .ref (a 0 0)), (1, .int a0), (2, .int a1), (3, .int a2), (4, .ref ao)]) S.1 S.2.1 dL_write_19 hl (by decide) rfl (fun ls hl => ?_)
      refine lv_iconst (v := nI 2) S.1 S.2.1 dL_write_21 (by decide) ?_
      exact W.iret S.1 S.2.1 hr (fun t ht hW => ⟨⟨nI 2, (χ, f), rfl, ⟨rfl, rfl⟩, G1, by rw [ht]; exact hPw, hD1, va_K.moved hW.alike hK⟩, hS1.F ht⟩) hS1.2.2 dL_write_22 (hlocks := hk)
    | u + 2, hne, hcl =>
      refine vx_catch (E := c_ex (u + 2)) S.2.2.2.1 [(⟨0, 12, 15, 19⟩ : ExceptionTableEntry), (⟨0, 12, 19, 13⟩ : ExceptionTableEntry)] (⟨0, 12, 23, 21⟩ : ExceptionTableEntry) [] htab (fun z h => by rw [List.mem_cons, List.mem_singleton] at h; exact h.elim (fun h => by subst h; exact Or.inr ⟨by decide, _, S.2.2.2.2 _ ul_215, hY.2 2 0 (by decide)⟩) (fun h => by subst h; exact Or.inr ⟨by decide, _, S.2.2.2.2 _ ul_142, hY.2 2 1 (by decide)⟩)) (by decide) (by decide) (S.2.2.2.2 _ ul_216) (hY.1 (u + 2)) hce hcv hcl ?_
      refine lv_astore (lv' := [(5, .ref q9), (0, .ref (a 0 0)), (1, .int a0), (2, .int a1), (3, .int a2), (4, .ref ao)]) S.1 S.2.1 dL_write_23 hl (by decide) rfl (fun ls hl => ?_)
      refine lv_iconst (v := nI 3) S.1 S.2.1 dL_write_25 (by decide) ?_
      exact W.iret S.1 S.2.1 hr (fun t ht hW => ⟨⟨nI 3, (χ, f), rfl, ⟨rfl, rfl⟩, G1, by rw [ht]; exact hPw, hD1, va_K.moved hW.alike hK⟩, hS1.F ht⟩) hS1.2.2 dL_write_26 (hlocks := hk)
  · obtain ⟨G1, hP1, hD1, -⟩ := hB
    rw [ht] at hP1
    have hPw : va_P D vwCl (wL cI cB cM cL ad6 a G1 ao u f) H1 := lw_P.mpr ⟨hP1, l_out hPo hk1 hao⟩
    subst hpo
    refine lv_i2l S.1 S.2.1 dL_write_10 rfl ?_
    refine va_last S.1 S.2.1 hK hPw (lw_D hD1 hao) hS1 104 3 lw_at rfl (vp_in_nI (n := 0) (by omega) (by omega)) dL_write_11 (fun H2 locs2 hP2 hD2 hS2 => ?_)
    rw [lw_set] at hP2
    refine lv_goto (tgt := 27) S.1 S.2.1 dL_write_12 (by decide) ?_
    refine lv_iconst (v := nI 0) S.1 S.2.1 dL_write_27 (by decide) ?_
    exact W.iret S.1 S.2.1 hr (fun t ht hW => ⟨⟨nI 0, (u, _), rfl, ⟨rfl, rfl, l_upd f _⟩, G1, by rw [ht]; exact hP2, hD1, va_K.moved hW.alike hK⟩, hS2.F ht⟩) hS2.2.2 dL_write_28 (hlocks := hk)
set_option maxHeartbeats 4000000 in
set_option maxRecDepth 100000 in
theorem metL_takeBack (l : Launch) (hfl : l.stackTraces = false) (D : va_G) (cI cB cM cL : ClassId) (ad6 : Nat → Nat) (a : Nat → Nat → Nat) (A : Nat → Prop) (ao : Nat) (hao : ¬ A ao) (a0 : Int32) (χ : cSt) (f : Nat → Int64) (res : cRes) (hf : fX8_takeBack a0 χ = some res) (hw : ∀ k, res = .inl k → (wk (nI 1) 0 (nI 2)) k ≠ 0) : Met l yL_takeBack (Cond.codeWith yL_takeBack cL_takeBack 4 (some .int) [(0, 9, 12, 19), (0, 9, 15, 21)] :: WA) rmL (lPc D cI cB cM cL ad6 a A ao χ f [.ref (a 0 0), .int a0, .ref ao]) (lQ D cI cB cM cL ad6 a A ao (wk (nI 1) 0 (nI 2)) χ res) 8 48 (lAw A ao) := by
  refine l_ofWH (cc := cL_takeBack) (maxL := 4) (ret := some .int) (hh := [(0, 9, 12, 19), (0, 9, 15, 21)]) (by decide) rfl ?_
  intro p e s m args below meth c s₁ B hml hv
  obtain ⟨rfl, ⟨G, hP, hD, hK⟩, hF, hY⟩ := hv
  have hts0 := atoms_spec (ws := Cond.codeWith yL_takeBack cL_takeBack 4 (some .int) [(0, 9, 12, 19), (0, 9, 15, 21)] :: WA) B.pre
  have htab : c.exceptionTable.toList = tableOf [(0, 9, 12, 19), (0, 9, 15, 21)] := vx_table (x := yL_takeBack) B (hts0 _ List.mem_cons_self)
  have S : CallFix p m c cL_takeBack 4 s _ WA RL := ⟨B.exec, B.bytes, hml, findClass_of_methodNamed B.named, fun w h => hts0 w (List.mem_cons_of_mem _ h)⟩
  have hr := B.returns
  have hk := B.notSynchronized
  have hl := lv_entry [.ref (a 0 0), .int a0, .ref ao] (n := 4) (Nat.le_of_ble_eq_true rfl)
  rw [lg_entry_eq]
  generalize (lg_sl [.ref (a 0 0), .int a0, .ref ao] ++ List.replicate (4 - (lg_sl [.ref (a 0 0), .int a0, .ref ao]).length) Slot.unset).toArray = ls at hl ⊢
  have hl : lv_has ls 4 [(0, .ref (a 0 0)), (1, .int a0), (2, .ref ao)] := hl
  have hS : va_S (lAw A ao) s.heap s.heap [] := va_S.rf
  obtain ⟨hPq, hPo⟩ := lw_P.mp hP
  have K0 : qK D cI cB cM ad6 A s := ⟨hK.sub [0, 1, 2] rfl, hF⟩
  have hs0 : qS D cI cB cM ad6 a A s χ s.heap [] := ⟨G, hPq, hD, va_S.rf⟩
  refine lv_aload_n S.1 S.2.1 dL_takeBack_0 rfl (lv_at hl 2 rfl) ?_
  refine lv_iconst (v := nI 0) S.1 S.2.1 dL_takeBack_1 (by decide) ?_
  refine lv_aload_n S.1 S.2.1 dL_takeBack_2 rfl (lv_at hl 0 rfl) ?_
  refine lv_iload_n S.1 S.2.1 dL_takeBack_3 rfl (lv_at hl 1 rfl) ?_
  refine vx_calli (vx_runV (As := [.int a0]) (rest := [.int (nI 0), .ref ao]) S (metX8_takeBack l hfl D cI cB cM ad6 a A a0 χ res hf) (cwL_26 S.2.2.2.2 ⟨Nat.le_of_ble_eq_true rfl, Nat.le_of_ble_eq_true rfl⟩) ⟨qPc_blind _ _ _ _ _ _ _ _ _, qV0 K0 hs0, qPre K0 hs0 _⟩ rfl rfl hl.1 rfl (lv_room (Nat.le_of_ble_eq_true rfl)) dL_takeBack_4 ⟨Nat.le_of_ble_eq_true rfl, Nat.le_of_ble_eq_true rfl⟩) hS (fun q _ h => Or.inl h) (fun q h => Or.inl h) (fun q _ h => Or.inl h) (fun E ce q9 u t H1 locs ht hvm hpx hBX hz1 hk1 hS1 hce hcv hcl => ?_) (fun r u t H1 locs ht hvm hpo hB hz1 hk1 hS1 => ?_)
  · obtain ⟨rfl, G1, hP1, hD1, -⟩ := hBX
    rw [ht] at hP1
    have hPw : va_P D vwCl (wL cI cB cM cL ad6 a G1 ao χ f) H1 := lw_P.mpr ⟨hP1, l_out hPo hk1 hao⟩
    subst hpx
    have hne := hw u rfl
    match u, hne, hcl with
    | 0, hne, hcl =>
      refine vx_catch (E := c_ex 0) S.2.2.2.1 [] (⟨0, 9, 12, 19⟩ : ExceptionTableEntry) [(⟨0, 9, 15, 21⟩ : ExceptionTableEntry)] htab (fun z h => absurd h List.not_mem_nil) (by decide) (by decide) (S.2.2.2.2 _ ul_215) (hY.1 0) hce hcv hcl ?_
      refine lv_astore_n (lv' := [(3, .ref q9), (0, .ref (a 0 0)), (1, .int a0), (2, .ref ao)]) S.1 S.2.1 dL_takeBack_12 rfl hl (by decide) rfl (fun ls hl => ?_)
      refine lv_iconst (v := nI 1) S.1 S.2.1 dL_takeBack_13 (by decide) ?_
      exact W.iret S.1 S.2.1 hr (fun t ht hW => ⟨⟨nI 1, (χ, f), rfl, ⟨rfl, rfl⟩, G1, by rw [ht]; exact hPw, hD1, va_K.moved hW.alike hK⟩, hS1.F ht⟩) hS1.2.2 dL_takeBack_14 (hlocks := hk)
    | 1, hne, hcl => exact absurd rfl hne
    | u + 2, hne, hcl =>
      refine vx_catch (E := c_ex (u + 2)) S.2.2.2.1 [(⟨0, 9, 12, 19⟩ : ExceptionTableEntry)] (⟨0, 9, 15, 21⟩ : ExceptionTableEntry) [] htab (fun z h => by rw [List.mem_singleton] at h; subst h; exact Or.inr ⟨by decide, _, S.2.2.2.2 _ ul_215, hY.2 2 0 (by decide)⟩) (by decide) (by decide) (S.2.2.2.2 _ ul_216) (hY.1 (u + 2)) hce hcv hcl ?_
      refine lv_astore_n (lv' := [(3, .ref q9), (0, .ref (a 0 0)), (1, .int a0), (2, .ref ao)]) S.1 S.2.1 dL_takeBack_15 rfl hl (by decide) rfl (fun ls hl => ?_)
      refine lv_iconst (v := nI 2) S.1 S.2.1 dL_takeBack_16 (by decide) ?_
      exact W.iret S.1 S.2.1 hr (fun t ht hW => ⟨⟨nI 2, (χ, f), rfl, ⟨rfl, rfl⟩, G1, by rw [ht]; exact hPw, hD1, va_K.moved hW.alike hK⟩, hS1.F ht⟩) hS1.2.2 dL_takeBack_17 (hlocks := hk)
  · obtain ⟨G1, hP1, hD1, -⟩ := hB
    rw [ht] at hP1
    have hPw : va_P D vwCl (wL cI cB cM cL ad6 a G1 ao u f) H1 := lw_P.mpr ⟨hP1, l_out hPo hk1 hao⟩
    subst hpo
    refine lv_i2l S.1 S.2.1 dL_takeBack_7 rfl ?_
    refine va_last S.1 S.2.1 hK hPw (lw_D hD1 hao) hS1 104 3 lw_at rfl (vp_in_nI (n := 0) (by omega) (by omega)) dL_takeBack_8 (fun H2 locs2 hP2 hD2 hS2 => ?_)
    rw [lw_set] at hP2
    refine lv_goto (tgt := 18) S.1 S.2.1 dL_takeBack_9 (by decide) ?_
    refine lv_iconst (v := nI 0) S.1 S.2.1 dL_takeBack_18 (by decide) ?_
    exact W.iret S.1 S.2.1 hr (fun t ht hW => ⟨⟨nI 0, (u, _), rfl, ⟨rfl, rfl, l_upd f _⟩, G1, by rw [ht]; exact hP2, hD1, va_K.moved hW.alike hK⟩, hS2.F ht⟩) hS2.2.2 dL_takeBack_19 (hlocks := hk)
set_option maxHeartbeats 4000000 in
set_option maxRecDepth 100000 in
theorem metL_pass (l : Launch) (hfl : l.stackTraces = false) (D : va_G) (cI cB cM cL : ClassId) (ad6 : Nat → Nat) (a : Nat → Nat → Nat) (A : Nat → Prop) (ao : Nat) (hao : ¬ A ao) (a0 : Int32) (χ : cSt) (f : Nat → Int64) (res : cRes) (hf : fX8_pass a0 χ = some res) (hw : ∀ k, res = .inl k → (wk 0 (nI 1) (nI 2)) k ≠ 0) : Met l yL_pass (Cond.codeWith yL_pass cL_pass 4 (some .int) [(0, 9, 12, 13), (0, 9, 15, 21)] :: WA) rmL (lPc D cI cB cM cL ad6 a A ao χ f [.ref (a 0 0), .int a0, .ref ao]) (lQ D cI cB cM cL ad6 a A ao (wk 0 (nI 1) (nI 2)) χ res) 8 48 (lAw A ao) := by
  refine l_ofWH (cc := cL_pass) (maxL := 4) (ret := some .int) (hh := [(0, 9, 12, 13), (0, 9, 15, 21)]) (by decide) rfl ?_
  intro p e s m args below meth c s₁ B hml hv
  obtain ⟨rfl, ⟨G, hP, hD, hK⟩, hF, hY⟩ := hv
  have hts0 := atoms_spec (ws := Cond.codeWith yL_pass cL_pass 4 (some .int) [(0, 9, 12, 13), (0, 9, 15, 21)] :: WA) B.pre
  have htab : c.exceptionTable.toList = tableOf [(0, 9, 12, 13), (0, 9, 15, 21)] := vx_table (x := yL_pass) B (hts0 _ List.mem_cons_self)
  have S : CallFix p m c cL_pass 4 s _ WA RL := ⟨B.exec, B.bytes, hml, findClass_of_methodNamed B.named, fun w h => hts0 w (List.mem_cons_of_mem _ h)⟩
  have hr := B.returns
  have hk := B.notSynchronized
  have hl := lv_entry [.ref (a 0 0), .int a0, .ref ao] (n := 4) (Nat.le_of_ble_eq_true rfl)
  rw [lg_entry_eq]
  generalize (lg_sl [.ref (a 0 0), .int a0, .ref ao] ++ List.replicate (4 - (lg_sl [.ref (a 0 0), .int a0, .ref ao]).length) Slot.unset).toArray = ls at hl ⊢
  have hl : lv_has ls 4 [(0, .ref (a 0 0)), (1, .int a0), (2, .ref ao)] := hl
  have hS : va_S (lAw A ao) s.heap s.heap [] := va_S.rf
  obtain ⟨hPq, hPo⟩ := lw_P.mp hP
  have K0 : qK D cI cB cM ad6 A s := ⟨hK.sub [0, 1, 2] rfl, hF⟩
  have hs0 : qS D cI cB cM ad6 a A s χ s.heap [] := ⟨G, hPq, hD, va_S.rf⟩
  refine lv_aload_n S.1 S.2.1 dL_pass_0 rfl (lv_at hl 2 rfl) ?_
  refine lv_iconst (v := nI 0) S.1 S.2.1 dL_pass_1 (by decide) ?_
  refine lv_aload_n S.1 S.2.1 dL_pass_2 rfl (lv_at hl 0 rfl) ?_
  refine lv_iload_n S.1 S.2.1 dL_pass_3 rfl (lv_at hl 1 rfl) ?_
  refine vx_calli (vx_runV (As := [.int a0]) (rest := [.int (nI 0), .ref ao]) S (metX8_pass l hfl D cI cB cM ad6 a A a0 χ res hf) (cwL_30 S.2.2.2.2 ⟨Nat.le_of_ble_eq_true rfl, Nat.le_of_ble_eq_true rfl⟩) ⟨qPc_blind _ _ _ _ _ _ _ _ _, qV0 K0 hs0, qPre K0 hs0 _⟩ rfl rfl hl.1 rfl (lv_room (Nat.le_of_ble_eq_true rfl)) dL_pass_4 ⟨Nat.le_of_ble_eq_true rfl, Nat.le_of_ble_eq_true rfl⟩) hS (fun q _ h => Or.inl h) (fun q h => Or.inl h) (fun q _ h => Or.inl h) (fun E ce q9 u t H1 locs ht hvm hpx hBX hz1 hk1 hS1 hce hcv hcl => ?_) (fun r u t H1 locs ht hvm hpo hB hz1 hk1 hS1 => ?_)
  · obtain ⟨rfl, G1, hP1, hD1, -⟩ := hBX
    rw [ht] at hP1
    have hPw : va_P D vwCl (wL cI cB cM cL ad6 a G1 ao χ f) H1 := lw_P.mpr ⟨hP1, l_out hPo hk1 hao⟩
    subst hpx
    have hne := hw u rfl
    match u, hne, hcl with
    | 0, hne, hcl => exact absurd rfl hne
    | 1, hne, hcl =>
      refine vx_catch (E := c_ex 1) S.2.2.2.1 [] (⟨0, 9, 12, 13⟩ : ExceptionTableEntry) [(⟨0, 9, 15, 21⟩ : ExceptionTableEntry)] htab (fun z h => absurd h List.not_mem_nil) (by decide) (by decide) (S.2.2.2.2 _ ul_142) (hY.1 1) hce hcv hcl ?_
      refine lv_astore_n (lv' := [(3, .ref q9), (0, .ref (a 0 0)), (1, .int a0), (2, .ref ao)]) S.1 S.2.1 dL_pass_12 rfl hl (by decide) rfl (fun ls hl => ?_)
      refine lv_iconst (v := nI 1) S.1 S.2.1 dL_pass_13 (by decide) ?_
      exact W.iret S.1 S.2.1 hr (fun t ht hW => ⟨⟨nI 1, (χ, f), rfl, ⟨rfl, rfl⟩, G1, by rw [ht]; exact hPw, hD1, va_K.moved hW.alike hK⟩, hS1.F ht⟩) hS1.2.2 dL_pass_14 (hlocks := hk)
    | u + 2, hne, hcl =>
      refine vx_catch (E := c_ex (u + 2)) S.2.2.2.1 [(⟨0, 9, 12, 13⟩ : ExceptionTableEntry)] (⟨0, 9, 15, 21⟩ : ExceptionTableEntry) [] htab (fun z h => by rw [List.mem_singleton] at h; subst h; exact Or.inr ⟨by decide, _, S.2.2.2.2 _ ul_142, hY.2 2 1 (by decide)⟩) (by decide) (by decide) (S.2.2.2.2 _ ul_216) (hY.1 (u + 2)) hce hcv hcl ?_
      refine lv_astore_n (lv' := [(3, .ref q9), (0, .ref (a 0 0)), (1, .int a0), (2, .ref ao)]) S.1 S.2.1 dL_pass_15 rfl hl (by decide) rfl (fun ls hl => ?_)
      refine lv_iconst (v := nI 2) S.1 S.2.1 dL_pass_16 (by decide) ?_
      exact W.iret S.1 S.2.1 hr (fun t ht hW => ⟨⟨nI 2, (χ, f), rfl, ⟨rfl, rfl⟩, G1, by rw [ht]; exact hPw, hD1, va_K.moved hW.alike hK⟩, hS1.F ht⟩) hS1.2.2 dL_pass_17 (hlocks := hk)
  · obtain ⟨G1, hP1, hD1, -⟩ := hB
    rw [ht] at hP1
    have hPw : va_P D vwCl (wL cI cB cM cL ad6 a G1 ao u f) H1 := lw_P.mpr ⟨hP1, l_out hPo hk1 hao⟩
    subst hpo
    refine lv_i2l S.1 S.2.1 dL_pass_7 rfl ?_
    refine va_last S.1 S.2.1 hK hPw (lw_D hD1 hao) hS1 104 3 lw_at rfl (vp_in_nI (n := 0) (by omega) (by omega)) dL_pass_8 (fun H2 locs2 hP2 hD2 hS2 => ?_)
    rw [lw_set] at hP2
    refine lv_goto (tgt := 18) S.1 S.2.1 dL_pass_9 (by decide) ?_
    refine lv_iconst (v := nI 0) S.1 S.2.1 dL_pass_18 (by decide) ?_
    exact W.iret S.1 S.2.1 hr (fun t ht hW => ⟨⟨nI 0, (u, _), rfl, ⟨rfl, rfl, l_upd f _⟩, G1, by rw [ht]; exact hP2, hD1, va_K.moved hW.alike hK⟩, hS2.F ht⟩) hS2.2.2 dL_pass_19 (hlocks := hk)
set_option maxHeartbeats 4000000 in
set_option maxRecDepth 100000 in
theorem metL_drop (l : Launch) (hfl : l.stackTraces = false) (D : va_G) (cI cB cM cL : ClassId) (ad6 : Nat → Nat) (a : Nat → Nat → Nat) (A : Nat → Prop) (ao : Nat) (hao : ¬ A ao) (a0 : Int32) (a1 : Int32) (χ : cSt) (f : Nat → Int64) (res : cRes) (hf : fX8_drop a0 a1 χ = some res) (hw : ∀ k, res = .inl k → (wk (nI 1) 0 (nI 2)) k ≠ 0) : Met l yL_drop (Cond.codeWith yL_drop cL_drop 5 (some .int) [(0, 10, 13, 19), (0, 10, 17, 21)] :: WA) rmL (lPc D cI cB cM cL ad6 a A ao χ f [.ref (a 0 0), .int a0, .int a1, .ref ao]) (lQ D cI cB cM cL ad6 a A ao (wk (nI 1) 0 (nI 2)) χ res) 8 48 (lAw A ao) := by
  refine l_ofWH (cc := cL_drop) (maxL := 5) (ret := some .int) (hh := [(0, 10, 13, 19), (0, 10, 17, 21)]) (by decide) rfl ?_
  intro p e s m args below meth c s₁ B hml hv
  obtain ⟨rfl, ⟨G, hP, hD, hK⟩, hF, hY⟩ := hv
  have hts0 := atoms_spec (ws := Cond.codeWith yL_drop cL_drop 5 (some .int) [(0, 10, 13, 19), (0, 10, 17, 21)] :: WA) B.pre
  have htab : c.exceptionTable.toList = tableOf [(0, 10, 13, 19), (0, 10, 17, 21)] := vx_table (x := yL_drop) B (hts0 _ List.mem_cons_self)
  have S : CallFix p m c cL_drop 5 s _ WA RL := ⟨B.exec, B.bytes, hml, findClass_of_methodNamed B.named, fun w h => hts0 w (List.mem_cons_of_mem _ h)⟩
  have hr := B.returns
  have hk := B.notSynchronized
  have hl := lv_entry [.ref (a 0 0), .int a0, .int a1, .ref ao] (n := 5) (Nat.le_of_ble_eq_true rfl)
  rw [lg_entry_eq]
  generalize (lg_sl [.ref (a 0 0), .int a0, .int a1, .ref ao] ++ List.replicate (5 - (lg_sl [.ref (a 0 0), .int a0, .int a1, .ref ao]).length) Slot.unset).toArray = ls at hl ⊢
  have hl : lv_has ls 5 [(0, .ref (a 0 0)), (1, .int a0), (2, .int a1), (3, .ref ao)] := hl
  have hS : va_S (lAw A ao) s.heap s.heap [] := va_S.rf
  obtain ⟨hPq, hPo⟩ := lw_P.mp hP
  have K0 : qK D cI cB cM ad6 A s := ⟨hK.sub [0, 1, 2] rfl, hF⟩
  have hs0 : qS D cI cB cM ad6 a A s χ s.heap [] := ⟨G, hPq, hD, va_S.rf⟩
  refine lv_aload_n S.1 S.2.1 dL_drop_0 rfl (lv_at hl 3 rfl) ?_
  refine lv_iconst (v := nI 0) S.1 S.2.1 dL_drop_1 (by decide) ?_
  refine lv_aload_n S.1 S.2.1 dL_drop_2 rfl (lv_at hl 0 rfl) ?_
  refine lv_iload_n S.1 S.2.1 dL_drop_3 rfl (lv_at hl 1 rfl) ?_
  refine lv_iload_n S.1 S.2.1 dL_drop_4 rfl (lv_at hl 2 rfl) ?_
  refine vx_calli (vx_runV (As := [.int a0, .int a1]) (rest := [.int (nI 0), .ref ao]) S (metX8_drop l hfl D cI cB cM ad6 a A a0 a1 χ res hf) (cwL_33 S.2.2.2.2 ⟨Nat.le_of_ble_eq_true rfl, Nat.le_of_ble_eq_true rfl⟩) ⟨qPc_blind _ _ _ _ _ _ _ _ _, qV0 K0 hs0, qPre K0 hs0 _⟩ rfl rfl hl.1 rfl (lv_room (Nat.le_of_ble_eq_true rfl)) dL_drop_5 ⟨Nat.le_of_ble_eq_true rfl, Nat.le_of_ble_eq_true rfl⟩) hS (fun q _ h => Or.inl h) (fun q h => Or.inl h) (fun q _ h => Or.inl h) (fun E ce q9 u t H1 locs ht hvm hpx hBX hz1 hk1 hS1 hce hcv hcl => ?_) (fun r u t H1 locs ht hvm hpo hB hz1 hk1 hS1 => ?_)
  · obtain ⟨rfl, G1, hP1, hD1, -⟩ := hBX
    rw [ht] at hP1
    have hPw : va_P D vwCl (wL cI cB cM cL ad6 a G1 ao χ f) H1 := lw_P.mpr ⟨hP1, l_out hPo hk1 hao⟩
    subst hpx
    have hne := hw u rfl
    match u, hne, hcl with
    | 0, hne, hcl =>
      refine vx_catch (E := c_ex 0) S.2.2.2.1 [] (⟨0, 10, 13, 19⟩ : ExceptionTableEntry) [(⟨0, 10, 17, 21⟩ : ExceptionTableEntry)] htab (fun z h => absurd h List.not_mem_nil) (by decide) (by decide) (S.2.2.2.2 _ ul_215) (hY.1 0) hce hcv hcl ?_
      refine lv_astore (lv' := [(4, .ref q9), (0, .ref (a 0 0)), (1, .int a0), (2, .int a1), (3, .ref ao)]) S.1 S.2.1 dL_drop_13 hl (by decide) rfl (fun ls hl => ?_)
      refine lv_iconst (v := nI 1) S.1 S.2.1 dL_drop_15 (by decide) ?_
      exact W.iret S.1 S.2.1 hr (fun t ht hW => ⟨⟨nI 1, (χ, f), rfl, ⟨rfl, rfl⟩, G1, by rw [ht]; exact hPw, hD1, va_K.moved hW.alike hK⟩, hS1.F ht⟩) hS1.2.2 dL_drop_16 (hlocks := hk)
    | 1, hne, hcl => exact absurd rfl hne
    | u + 2, hne, hcl =>
      refine vx_catch (E := c_ex (u + 2)) S.2.2.2.1 [(⟨0, 10, 13, 19⟩ : ExceptionTableEntry)] (⟨0, 10, 17, 21⟩ : ExceptionTableEntry) [] htab (fun z h => by rw [List.mem_singleton] at h; subst h; exact Or.inr ⟨by decide, _, S.2.2.2.2 _ ul_215, hY.2 2 0 (by decide)⟩) (by decide) (by decide) (S.2.2.2.2 _ ul_216) (hY.1 (u + 2)) hce hcv hcl ?_
      refine lv_astore (lv' := [(4, .ref q9), (0, .ref (a 0 0)), (1, .int a0), (2, .int a1), (3, .ref ao)]) S.1 S.2.1 dL_drop_17 hl (by decide) rfl (fun ls hl => ?_)
      refine lv_iconst (v := nI 2) S.1 S.2.1 dL_drop_19 (by decide) ?_
      exact W.iret S.1 S.2.1 hr (fun t ht hW => ⟨⟨nI 2, (χ, f), rfl, ⟨rfl, rfl⟩, G1, by rw [ht]; exact hPw, hD1, va_K.moved hW.alike hK⟩, hS1.F ht⟩) hS1.2.2 dL_drop_20 (hlocks := hk)
  · obtain ⟨G1, hP1, hD1, -⟩ := hB
    rw [ht] at hP1
    have hPw : va_P D vwCl (wL cI cB cM cL ad6 a G1 ao u f) H1 := lw_P.mpr ⟨hP1, l_out hPo hk1 hao⟩
    subst hpo
    refine lv_i2l S.1 S.2.1 dL_drop_8 rfl ?_
    refine va_last S.1 S.2.1 hK hPw (lw_D hD1 hao) hS1 104 3 lw_at rfl (vp_in_nI (n := 0) (by omega) (by omega)) dL_drop_9 (fun H2 locs2 hP2 hD2 hS2 => ?_)
    rw [lw_set] at hP2
    refine lv_goto (tgt := 21) S.1 S.2.1 dL_drop_10 (by decide) ?_
    refine lv_iconst (v := nI 0) S.1 S.2.1 dL_drop_21 (by decide) ?_
    exact W.iret S.1 S.2.1 hr (fun t ht hW => ⟨⟨nI 0, (u, _), rfl, ⟨rfl, rfl, l_upd f _⟩, G1, by rw [ht]; exact hP2, hD1, va_K.moved hW.alike hK⟩, hS2.F ht⟩) hS2.2.2 dL_drop_22 (hlocks := hk)
set_option maxHeartbeats 4000000 in
set_option maxRecDepth 100000 in
theorem metL_tear (l : Launch) (hfl : l.stackTraces = false) (D : va_G) (cI cB cM cL : ClassId) (ad6 : Nat → Nat) (a : Nat → Nat → Nat) (A : Nat → Prop) (ao : Nat) (hao : ¬ A ao) (a0 : Int32) (χ : cSt) (f : Nat → Int64) (res : cRes) (hf : fX8_tear a0 χ = some res) (hw : ∀ k, res = .inl k → (wk (nI 1) 0 (nI 2)) k ≠ 0) : Met l yL_tear (Cond.codeWith yL_tear cL_tear 4 (some .int) [(0, 9, 12, 19), (0, 9, 15, 21)] :: WA) rmL (lPc D cI cB cM cL ad6 a A ao χ f [.ref (a 0 0), .int a0, .ref ao]) (lQ D cI cB cM cL ad6 a A ao (wk (nI 1) 0 (nI 2)) χ res) 8 48 (lAw A ao) := by
  refine l_ofWH (cc := cL_tear) (maxL := 4) (ret := some .int) (hh := [(0, 9, 12, 19), (0, 9, 15, 21)]) (by decide) rfl ?_
  intro p e s m args below meth c s₁ B hml hv
  obtain ⟨rfl, ⟨G, hP, hD, hK⟩, hF, hY⟩ := hv
  have hts0 := atoms_spec (ws := Cond.codeWith yL_tear cL_tear 4 (some .int) [(0, 9, 12, 19), (0, 9, 15, 21)] :: WA) B.pre
  have htab : c.exceptionTable.toList = tableOf [(0, 9, 12, 19), (0, 9, 15, 21)] := vx_table (x := yL_tear) B (hts0 _ List.mem_cons_self)
  have S : CallFix p m c cL_tear 4 s _ WA RL := ⟨B.exec, B.bytes, hml, findClass_of_methodNamed B.named, fun w h => hts0 w (List.mem_cons_of_mem _ h)⟩
  have hr := B.returns
  have hk := B.notSynchronized
  have hl := lv_entry [.ref (a 0 0), .int a0, .ref ao] (n := 4) (Nat.le_of_ble_eq_true rfl)
  rw [lg_entry_eq]
  generalize (lg_sl [.ref (a 0 0), .int a0, .ref ao] ++ List.replicate (4 - (lg_sl [.ref (a 0 0), .int a0, .ref ao]).length) Slot.unset).toArray = ls at hl ⊢
  have hl : lv_has ls 4 [(0, .ref (a 0 0)), (1, .int a0), (2, .ref ao)] := hl
  have hS : va_S (lAw A ao) s.heap s.heap [] := va_S.rf
  obtain ⟨hPq, hPo⟩ := lw_P.mp hP
  have K0 : qK D cI cB cM ad6 A s := ⟨hK.sub [0, 1, 2] rfl, hF⟩
  have hs0 : qS D cI cB cM ad6 a A s χ s.heap [] := ⟨G, hPq, hD, va_S.rf⟩
  refine lv_aload_n S.1 S.2.1 dL_tear_0 rfl (lv_at hl 2 rfl) ?_
  refine lv_iconst (v := nI 0) S.1 S.2.1 dL_tear_1 (by decide) ?_
  refine lv_aload_n S.1 S.2.1 dL_tear_2 rfl (lv_at hl 0 rfl) ?_
  refine lv_iload_n S.1 S.2.1 dL_tear_3 rfl (lv_at hl 1 rfl) ?_
  refine vx_calli (vx_runV (As := [.int a0]) (rest := [.int (nI 0), .ref ao]) S (metX8_tear l hfl D cI cB cM ad6 a A a0 χ res hf) (cwL_36 S.2.2.2.2 ⟨Nat.le_of_ble_eq_true rfl, Nat.le_of_ble_eq_true rfl⟩) ⟨qPc_blind _ _ _ _ _ _ _ _ _, qV0 K0 hs0, qPre K0 hs0 _⟩ rfl rfl hl.1 rfl (lv_room (Nat.le_of_ble_eq_true rfl)) dL_tear_4 ⟨Nat.le_of_ble_eq_true rfl, Nat.le_of_ble_eq_true rfl⟩) hS (fun q _ h => Or.inl h) (fun q h => Or.inl h) (fun q _ h => Or.inl h) (fun E ce q9 u t H1 locs ht hvm hpx hBX hz1 hk1 hS1 hce hcv hcl => ?_) (fun r u t H1 locs ht hvm hpo hB hz1 hk1 hS1 => ?_)
  · obtain ⟨rfl, G1, hP1, hD1, -⟩ := hBX
    rw [ht] at hP1
    have hPw : va_P D vwCl (wL cI cB cM cL ad6 a G1 ao χ f) H1 := lw_P.mpr ⟨hP1, l_out hPo hk1 hao⟩
    subst hpx
    have hne := hw u rfl
    match u, hne, hcl with
    | 0, hne, hcl =>
      refine vx_catch (E := c_ex 0) S.2.2.2.1 [] (⟨0, 9, 12, 19⟩ : ExceptionTableEntry) [(⟨0, 9, 15, 21⟩ : ExceptionTableEntry)] htab (fun z h => absurd h List.not_mem_nil) (by decide) (by decide) (S.2.2.2.2 _ ul_215) (hY.1 0) hce hcv hcl ?_
      refine lv_astore_n (lv' := [(3, .ref q9), (0, .ref (a 0 0)), (1, .int a0), (2, .ref ao)]) S.1 S.2.1 dL_tear_12 rfl hl (by decide) rfl (fun ls hl => ?_)
      refine lv_iconst (v := nI 1) S.1 S.2.1 dL_tear_13 (by decide) ?_
      exact W.iret S.1 S.2.1 hr (fun t ht hW => ⟨⟨nI 1, (χ, f), rfl, ⟨rfl, rfl⟩, G1, by rw [ht]; exact hPw, hD1, va_K.moved hW.alike hK⟩, hS1.F ht⟩) hS1.2.2 dL_tear_14 (hlocks := hk)
    | 1, hne, hcl => exact absurd rfl hne
    | u + 2, hne, hcl =>
      refine vx_catch (E := c_ex (u + 2)) S.2.2.2.1 [(⟨0, 9, 12, 19⟩ : ExceptionTableEntry)] (⟨0, 9, 15, 21⟩ : ExceptionTableEntry) [] htab (fun z h => by rw [List.mem_singleton] at h; subst h; exact Or.inr ⟨by decide, _, S.2.2.2.2 _ ul_215, hY.2 2 0 (by decide)⟩) (by decide) (by decide) (S.2.2.2.2 _ ul_216) (hY.1 (u + 2)) hce hcv hcl ?_
      refine lv_astore_n (lv' := [(3, .ref q9), (0, .ref (a 0 0)), (1, .int a0), (2, .ref ao)]) S.1 S.2.1 dL_tear_15 rfl hl (by decide) rfl (fun ls hl => ?_)
      refine lv_iconst (v := nI 2) S.1 S.2.1 dL_tear_16 (by decide) ?_
      exact W.iret S.1 S.2.1 hr (fun t ht hW => ⟨⟨nI 2, (χ, f), rfl, ⟨rfl, rfl⟩, G1, by rw [ht]; exact hPw, hD1, va_K.moved hW.alike hK⟩, hS1.F ht⟩) hS1.2.2 dL_tear_17 (hlocks := hk)
  · obtain ⟨G1, hP1, hD1, -⟩ := hB
    rw [ht] at hP1
    have hPw : va_P D vwCl (wL cI cB cM cL ad6 a G1 ao u f) H1 := lw_P.mpr ⟨hP1, l_out hPo hk1 hao⟩
    subst hpo
    refine lv_i2l S.1 S.2.1 dL_tear_7 rfl ?_
    refine va_last S.1 S.2.1 hK hPw (lw_D hD1 hao) hS1 104 3 lw_at rfl (vp_in_nI (n := 0) (by omega) (by omega)) dL_tear_8 (fun H2 locs2 hP2 hD2 hS2 => ?_)
    rw [lw_set] at hP2
    refine lv_goto (tgt := 18) S.1 S.2.1 dL_tear_9 (by decide) ?_
    refine lv_iconst (v := nI 0) S.1 S.2.1 dL_tear_18 (by decide) ?_
    exact W.iret S.1 S.2.1 hr (fun t ht hW => ⟨⟨nI 0, (u, _), rfl, ⟨rfl, rfl, l_upd f _⟩, G1, by rw [ht]; exact hP2, hD1, va_K.moved hW.alike hK⟩, hS2.F ht⟩) hS2.2.2 dL_tear_19 (hlocks := hk)
set_option maxHeartbeats 4000000 in
set_option maxRecDepth 100000 in
theorem metL_copy (l : Launch) (hfl : l.stackTraces = false) (D : va_G) (cI cB cM cL : ClassId) (ad6 : Nat → Nat) (a : Nat → Nat → Nat) (A : Nat → Prop) (ao : Nat) (hao : ¬ A ao) (a0 : Int32) (a1 : Int32) (a2 : Int32) (χ : cSt) (f : Nat → Int64) (res : cRes) (hf : fX8_copy a0 a1 a2 χ = some res) (hw : ∀ k, res = .inl k → (wk (nI 1) (nI 2) 0) k ≠ 0) : Met l yL_copy (Cond.codeWith yL_copy cL_copy 6 (some .int) [(0, 12, 15, 19), (0, 12, 19, 13)] :: WA) rmL (lPc D cI cB cM cL ad6 a A ao χ f [.ref (a 0 0), .int a0, .int a1, .int a2, .ref ao]) (lQ D cI cB cM cL ad6 a A ao (wk (nI 1) (nI 2) 0) χ res) 8 48 (lAw A ao) := by
  refine l_ofWH (cc := cL_copy) (maxL := 6) (ret := some .int) (hh := [(0, 12, 15, 19), (0, 12, 19, 13)]) (by decide) rfl ?_
  intro p e s m args below meth c s₁ B hml hv
  obtain ⟨rfl, ⟨G, hP, hD, hK⟩, hF, hY⟩ := hv
  have hts0 := atoms_spec (ws := Cond.codeWith yL_copy cL_copy 6 (some .int) [(0, 12, 15, 19), (0, 12, 19, 13)] :: WA) B.pre
  have htab : c.exceptionTable.toList = tableOf [(0, 12, 15, 19), (0, 12, 19, 13)] := vx_table (x := yL_copy) B (hts0 _ List.mem_cons_self)
  have S : CallFix p m c cL_copy 6 s _ WA RL := ⟨B.exec, B.bytes, hml, findClass_of_methodNamed B.named, fun w h => hts0 w (List.mem_cons_of_mem _ h)⟩
  have hr := B.returns
  have hk := B.notSynchronized
  have hl := lv_entry [.ref (a 0 0), .int a0, .int a1, .int a2, .ref ao] (n := 6) (Nat.le_of_ble_eq_true rfl)
  rw [lg_entry_eq]
  generalize (lg_sl [.ref (a 0 0), .int a0, .int a1, .int a2, .ref ao] ++ List.replicate (6 - (lg_sl [.ref (a 0 0), .int a0, .int a1, .int a2, .ref ao]).length) Slot.unset).toArray = ls at hl ⊢
  have hl : lv_has ls 6 [(0, .ref (a 0 0)), (1, .int a0), (2, .int a1), (3, .int a2), (4, .ref ao)] := hl
  have hS : va_S (lAw A ao) s.heap s.heap [] := va_S.rf
  obtain ⟨hPq, hPo⟩ := lw_P.mp hP
  have K0 : qK D cI cB cM ad6 A s := ⟨hK.sub [0, 1, 2] rfl, hF⟩
  have hs0 : qS D cI cB cM ad6 a A s χ s.heap [] := ⟨G, hPq, hD, va_S.rf⟩
  refine lv_aload S.1 S.2.1 dL_copy_0 (lv_at hl 4 rfl) ?_
  refine lv_iconst (v := nI 0) S.1 S.2.1 dL_copy_2 (by decide) ?_
  refine lv_aload_n S.1 S.2.1 dL_copy_3 rfl (lv_at hl 0 rfl) ?_
  refine lv_iload_n S.1 S.2.1 dL_copy_4 rfl (lv_at hl 1 rfl) ?_
  refine lv_iload_n S.1 S.2.1 dL_copy_5 rfl (lv_at hl 2 rfl) ?_
  refine lv_iload_n S.1 S.2.1 dL_copy_6 rfl (lv_at hl 3 rfl) ?_
  refine vx_calli (vx_runV (As := [.int a0, .int a1, .int a2]) (rest := [.int (nI 0), .ref ao]) S (metX8_copy l hfl D cI cB cM ad6 a A a0 a1 a2 χ res hf) (cwL_39 S.2.2.2.2 ⟨Nat.le_of_ble_eq_true rfl, Nat.le_of_ble_eq_true rfl⟩) ⟨qPc_blind _ _ _ _ _ _ _ _ _, qV0 K0 hs0, qPre K0 hs0 _⟩ rfl rfl hl.1 rfl (lv_room (Nat.le_of_ble_eq_true rfl)) dL_copy_7 ⟨Nat.le_of_ble_eq_true rfl, Nat.le_of_ble_eq_true rfl⟩) hS (fun q _ h => Or.inl h) (fun q h => Or.inl h) (fun q _ h => Or.inl h) (fun E ce q9 u t H1 locs ht hvm hpx hBX hz1 hk1 hS1 hce hcv hcl => ?_) (fun r u t H1 locs ht hvm hpo hB hz1 hk1 hS1 => ?_)
  · obtain ⟨rfl, G1, hP1, hD1, -⟩ := hBX
    rw [ht] at hP1
    have hPw : va_P D vwCl (wL cI cB cM cL ad6 a G1 ao χ f) H1 := lw_P.mpr ⟨hP1, l_out hPo hk1 hao⟩
    subst hpx
    have hne := hw u rfl
    match u, hne, hcl with
    | 0, hne, hcl =>
      refine vx_catch (E := c_ex 0) S.2.2.2.1 [] (⟨0, 12, 15, 19⟩ : ExceptionTableEntry) [(⟨0, 12, 19, 13⟩ : ExceptionTableEntry)] htab (fun z h => absurd h List.not_mem_nil) (by decide) (by decide) (S.2.2.2.2 _ ul_215) (hY.1 0) hce hcv hcl ?_
      refine lv_astore (lv' := [(5, .ref q9), (0, .ref (a 0 0)), (1, .int a0), (2, .int a1), (3, .int a2), (4, .ref ao)]) S.1 S.2.1 dL_copy_15 hl (by decide) rfl (fun ls hl => ?_)
      refine lv_iconst (v := nI 1) S.1 S.2.1 dL_copy_17 (by decide) ?_
      exact W.iret S.1 S.2.1 hr (fun t ht hW => ⟨⟨nI 1, (χ, f), rfl, ⟨rfl, rfl⟩, G1, by rw [ht]; exact hPw, hD1, va_K.moved hW.alike hK⟩, hS1.F ht⟩) hS1.2.2 dL_copy_18 (hlocks := hk)
    | 1, hne, hcl =>
      refine vx_catch (E := c_ex 1) S.2.2.2.1 [(⟨0, 12, 15, 19⟩ : ExceptionTableEntry)] (⟨0, 12, 19, 13⟩ : ExceptionTableEntry) [] htab (fun z h => by rw [List.mem_singleton] at h; subst h; exact Or.inr ⟨by decide, _, S.2.2.2.2 _ ul_215, hY.2 1 0 (by decide)⟩) (by decide) (by decide) (S.2.2.2.2 _ ul_142) (hY.1 1) hce hcv hcl ?_
      refine lv_astore (lv' := [(5, .ref q9), (0, .ref (a 0 0)), (1, .int a0), (2, .int a1), (3, .int a2), (4, .ref ao)]) S.1 S.2.1 dL_copy_19 hl (by decide) rfl (fun ls hl => ?_)
      refine lv_iconst (v := nI 2) S.1 S.2.1 dL_copy_21 (by decide) ?_
      exact W.iret S.1 S.2.1 hr (fun t ht hW => ⟨⟨nI 2, (χ, f), rfl, ⟨rfl, rfl⟩, G1, by rw [ht]; exact hPw, hD1, va_K.moved hW.alike hK⟩, hS1.F ht⟩) hS1.2.2 dL_copy_22 (hlocks := hk)
    | u + 2, hne, hcl => exact absurd rfl hne
  · obtain ⟨G1, hP1, hD1, -⟩ := hB
    rw [ht] at hP1
    have hPw : va_P D vwCl (wL cI cB cM cL ad6 a G1 ao u f) H1 := lw_P.mpr ⟨hP1, l_out hPo hk1 hao⟩
    subst hpo
    refine lv_i2l S.1 S.2.1 dL_copy_10 rfl ?_
    refine va_last S.1 S.2.1 hK hPw (lw_D hD1 hao) hS1 104 3 lw_at rfl (vp_in_nI (n := 0) (by omega) (by omega)) dL_copy_11 (fun H2 locs2 hP2 hD2 hS2 => ?_)
    rw [lw_set] at hP2
    refine lv_goto (tgt := 23) S.1 S.2.1 dL_copy_12 (by decide) ?_
    refine lv_iconst (v := nI 0) S.1 S.2.1 dL_copy_23 (by decide) ?_
    exact W.iret S.1 S.2.1 hr (fun t ht hW => ⟨⟨nI 0, (u, _), rfl, ⟨rfl, rfl, l_upd f _⟩, G1, by rw [ht]; exact hP2, hD1, va_K.moved hW.alike hK⟩, hS2.F ht⟩) hS2.2.2 dL_copy_24 (hlocks := hk)
set_option maxHeartbeats 4000000 in
set_option maxRecDepth 100000 in
theorem metL_line (l : Launch) (hfl : l.stackTraces = false) (D : va_G) (cI cB cM cL : ClassId) (ad6 : Nat → Nat) (a : Nat → Nat → Nat) (A : Nat → Prop) (ao : Nat) (hao : ¬ A ao) (a0 : Int32) (a1 : Int32) (χ : cSt) (f : Nat → Int64) (res : cRes) (hf : fX8_line a0 a1 χ = some res) (hw : ∀ k, res = .inl k → (wk (nI 1) (nI 2) 0) k ≠ 0) : Met l yL_line (Cond.codeWith yL_line cL_line 5 (some .int) [(0, 10, 13, 19), (0, 10, 17, 13)] :: WA) rmL (lPc D cI cB cM cL ad6 a A ao χ f [.ref (a 0 0), .int a0, .int a1, .ref ao]) (lQ D cI cB cM cL ad6 a A ao (wk (nI 1) (nI 2) 0) χ res) 8 48 (lAw A ao) := by
  refine l_ofWH (cc := cL_line) (maxL := 5) (ret := some .int) (hh := [(0, 10, 13, 19), (0, 10, 17, 13)]) (by decide) rfl ?_
  intro p e s m args below meth c s₁ B hml hv
  obtain ⟨rfl, ⟨G, hP, hD, hK⟩, hF, hY⟩ := hv
  have hts0 := atoms_spec (ws := Cond.codeWith yL_line cL_line 5 (some .int) [(0, 10, 13, 19), (0, 10, 17, 13)] :: WA) B.pre
  have htab : c.exceptionTable.toList = tableOf [(0, 10, 13, 19), (0, 10, 17, 13)] := vx_table (x := yL_line) B (hts0 _ List.mem_cons_self)
  have S : CallFix p m c cL_line 5 s _ WA RL := ⟨B.exec, B.bytes, hml, findClass_of_methodNamed B.named, fun w h => hts0 w (List.mem_cons_of_mem _ h)⟩
  have hr := B.returns
  have hk := B.notSynchronized
  have hl := lv_entry [.ref (a 0 0), .int a0, .int a1, .ref ao] (n := 5) (Nat.le_of_ble_eq_true rfl)
  rw [lg_entry_eq]
  generalize (lg_sl [.ref (a 0 0), .int a0, .int a1, .ref ao] ++ List.replicate (5 - (lg_sl [.ref (a 0 0), .int a0, .int a1, .ref ao]).length) Slot.unset).toArray = ls at hl ⊢
  have hl : lv_has ls 5 [(0, .ref (a 0 0)), (1, .int a0), (2, .int a1), (3, .ref ao)] := hl
  have hS : va_S (lAw A ao) s.heap s.heap [] := va_S.rf
  obtain ⟨hPq, hPo⟩ := lw_P.mp hP
  have K0 : qK D cI cB cM ad6 A s := ⟨hK.sub [0, 1, 2] rfl, hF⟩
  have hs0 : qS D cI cB cM ad6 a A s χ s.heap [] := ⟨G, hPq, hD, va_S.rf⟩
  refine lv_aload_n S.1 S.2.1 dL_line_0 rfl (lv_at hl 3 rfl) ?_
  refine lv_iconst (v := nI 0) S.1 S.2.1 dL_line_1 (by decide) ?_
  refine lv_aload_n S.1 S.2.1 dL_line_2 rfl (lv_at hl 0 rfl) ?_
  refine lv_iload_n S.1 S.2.1 dL_line_3 rfl (lv_at hl 1 rfl) ?_
  refine lv_iload_n S.1 S.2.1 dL_line_4 rfl (lv_at hl 2 rfl) ?_
  refine vx_calli (vx_runV (As := [.int a0, .int a1]) (rest := [.int (nI 0), .ref ao]) S (metX8_line l hfl D cI cB cM ad6 a A a0 a1 χ res hf) (cwL_42 S.2.2.2.2 ⟨Nat.le_of_ble_eq_true rfl, Nat.le_of_ble_eq_true rfl⟩) ⟨qPc_blind _ _ _ _ _ _ _ _ _, qV0 K0 hs0, qPre K0 hs0 _⟩ rfl rfl hl.1 rfl (lv_room (Nat.le_of_ble_eq_true rfl)) dL_line_5 ⟨Nat.le_of_ble_eq_true rfl, Nat.le_of_ble_eq_true rfl⟩) hS (fun q _ h => Or.inl h) (fun q h => Or.inl h) (fun q _ h => Or.inl h) (fun E ce q9 u t H1 locs ht hvm hpx hBX hz1 hk1 hS1 hce hcv hcl => ?_) (fun r u t H1 locs ht hvm hpo hB hz1 hk1 hS1 => ?_)
  · obtain ⟨rfl, G1, hP1, hD1, -⟩ := hBX
    rw [ht] at hP1
    have hPw : va_P D vwCl (wL cI cB cM cL ad6 a G1 ao χ f) H1 := lw_P.mpr ⟨hP1, l_out hPo hk1 hao⟩
    subst hpx
    have hne := hw u rfl
    match u, hne, hcl with
    | 0, hne, hcl =>
      refine vx_catch (E := c_ex 0) S.2.2.2.1 [] (⟨0, 10, 13, 19⟩ : ExceptionTableEntry) [(⟨0, 10, 17, 13⟩ : ExceptionTableEntry)] htab (fun z h => absurd h List.not_mem_nil) (by decide) (by decide) (S.2.2.2.2 _ ul_215) (hY.1 0) hce hcv hcl ?_
      refine lv_astore (lv' := [(4, .ref q9), (0, .ref (a 0 0)), (1, .int a0), (2, .int a1), (3, .ref ao)]) S.1 S.2.1 dL_line_13 hl (by decide) rfl (fun ls hl => ?_)
      refine lv_iconst (v := nI 1) S.1 S.2.1 dL_line_15 (by decide) ?_
      exact W.iret S.1 S.2.1 hr (fun t ht hW => ⟨⟨nI 1, (χ, f), rfl, ⟨rfl, rfl⟩, G1, by rw [ht]; exact hPw, hD1, va_K.moved hW.alike hK⟩, hS1.F ht⟩) hS1.2.2 dL_line_16 (hlocks := hk)
    | 1, hne, hcl =>
      refine vx_catch (E := c_ex 1) S.2.2.2.1 [(⟨0, 10, 13, 19⟩ : ExceptionTableEntry)] (⟨0, 10, 17, 13⟩ : ExceptionTableEntry) [] htab (fun z h => by rw [List.mem_singleton] at h; subst h; exact Or.inr ⟨by decide, _, S.2.2.2.2 _ ul_215, hY.2 1 0 (by decide)⟩) (by decide) (by decide) (S.2.2.2.2 _ ul_142) (hY.1 1) hce hcv hcl ?_
      refine lv_astore (lv' := [(4, .ref q9), (0, .ref (a 0 0)), (1, .int a0), (2, .int a1), (3, .ref ao)]) S.1 S.2.1 dL_line_17 hl (by decide) rfl (fun ls hl => ?_)
      refine lv_iconst (v := nI 2) S.1 S.2.1 dL_line_19 (by decide) ?_
      exact W.iret S.1 S.2.1 hr (fun t ht hW => ⟨⟨nI 2, (χ, f), rfl, ⟨rfl, rfl⟩, G1, by rw [ht]; exact hPw, hD1, va_K.moved hW.alike hK⟩, hS1.F ht⟩) hS1.2.2 dL_line_20 (hlocks := hk)
    | u + 2, hne, hcl => exact absurd rfl hne
  · obtain ⟨G1, hP1, hD1, -⟩ := hB
    rw [ht] at hP1
    have hPw : va_P D vwCl (wL cI cB cM cL ad6 a G1 ao u f) H1 := lw_P.mpr ⟨hP1, l_out hPo hk1 hao⟩
    subst hpo
    refine lv_i2l S.1 S.2.1 dL_line_8 rfl ?_
    refine va_last S.1 S.2.1 hK hPw (lw_D hD1 hao) hS1 104 3 lw_at rfl (vp_in_nI (n := 0) (by omega) (by omega)) dL_line_9 (fun H2 locs2 hP2 hD2 hS2 => ?_)
    rw [lw_set] at hP2
    refine lv_goto (tgt := 21) S.1 S.2.1 dL_line_10 (by decide) ?_
    refine lv_iconst (v := nI 0) S.1 S.2.1 dL_line_21 (by decide) ?_
    exact W.iret S.1 S.2.1 hr (fun t ht hW => ⟨⟨nI 0, (u, _), rfl, ⟨rfl, rfl, l_upd f _⟩, G1, by rw [ht]; exact hP2, hD1, va_K.moved hW.alike hK⟩, hS2.F ht⟩) hS2.2.2 dL_line_22 (hlocks := hk)
set_option maxHeartbeats 4000000 in
set_option maxRecDepth 100000 in
theorem metL_pending (l : Launch) (hfl : l.stackTraces = false) (D : va_G) (cI cB cM cL : ClassId) (ad6 : Nat → Nat) (a : Nat → Nat → Nat) (A : Nat → Prop) (ao : Nat) (hao : ¬ A ao) (a0 : Int32) (a1 : Int32) (χ : cSt) (f : Nat → Int64) (res : cRes) (hf : fX8_pending a0 a1 χ = some res) (hw : ∀ k, res = .inl k → (wk (nI 1) (nI 2) 0) k ≠ 0) : Met l yL_pending (Cond.codeWith yL_pending cL_pending 5 (some .int) [(0, 10, 13, 19), (0, 10, 17, 13)] :: WA) rmL (lPc D cI cB cM cL ad6 a A ao χ f [.ref (a 0 0), .int a0, .int a1, .ref ao]) (lQ D cI cB cM cL ad6 a A ao (wk (nI 1) (nI 2) 0) χ res) 8 48 (lAw A ao) := by
  refine l_ofWH (cc := cL_pending) (maxL := 5) (ret := some .int) (hh := [(0, 10, 13, 19), (0, 10, 17, 13)]) (by decide) rfl ?_
  intro p e s m args below meth c s₁ B hml hv
  obtain ⟨rfl, ⟨G, hP, hD, hK⟩, hF, hY⟩ := hv
  have hts0 := atoms_spec (ws := Cond.codeWith yL_pending cL_pending 5 (some .int) [(0, 10, 13, 19), (0, 10, 17, 13)] :: WA) B.pre
  have htab : c.exceptionTable.toList = tableOf [(0, 10, 13, 19), (0, 10, 17, 13)] := vx_table (x := yL_pending) B (hts0 _ List.mem_cons_self)
  have S : CallFix p m c cL_pending 5 s _ WA RL := ⟨B.exec, B.bytes, hml, findClass_of_methodNamed B.named, fun w h => hts0 w (List.mem_cons_of_mem _ h)⟩
  have hr := B.returns
  have hk := B.notSynchronized
  have hl := lv_entry [.ref (a 0 0), .int a0, .int a1, .ref ao] (n := 5) (Nat.le_of_ble_eq_true rfl)
  rw [lg_entry_eq]
  generalize (lg_sl [.ref (a 0 0), .int a0, .int a1, .ref ao] ++ List.replicate (5 - (lg_sl [.ref (a 0 0), .int a0, .int a1, .ref ao]).length) Slot.unset).toArray = ls at hl ⊢
  have hl : lv_has ls 5 [(0, .ref (a 0 0)), (1, .int a0), (2, .int a1), (3, .ref ao)] := hl
  have hS : va_S (lAw A ao) s.heap s.heap [] := va_S.rf
  obtain ⟨hPq, hPo⟩ := lw_P.mp hP
  have K0 : qK D cI cB cM ad6 A s := ⟨hK.sub [0, 1, 2] rfl, hF⟩
  have hs0 : qS D cI cB cM ad6 a A s χ s.heap [] := ⟨G, hPq, hD, va_S.rf⟩
  refine lv_aload_n S.1 S.2.1 dL_pending_0 rfl (lv_at hl 3 rfl) ?_
  refine lv_iconst (v := nI 0) S.1 S.2.1 dL_pending_1 (by decide) ?_
  refine lv_aload_n S.1 S.2.1 dL_pending_2 rfl (lv_at hl 0 rfl) ?_
  refine lv_iload_n S.1 S.2.1 dL_pending_3 rfl (lv_at hl 1 rfl) ?_
  refine lv_iload_n S.1 S.2.1 dL_pending_4 rfl (lv_at hl 2 rfl) ?_
  refine vx_calli (vx_runV (As := [.int a0, .int a1]) (rest := [.int (nI 0), .ref ao]) S (metX8_pending l hfl D cI cB cM ad6 a A a0 a1 χ res hf) (cwL_45 S.2.2.2.2 ⟨Nat.le_of_ble_eq_true rfl, Nat.le_of_ble_eq_true rfl⟩) ⟨qPc_blind _ _ _ _ _ _ _ _ _, qV0 K0 hs0, qPre K0 hs0 _⟩ rfl rfl hl.1 rfl (lv_room (Nat.le_of_ble_eq_true rfl)) dL_pending_5 ⟨Nat.le_of_ble_eq_true rfl, Nat.le_of_ble_eq_true rfl⟩) hS (fun q _ h => Or.inl h) (fun q h => Or.inl h) (fun q _ h => Or.inl h) (fun E ce q9 u t H1 locs ht hvm hpx hBX hz1 hk1 hS1 hce hcv hcl => ?_) (fun r u t H1 locs ht hvm hpo hB hz1 hk1 hS1 => ?_)
  · obtain ⟨rfl, G1, hP1, hD1, -⟩ := hBX
    rw [ht] at hP1
    have hPw : va_P D vwCl (wL cI cB cM cL ad6 a G1 ao χ f) H1 := lw_P.mpr ⟨hP1, l_out hPo hk1 hao⟩
    subst hpx
    have hne := hw u rfl
    match u, hne, hcl with
    | 0, hne, hcl =>
      refine vx_catch (E := c_ex 0) S.2.2.2.1 [] (⟨0, 10, 13, 19⟩ : ExceptionTableEntry) [(⟨0, 10, 17, 13⟩ : ExceptionTableEntry)] htab (fun z h => absurd h List.not_mem_nil) (by decide) (by decide) (S.2.2.2.2 _ ul_215) (hY.1 0) hce hcv hcl ?_
      refine lv_astore (lv' := [(4, .ref q9), (0, .ref (a 0 0)), (1, .int a0), (2, .int a1), (3, .ref ao)]) S.1 S.2.1 dL_pending_13 hl (by decide) rfl (fun ls hl => ?_)
      refine lv_iconst (v := nI 1) S.1 S.2.1 dL_pending_15 (by decide) ?_
      exact W.iret S.1 S.2.1 hr (fun t ht hW => ⟨⟨nI 1, (χ, f), rfl, ⟨rfl, rfl⟩, G1, by rw [ht]; exact hPw, hD1, va_K.moved hW.alike hK⟩, hS1.F ht⟩) hS1.2.2 dL_pending_16 (hlocks := hk)
    | 1, hne, hcl =>
      refine vx_catch (E := c_ex 1) S.2.2.2.1 [(⟨0, 10, 13, 19⟩ : ExceptionTableEntry)] (⟨0, 10, 17, 13⟩ : ExceptionTableEntry) [] htab (fun z h => by rw [List.mem_singleton] at h; subst h; exact Or.inr ⟨by decide, _, S.2.2.2.2 _ ul_215, hY.2 1 0 (by decide)⟩) (by decide) (by decide) (S.2.2.2.2 _ ul_142) (hY.1 1) hce hcv hcl ?_
      refine lv_astore (lv' := [(4, .ref q9), (0, .ref (a 0 0)), (1, .int a0), (2, .int a1), (3, .ref ao)]) S.1 S.2.1 dL_pending_17 hl (by decide) rfl (fun ls hl => ?_)
      refine lv_iconst (v := nI 2) S.1 S.2.1 dL_pending_19 (by decide) ?_
      exact W.iret S.1 S.2.1 hr (fun t ht hW => ⟨⟨nI 2, (χ, f), rfl, ⟨rfl, rfl⟩, G1, by rw [ht]; exact hPw, hD1, va_K.moved hW.alike hK⟩, hS1.F ht⟩) hS1.2.2 dL_pending_20 (hlocks := hk)
    | u + 2, hne, hcl => exact absurd rfl hne
  · obtain ⟨G1, hP1, hD1, -⟩ := hB
    rw [ht] at hP1
    have hPw : va_P D vwCl (wL cI cB cM cL ad6 a G1 ao u f) H1 := lw_P.mpr ⟨hP1, l_out hPo hk1 hao⟩
    subst hpo
    refine lv_i2l S.1 S.2.1 dL_pending_8 rfl ?_
    refine va_last S.1 S.2.1 hK hPw (lw_D hD1 hao) hS1 104 3 lw_at rfl (vp_in_nI (n := 0) (by omega) (by omega)) dL_pending_9 (fun H2 locs2 hP2 hD2 hS2 => ?_)
    rw [lw_set] at hP2
    refine lv_goto (tgt := 21) S.1 S.2.1 dL_pending_10 (by decide) ?_
    refine lv_iconst (v := nI 0) S.1 S.2.1 dL_pending_21 (by decide) ?_
    exact W.iret S.1 S.2.1 hr (fun t ht hW => ⟨⟨nI 0, (u, _), rfl, ⟨rfl, rfl, l_upd f _⟩, G1, by rw [ht]; exact hP2, hD1, va_K.moved hW.alike hK⟩, hS2.F ht⟩) hS2.2.2 dL_pending_22 (hlocks := hk)
set_option maxHeartbeats 4000000 in
set_option maxRecDepth 100000 in
theorem metL_entry (l : Launch) (hfl : l.stackTraces = false) (D : va_G) (cI cB cM cL : ClassId) (ad6 : Nat → Nat) (a : Nat → Nat → Nat) (A : Nat → Prop) (ao : Nat) (hao : ¬ A ao) (a0 : Int32) (a1 : Int32) (χ : cSt) (f : Nat → Int64) (res : cRes) (hf : fX8_entry a0 a1 χ = some res) (hw : ∀ k, res = .inl k → (wk (nI 1) (nI 2) 0) k ≠ 0) : Met l yL_entry (Cond.codeWith yL_entry cL_entry 5 (some .int) [(0, 10, 13, 19), (0, 10, 17, 13)] :: WA) rmL (lPc D cI cB cM cL ad6 a A ao χ f [.ref (a 0 0), .int a0, .int a1, .ref ao]) (lQ D cI cB cM cL ad6 a A ao (wk (nI 1) (nI 2) 0) χ res) 8 48 (lAw A ao) := by
  refine l_ofWH (cc := cL_entry) (maxL := 5) (ret := some .int) (hh := [(0, 10, 13, 19), (0, 10, 17, 13)]) (by decide) rfl ?_
  intro p e s m args below meth c s₁ B hml hv
  obtain ⟨rfl, ⟨G, hP, hD, hK⟩, hF, hY⟩ := hv
  have hts0 := atoms_spec (ws := Cond.codeWith yL_entry cL_entry 5 (some .int) [(0, 10, 13, 19), (0, 10, 17, 13)] :: WA) B.pre
  have htab : c.exceptionTable.toList = tableOf [(0, 10, 13, 19), (0, 10, 17, 13)] := vx_table (x := yL_entry) B (hts0 _ List.mem_cons_self)
  have S : CallFix p m c cL_entry 5 s _ WA RL := ⟨B.exec, B.bytes, hml, findClass_of_methodNamed B.named, fun w h => hts0 w (List.mem_cons_of_mem _ h)⟩
  have hr := B.returns
  have hk := B.notSynchronized
  have hl := lv_entry [.ref (a 0 0), .int a0, .int a1, .ref ao] (n := 5) (Nat.le_of_ble_eq_true rfl)
  rw [lg_entry_eq]
  generalize (lg_sl [.ref (a 0 0), .int a0, .int a1, .ref ao] ++ List.replicate (5 - (lg_sl [.ref (a 0 0), .int a0, .int a1, .ref ao]).length) Slot.unset).toArray = ls at hl ⊢
  have hl : lv_has ls 5 [(0, .ref (a 0 0)), (1, .int a0), (2, .int a1), (3, .ref ao)] := hl
  have hS : va_S (lAw A ao) s.heap s.heap [] := va_S.rf
  obtain ⟨hPq, hPo⟩ := lw_P.mp hP
  have K0 : qK D cI cB cM ad6 A s := ⟨hK.sub [0, 1, 2] rfl, hF⟩
  have hs0 : qS D cI cB cM ad6 a A s χ s.heap [] := ⟨G, hPq, hD, va_S.rf⟩
  refine lv_aload_n S.1 S.2.1 dL_entry_0 rfl (lv_at hl 3 rfl) ?_
  refine lv_iconst (v := nI 0) S.1 S.2.1 dL_entry_1 (by decide) ?_
  refine lv_aload_n S.1 S.2.1 dL_entry_2 rfl (lv_at hl 0 rfl) ?_
  refine lv_iload_n S.1 S.2.1 dL_entry_3 rfl (lv_at hl 1 rfl) ?_
  refine lv_iload_n S.1 S.2.1 dL_entry_4 rfl (lv_at hl 2 rfl) ?_
  refine vx_calli (vx_runV (As := [.int a0, .int a1]) (rest := [.int (nI 0), .ref ao]) S (metX8_entry l hfl D cI cB cM ad6 a A a0 a1 χ res hf) (cwL_48 S.2.2.2.2 ⟨Nat.le_of_ble_eq_true rfl, Nat.le_of_ble_eq_true rfl⟩) ⟨qPc_blind _ _ _ _ _ _ _ _ _, qV0 K0 hs0, qPre K0 hs0 _⟩ rfl rfl hl.1 rfl (lv_room (Nat.le_of_ble_eq_true rfl)) dL_entry_5 ⟨Nat.le_of_ble_eq_true rfl, Nat.le_of_ble_eq_true rfl⟩) hS (fun q _ h => Or.inl h) (fun q h => Or.inl h) (fun q _ h => Or.inl h) (fun E ce q9 u t H1 locs ht hvm hpx hBX hz1 hk1 hS1 hce hcv hcl => ?_) (fun r u t H1 locs ht hvm hpo hB hz1 hk1 hS1 => ?_)
  · obtain ⟨rfl, G1, hP1, hD1, -⟩ := hBX
    rw [ht] at hP1
    have hPw : va_P D vwCl (wL cI cB cM cL ad6 a G1 ao χ f) H1 := lw_P.mpr ⟨hP1, l_out hPo hk1 hao⟩
    subst hpx
    have hne := hw u rfl
    match u, hne, hcl with
    | 0, hne, hcl =>
      refine vx_catch (E := c_ex 0) S.2.2.2.1 [] (⟨0, 10, 13, 19⟩ : ExceptionTableEntry) [(⟨0, 10, 17, 13⟩ : ExceptionTableEntry)] htab (fun z h => absurd h List.not_mem_nil) (by decide) (by decide) (S.2.2.2.2 _ ul_215) (hY.1 0) hce hcv hcl ?_
      refine lv_astore (lv' := [(4, .ref q9), (0, .ref (a 0 0)), (1, .int a0), (2, .int a1), (3, .ref ao)]) S.1 S.2.1 dL_entry_13 hl (by decide) rfl (fun ls hl => ?_)
      refine lv_iconst (v := nI 1) S.1 S.2.1 dL_entry_15 (by decide) ?_
      exact W.iret S.1 S.2.1 hr (fun t ht hW => ⟨⟨nI 1, (χ, f), rfl, ⟨rfl, rfl⟩, G1, by rw [ht]; exact hPw, hD1, va_K.moved hW.alike hK⟩, hS1.F ht⟩) hS1.2.2 dL_entry_16 (hlocks := hk)
    | 1, hne, hcl =>
      refine vx_catch (E := c_ex 1) S.2.2.2.1 [(⟨0, 10, 13, 19⟩ : ExceptionTableEntry)] (⟨0, 10, 17, 13⟩ : ExceptionTableEntry) [] htab (fun z h => by rw [List.mem_singleton] at h; subst h; exact Or.inr ⟨by decide, _, S.2.2.2.2 _ ul_215, hY.2 1 0 (by decide)⟩) (by decide) (by decide) (S.2.2.2.2 _ ul_142) (hY.1 1) hce hcv hcl ?_
      refine lv_astore (lv' := [(4, .ref q9), (0, .ref (a 0 0)), (1, .int a0), (2, .int a1), (3, .ref ao)]) S.1 S.2.1 dL_entry_17 hl (by decide) rfl (fun ls hl => ?_)
      refine lv_iconst (v := nI 2) S.1 S.2.1 dL_entry_19 (by decide) ?_
      exact W.iret S.1 S.2.1 hr (fun t ht hW => ⟨⟨nI 2, (χ, f), rfl, ⟨rfl, rfl⟩, G1, by rw [ht]; exact hPw, hD1, va_K.moved hW.alike hK⟩, hS1.F ht⟩) hS1.2.2 dL_entry_20 (hlocks := hk)
    | u + 2, hne, hcl => exact absurd rfl hne
  · obtain ⟨G1, hP1, hD1, -⟩ := hB
    rw [ht] at hP1
    have hPw : va_P D vwCl (wL cI cB cM cL ad6 a G1 ao u f) H1 := lw_P.mpr ⟨hP1, l_out hPo hk1 hao⟩
    subst hpo
    refine lv_i2l S.1 S.2.1 dL_entry_8 rfl ?_
    refine va_last S.1 S.2.1 hK hPw (lw_D hD1 hao) hS1 104 3 lw_at rfl (vp_in_nI (n := 0) (by omega) (by omega)) dL_entry_9 (fun H2 locs2 hP2 hD2 hS2 => ?_)
    rw [lw_set] at hP2
    refine lv_goto (tgt := 21) S.1 S.2.1 dL_entry_10 (by decide) ?_
    refine lv_iconst (v := nI 0) S.1 S.2.1 dL_entry_21 (by decide) ?_
    exact W.iret S.1 S.2.1 hr (fun t ht hW => ⟨⟨nI 0, (u, _), rfl, ⟨rfl, rfl, l_upd f _⟩, G1, by rw [ht]; exact hP2, hD1, va_K.moved hW.alike hK⟩, hS2.F ht⟩) hS2.2.2 dL_entry_22 (hlocks := hk)
set_option maxHeartbeats 4000000 in
set_option maxRecDepth 100000 in
theorem metL_value (l : Launch) (hfl : l.stackTraces = false) (D : va_G) (cI cB cM cL : ClassId) (ad6 : Nat → Nat) (a : Nat → Nat → Nat) (A : Nat → Prop) (ao : Nat) (hao : ¬ A ao) (a0 : Int32) (χ : cSt) (f : Nat → Int64) (res : cRes) (hf : fX8_value a0 χ = some res) (hw : ∀ k, res = .inl k → (wk 0 (nI 1) 0) k ≠ 0) : Met l yL_value (Cond.codeWith yL_value cL_value 4 (some .int) [(0, 9, 12, 13)] :: WA) rmL (lPc D cI cB cM cL ad6 a A ao χ f [.ref (a 0 0), .int a0, .ref ao]) (lQ D cI cB cM cL ad6 a A ao (wk 0 (nI 1) 0) χ res) 8 48 (lAw A ao) := by
  refine l_ofWH (cc := cL_value) (maxL := 4) (ret := some .int) (hh := [(0, 9, 12, 13)]) (by decide) rfl ?_
  intro p e s m args below meth c s₁ B hml hv
  obtain ⟨rfl, ⟨G, hP, hD, hK⟩, hF, hY⟩ := hv
  have hts0 := atoms_spec (ws := Cond.codeWith yL_value cL_value 4 (some .int) [(0, 9, 12, 13)] :: WA) B.pre
  have htab : c.exceptionTable.toList = tableOf [(0, 9, 12, 13)] := vx_table (x := yL_value) B (hts0 _ List.mem_cons_self)
  have S : CallFix p m c cL_value 4 s _ WA RL := ⟨B.exec, B.bytes, hml, findClass_of_methodNamed B.named, fun w h => hts0 w (List.mem_cons_of_mem _ h)⟩
  have hr := B.returns
  have hk := B.notSynchronized
  have hl := lv_entry [.ref (a 0 0), .int a0, .ref ao] (n := 4) (Nat.le_of_ble_eq_true rfl)
  rw [lg_entry_eq]
  generalize (lg_sl [.ref (a 0 0), .int a0, .ref ao] ++ List.replicate (4 - (lg_sl [.ref (a 0 0), .int a0, .ref ao]).length) Slot.unset).toArray = ls at hl ⊢
  have hl : lv_has ls 4 [(0, .ref (a 0 0)), (1, .int a0), (2, .ref ao)] := hl
  have hS : va_S (lAw A ao) s.heap s.heap [] := va_S.rf
  obtain ⟨hPq, hPo⟩ := lw_P.mp hP
  have K0 : qK D cI cB cM ad6 A s := ⟨hK.sub [0, 1, 2] rfl, hF⟩
  have hs0 : qS D cI cB cM ad6 a A s χ s.heap [] := ⟨G, hPq, hD, va_S.rf⟩
  refine lv_aload_n S.1 S.2.1 dL_value_0 rfl (lv_at hl 2 rfl) ?_
  refine lv_iconst (v := nI 0) S.1 S.2.1 dL_value_1 (by decide) ?_
  refine lv_aload_n S.1 S.2.1 dL_value_2 rfl (lv_at hl 0 rfl) ?_
  refine lv_iload_n S.1 S.2.1 dL_value_3 rfl (lv_at hl 1 rfl) ?_
  refine vx_calli (vx_runV (As := [.int a0]) (rest := [.int (nI 0), .ref ao]) S (metX8_value l hfl D cI cB cM ad6 a A a0 χ res hf) (cwL_51 S.2.2.2.2 ⟨Nat.le_of_ble_eq_true rfl, Nat.le_of_ble_eq_true rfl⟩) ⟨qPc_blind _ _ _ _ _ _ _ _ _, qV0 K0 hs0, qPre K0 hs0 _⟩ rfl rfl hl.1 rfl (lv_room (Nat.le_of_ble_eq_true rfl)) dL_value_4 ⟨Nat.le_of_ble_eq_true rfl, Nat.le_of_ble_eq_true rfl⟩) hS (fun q _ h => Or.inl h) (fun q h => Or.inl h) (fun q _ h => Or.inl h) (fun E ce q9 u t H1 locs ht hvm hpx hBX hz1 hk1 hS1 hce hcv hcl => ?_) (fun r u t H1 locs ht hvm hpo hB hz1 hk1 hS1 => ?_)
  · obtain ⟨rfl, G1, hP1, hD1, -⟩ := hBX
    rw [ht] at hP1
    have hPw : va_P D vwCl (wL cI cB cM cL ad6 a G1 ao χ f) H1 := lw_P.mpr ⟨hP1, l_out hPo hk1 hao⟩
    subst hpx
    have hne := hw u rfl
    match u, hne, hcl with
    | 0, hne, hcl => exact absurd rfl hne
    | 1, hne, hcl =>
      refine vx_catch (E := c_ex 1) S.2.2.2.1 [] (⟨0, 9, 12, 13⟩ : ExceptionTableEntry) [] htab (fun z h => absurd h List.not_mem_nil) (by decide) (by decide) (S.2.2.2.2 _ ul_142) (hY.1 1) hce hcv hcl ?_
      refine lv_astore_n (lv' := [(3, .ref q9), (0, .ref (a 0 0)), (1, .int a0), (2, .ref ao)]) S.1 S.2.1 dL_value_12 rfl hl (by decide) rfl (fun ls hl => ?_)
      refine lv_iconst (v := nI 1) S.1 S.2.1 dL_value_13 (by decide) ?_
      exact W.iret S.1 S.2.1 hr (fun t ht hW => ⟨⟨nI 1, (χ, f), rfl, ⟨rfl, rfl⟩, G1, by rw [ht]; exact hPw, hD1, va_K.moved hW.alike hK⟩, hS1.F ht⟩) hS1.2.2 dL_value_14 (hlocks := hk)
    | u + 2, hne, hcl => exact absurd rfl hne
  · obtain ⟨G1, hP1, hD1, -⟩ := hB
    rw [ht] at hP1
    have hPw : va_P D vwCl (wL cI cB cM cL ad6 a G1 ao u f) H1 := lw_P.mpr ⟨hP1, l_out hPo hk1 hao⟩
    subst hpo
    refine lv_i2l S.1 S.2.1 dL_value_7 rfl ?_
    refine va_last S.1 S.2.1 hK hPw (lw_D hD1 hao) hS1 104 3 lw_at rfl (vp_in_nI (n := 0) (by omega) (by omega)) dL_value_8 (fun H2 locs2 hP2 hD2 hS2 => ?_)
    rw [lw_set] at hP2
    refine lv_goto (tgt := 15) S.1 S.2.1 dL_value_9 (by decide) ?_
    refine lv_iconst (v := nI 0) S.1 S.2.1 dL_value_15 (by decide) ?_
    exact W.iret S.1 S.2.1 hr (fun t ht hW => ⟨⟨nI 0, (u, _), rfl, ⟨rfl, rfl, l_upd f _⟩, G1, by rw [ht]; exact hP2, hD1, va_K.moved hW.alike hK⟩, hS2.F ht⟩) hS2.2.2 dL_value_16 (hlocks := hk)
set_option maxHeartbeats 4000000 in
set_option maxRecDepth 100000 in
theorem metL_cost (l : Launch) (hfl : l.stackTraces = false) (D : va_G) (cI cB cM cL : ClassId) (ad6 : Nat → Nat) (a : Nat → Nat → Nat) (A : Nat → Prop) (ao : Nat) (hao : ¬ A ao) (a0 : Int32) (a1 : Int32) (a2 : Int32) (χ : cSt) (f : Nat → Int64) (res : cRes) (hf : fX8_cost a0 a1 a2 χ = some res) (hw : ∀ k, res = .inl k → (wk (nI 1) 0 0) k ≠ 0) : Met l yL_cost (Cond.codeWith yL_cost cL_cost 6 (some .int) [(0, 12, 15, 19)] :: WA) rmL (lPc D cI cB cM cL ad6 a A ao χ f [.ref (a 0 0), .int a0, .int a1, .int a2, .ref ao]) (lQ D cI cB cM cL ad6 a A ao (wk (nI 1) 0 0) χ res) 8 48 (lAw A ao) := by
  refine l_ofWH (cc := cL_cost) (maxL := 6) (ret := some .int) (hh := [(0, 12, 15, 19)]) (by decide) rfl ?_
  intro p e s m args below meth c s₁ B hml hv
  obtain ⟨rfl, ⟨G, hP, hD, hK⟩, hF, hY⟩ := hv
  have hts0 := atoms_spec (ws := Cond.codeWith yL_cost cL_cost 6 (some .int) [(0, 12, 15, 19)] :: WA) B.pre
  have htab : c.exceptionTable.toList = tableOf [(0, 12, 15, 19)] := vx_table (x := yL_cost) B (hts0 _ List.mem_cons_self)
  have S : CallFix p m c cL_cost 6 s _ WA RL := ⟨B.exec, B.bytes, hml, findClass_of_methodNamed B.named, fun w h => hts0 w (List.mem_cons_of_mem _ h)⟩
  have hr := B.returns
  have hk := B.notSynchronized
  have hl := lv_entry [.ref (a 0 0), .int a0, .int a1, .int a2, .ref ao] (n := 6) (Nat.le_of_ble_eq_true rfl)
  rw [lg_entry_eq]
  generalize (lg_sl [.ref (a 0 0), .int a0, .int a1, .int a2, .ref ao] ++ List.replicate (6 - (lg_sl [.ref (a 0 0), .int a0, .int a1, .int a2, .ref ao]).length) Slot.unset).toArray = ls at hl ⊢
  have hl : lv_has ls 6 [(0, .ref (a 0 0)), (1, .int a0), (2, .int a1), (3, .int a2), (4, .ref ao)] := hl
  have hS : va_S (lAw A ao) s.heap s.heap [] := va_S.rf
  obtain ⟨hPq, hPo⟩ := lw_P.mp hP
  have K0 : qK D cI cB cM ad6 A s := ⟨hK.sub [0, 1, 2] rfl, hF⟩
  have hs0 : qS D cI cB cM ad6 a A s χ s.heap [] := ⟨G, hPq, hD, va_S.rf⟩
  refine lv_aload S.1 S.2.1 dL_cost_0 (lv_at hl 4 rfl) ?_
  refine lv_iconst (v := nI 0) S.1 S.2.1 dL_cost_2 (by decide) ?_
  refine lv_aload_n S.1 S.2.1 dL_cost_3 rfl (lv_at hl 0 rfl) ?_
  refine lv_iload_n S.1 S.2.1 dL_cost_4 rfl (lv_at hl 1 rfl) ?_
  refine lv_iload_n S.1 S.2.1 dL_cost_5 rfl (lv_at hl 2 rfl) ?_
  refine lv_iload_n S.1 S.2.1 dL_cost_6 rfl (lv_at hl 3 rfl) ?_
  refine vx_calli (vx_runV (As := [.int a0, .int a1, .int a2]) (rest := [.int (nI 0), .ref ao]) S (metX8_cost l hfl D cI cB cM ad6 a A a0 a1 a2 χ res hf) (cwL_54 S.2.2.2.2 ⟨Nat.le_of_ble_eq_true rfl, Nat.le_of_ble_eq_true rfl⟩) ⟨qPc_blind _ _ _ _ _ _ _ _ _, qV0 K0 hs0, qPre K0 hs0 _⟩ rfl rfl hl.1 rfl (lv_room (Nat.le_of_ble_eq_true rfl)) dL_cost_7 ⟨Nat.le_of_ble_eq_true rfl, Nat.le_of_ble_eq_true rfl⟩) hS (fun q _ h => Or.inl h) (fun q h => Or.inl h) (fun q _ h => Or.inl h) (fun E ce q9 u t H1 locs ht hvm hpx hBX hz1 hk1 hS1 hce hcv hcl => ?_) (fun r u t H1 locs ht hvm hpo hB hz1 hk1 hS1 => ?_)
  · obtain ⟨rfl, G1, hP1, hD1, -⟩ := hBX
    rw [ht] at hP1
    have hPw : va_P D vwCl (wL cI cB cM cL ad6 a G1 ao χ f) H1 := lw_P.mpr ⟨hP1, l_out hPo hk1 hao⟩
    subst hpx
    have hne := hw u rfl
    match u, hne, hcl with
    | 0, hne, hcl =>
      refine vx_catch (E := c_ex 0) S.2.2.2.1 [] (⟨0, 12, 15, 19⟩ : ExceptionTableEntry) [] htab (fun z h => absurd h List.not_mem_nil) (by decide) (by decide) (S.2.2.2.2 _ ul_215) (hY.1 0) hce hcv hcl ?_
      refine lv_astore (lv' := [(5, .ref q9), (0, .ref (a 0 0)), (1, .int a0), (2, .int a1), (3, .int a2), (4, .ref ao)]) S.1 S.2.1 dL_cost_15 hl (by decide) rfl (fun ls hl => ?_)
      refine lv_iconst (v := nI 1) S.1 S.2.1 dL_cost_17 (by decide) ?_
      exact W.iret S.1 S.2.1 hr (fun t ht hW => ⟨⟨nI 1, (χ, f), rfl, ⟨rfl, rfl⟩, G1, by rw [ht]; exact hPw, hD1, va_K.moved hW.alike hK⟩, hS1.F ht⟩) hS1.2.2 dL_cost_18 (hlocks := hk)
    | 1, hne, hcl => exact absurd rfl hne
    | u + 2, hne, hcl => exact absurd rfl hne
  · obtain ⟨G1, hP1, hD1, -⟩ := hB
    rw [ht] at hP1
    have hPw : va_P D vwCl (wL cI cB cM cL ad6 a G1 ao u f) H1 := lw_P.mpr ⟨hP1, l_out hPo hk1 hao⟩
    subst hpo
    refine lv_i2l S.1 S.2.1 dL_cost_10 rfl ?_
    refine va_last S.1 S.2.1 hK hPw (lw_D hD1 hao) hS1 104 3 lw_at rfl (vp_in_nI (n := 0) (by omega) (by omega)) dL_cost_11 (fun H2 locs2 hP2 hD2 hS2 => ?_)
    rw [lw_set] at hP2
    refine lv_goto (tgt := 19) S.1 S.2.1 dL_cost_12 (by decide) ?_
    refine lv_iconst (v := nI 0) S.1 S.2.1 dL_cost_19 (by decide) ?_
    exact W.iret S.1 S.2.1 hr (fun t ht hW => ⟨⟨nI 0, (u, _), rfl, ⟨rfl, rfl, l_upd f _⟩, G1, by rw [ht]; exact hP2, hD1, va_K.moved hW.alike hK⟩, hS2.F ht⟩) hS2.2.2 dL_cost_20 (hlocks := hk)
set_option maxHeartbeats 4000000 in
set_option maxRecDepth 100000 in
theorem metL_nextDropped (l : Launch) (hfl : l.stackTraces = false) (D : va_G) (cI cB cM cL : ClassId) (ad6 : Nat → Nat) (a : Nat → Nat → Nat) (A : Nat → Prop) (ao : Nat) (hao : ¬ A ao) (a0 : Int32) (χ : cSt) (f : Nat → Int64) (res : cRes) (hf : fX8_nextDropped a0 χ = some res) (hw : ∀ k, res = .inl k → (wk (nI 1) 0 0) k ≠ 0) : Met l yL_nextDropped (Cond.codeWith yL_nextDropped cL_nextDropped 4 (some .int) [(0, 9, 12, 19)] :: WA) rmL (lPc D cI cB cM cL ad6 a A ao χ f [.ref (a 0 0), .int a0, .ref ao]) (lQ D cI cB cM cL ad6 a A ao (wk (nI 1) 0 0) χ res) 8 48 (lAw A ao) := by
  refine l_ofWH (cc := cL_nextDropped) (maxL := 4) (ret := some .int) (hh := [(0, 9, 12, 19)]) (by decide) rfl ?_
  intro p e s m args below meth c s₁ B hml hv
  obtain ⟨rfl, ⟨G, hP, hD, hK⟩, hF, hY⟩ := hv
  have hts0 := atoms_spec (ws := Cond.codeWith yL_nextDropped cL_nextDropped 4 (some .int) [(0, 9, 12, 19)] :: WA) B.pre
  have htab : c.exceptionTable.toList = tableOf [(0, 9, 12, 19)] := vx_table (x := yL_nextDropped) B (hts0 _ List.mem_cons_self)
  have S : CallFix p m c cL_nextDropped 4 s _ WA RL := ⟨B.exec, B.bytes, hml, findClass_of_methodNamed B.named, fun w h => hts0 w (List.mem_cons_of_mem _ h)⟩
  have hr := B.returns
  have hk := B.notSynchronized
  have hl := lv_entry [.ref (a 0 0), .int a0, .ref ao] (n := 4) (Nat.le_of_ble_eq_true rfl)
  rw [lg_entry_eq]
  generalize (lg_sl [.ref (a 0 0), .int a0, .ref ao] ++ List.replicate (4 - (lg_sl [.ref (a 0 0), .int a0, .ref ao]).length) Slot.unset).toArray = ls at hl ⊢
  have hl : lv_has ls 4 [(0, .ref (a 0 0)), (1, .int a0), (2, .ref ao)] := hl
  have hS : va_S (lAw A ao) s.heap s.heap [] := va_S.rf
  obtain ⟨hPq, hPo⟩ := lw_P.mp hP
  have K0 : qK D cI cB cM ad6 A s := ⟨hK.sub [0, 1, 2] rfl, hF⟩
  have hs0 : qS D cI cB cM ad6 a A s χ s.heap [] := ⟨G, hPq, hD, va_S.rf⟩
  refine lv_aload_n S.1 S.2.1 dL_nextDropped_0 rfl (lv_at hl 2 rfl) ?_
  refine lv_iconst (v := nI 0) S.1 S.2.1 dL_nextDropped_1 (by decide) ?_
  refine lv_aload_n S.1 S.2.1 dL_nextDropped_2 rfl (lv_at hl 0 rfl) ?_
  refine lv_iload_n S.1 S.2.1 dL_nextDropped_3 rfl (lv_at hl 1 rfl) ?_
  refine vx_calli (vx_runV (As := [.int a0]) (rest := [.int (nI 0), .ref ao]) S (metX8_nextDropped l hfl D cI cB cM ad6 a A a0 χ res hf) (cwL_58 S.2.2.2.2 ⟨Nat.le_of_ble_eq_true rfl, Nat.le_of_ble_eq_true rfl⟩) ⟨qPc_blind _ _ _ _ _ _ _ _ _, qV0 K0 hs0, qPre K0 hs0 _⟩ rfl rfl hl.1 rfl (lv_room (Nat.le_of_ble_eq_true rfl)) dL_nextDropped_4 ⟨Nat.le_of_ble_eq_true rfl, Nat.le_of_ble_eq_true rfl⟩) hS (fun q _ h => Or.inl h) (fun q h => Or.inl h) (fun q _ h => Or.inl h) (fun E ce q9 u t H1 locs ht hvm hpx hBX hz1 hk1 hS1 hce hcv hcl => ?_) (fun r u t H1 locs ht hvm hpo hB hz1 hk1 hS1 => ?_)
  · obtain ⟨rfl, G1, hP1, hD1, -⟩ := hBX
    rw [ht] at hP1
    have hPw : va_P D vwCl (wL cI cB cM cL ad6 a G1 ao χ f) H1 := lw_P.mpr ⟨hP1, l_out hPo hk1 hao⟩
    subst hpx
    have hne := hw u rfl
    match u, hne, hcl with
    | 0, hne, hcl =>
      refine vx_catch (E := c_ex 0) S.2.2.2.1 [] (⟨0, 9, 12, 19⟩ : ExceptionTableEntry) [] htab (fun z h => absurd h List.not_mem_nil) (by decide) (by decide) (S.2.2.2.2 _ ul_215) (hY.1 0) hce hcv hcl ?_
      refine lv_astore_n (lv' := [(3, .ref q9), (0, .ref (a 0 0)), (1, .int a0), (2, .ref ao)]) S.1 S.2.1 dL_nextDropped_12 rfl hl (by decide) rfl (fun ls hl => ?_)
      refine lv_iconst (v := nI 1) S.1 S.2.1 dL_nextDropped_13 (by decide) ?_
      exact W.iret S.1 S.2.1 hr (fun t ht hW => ⟨⟨nI 1, (χ, f), rfl, ⟨rfl, rfl⟩, G1, by rw [ht]; exact hPw, hD1, va_K.moved hW.alike hK⟩, hS1.F ht⟩) hS1.2.2 dL_nextDropped_14 (hlocks := hk)
    | 1, hne, hcl => exact absurd rfl hne
    | u + 2, hne, hcl => exact absurd rfl hne
  · obtain ⟨G1, hP1, hD1, -⟩ := hB
    rw [ht] at hP1
    have hPw : va_P D vwCl (wL cI cB cM cL ad6 a G1 ao u f) H1 := lw_P.mpr ⟨hP1, l_out hPo hk1 hao⟩
    subst hpo
    refine lv_i2l S.1 S.2.1 dL_nextDropped_7 rfl ?_
    refine va_last S.1 S.2.1 hK hPw (lw_D hD1 hao) hS1 104 3 lw_at rfl (vp_in_nI (n := 0) (by omega) (by omega)) dL_nextDropped_8 (fun H2 locs2 hP2 hD2 hS2 => ?_)
    rw [lw_set] at hP2
    refine lv_goto (tgt := 15) S.1 S.2.1 dL_nextDropped_9 (by decide) ?_
    refine lv_iconst (v := nI 0) S.1 S.2.1 dL_nextDropped_15 (by decide) ?_
    exact W.iret S.1 S.2.1 hr (fun t ht hW => ⟨⟨nI 0, (u, _), rfl, ⟨rfl, rfl, l_upd f _⟩, G1, by rw [ht]; exact hP2, hD1, va_K.moved hW.alike hK⟩, hS2.F ht⟩) hS2.2.2 dL_nextDropped_16 (hlocks := hk)
set_option maxHeartbeats 4000000 in
set_option maxRecDepth 100000 in
theorem metL_cheapest (l : Launch) (hfl : l.stackTraces = false) (D : va_G) (cI cB cM cL : ClassId) (ad6 : Nat → Nat) (a : Nat → Nat → Nat) (A : Nat → Prop) (ao : Nat) (hao : ¬ A ao) (a0 : Int32) (a1 : Int32) (χ : cSt) (f : Nat → Int64) (res : cRes) (hf : fX8_cheapest a0 a1 χ = some res) (hw : ∀ k, res = .inl k → (wk (nI 1) 0 0) k ≠ 0) : Met l yL_cheapest (Cond.codeWith yL_cheapest cL_cheapest 5 (some .int) [(0, 10, 13, 19)] :: WA) rmL (lPc D cI cB cM cL ad6 a A ao χ f [.ref (a 0 0), .int a0, .int a1, .ref ao]) (lQ D cI cB cM cL ad6 a A ao (wk (nI 1) 0 0) χ res) 8 48 (lAw A ao) := by
  refine l_ofWH (cc := cL_cheapest) (maxL := 5) (ret := some .int) (hh := [(0, 10, 13, 19)]) (by decide) rfl ?_
  intro p e s m args below meth c s₁ B hml hv
  obtain ⟨rfl, ⟨G, hP, hD, hK⟩, hF, hY⟩ := hv
  have hts0 := atoms_spec (ws := Cond.codeWith yL_cheapest cL_cheapest 5 (some .int) [(0, 10, 13, 19)] :: WA) B.pre
  have htab : c.exceptionTable.toList = tableOf [(0, 10, 13, 19)] := vx_table (x := yL_cheapest) B (hts0 _ List.mem_cons_self)
  have S : CallFix p m c cL_cheapest 5 s _ WA RL := ⟨B.exec, B.bytes, hml, findClass_of_methodNamed B.named, fun w h => hts0 w (List.mem_cons_of_mem _ h)⟩
  have hr := B.returns
  have hk := B.notSynchronized
  have hl := lv_entry [.ref (a 0 0), .int a0, .int a1, .ref ao] (n := 5) (Nat.le_of_ble_eq_true rfl)
  rw [lg_entry_eq]
  generalize (lg_sl [.ref (a 0 0), .int a0, .int a1, .ref ao] ++ List.replicate (5 - (lg_sl [.ref (a 0 0), .int a0, .int a1, .ref ao]).length) Slot.unset).toArray = ls at hl ⊢
  have hl : lv_has ls 5 [(0, .ref (a 0 0)), (1, .int a0), (2, .int a1), (3, .ref ao)] := hl
  have hS : va_S (lAw A ao) s.heap s.heap [] := va_S.rf
  obtain ⟨hPq, hPo⟩ := lw_P.mp hP
  have K0 : qK D cI cB cM ad6 A s := ⟨hK.sub [0, 1, 2] rfl, hF⟩
  have hs0 : qS D cI cB cM ad6 a A s χ s.heap [] := ⟨G, hPq, hD, va_S.rf⟩
  refine lv_aload_n S.1 S.2.1 dL_cheapest_0 rfl (lv_at hl 3 rfl) ?_
  refine lv_iconst (v := nI 0) S.1 S.2.1 dL_cheapest_1 (by decide) ?_
  refine lv_aload_n S.1 S.2.1 dL_cheapest_2 rfl (lv_at hl 0 rfl) ?_
  refine lv_iload_n S.1 S.2.1 dL_cheapest_3 rfl (lv_at hl 1 rfl) ?_
  refine lv_iload_n S.1 S.2.1 dL_cheapest_4 rfl (lv_at hl 2 rfl) ?_
  refine vx_calli (vx_runV (As := [.int a0, .int a1]) (rest := [.int (nI 0), .ref ao]) S (metX8_cheapest l hfl D cI cB cM ad6 a A a0 a1 χ res hf) (cwL_61 S.2.2.2.2 ⟨Nat.le_of_ble_eq_true rfl, Nat.le_of_ble_eq_true rfl⟩) ⟨qPc_blind _ _ _ _ _ _ _ _ _, qV0 K0 hs0, qPre K0 hs0 _⟩ rfl rfl hl.1 rfl (lv_room (Nat.le_of_ble_eq_true rfl)) dL_cheapest_5 ⟨Nat.le_of_ble_eq_true rfl, Nat.le_of_ble_eq_true rfl⟩) hS (fun q _ h => Or.inl h) (fun q h => Or.inl h) (fun q _ h => Or.inl h) (fun E ce q9 u t H1 locs ht hvm hpx hBX hz1 hk1 hS1 hce hcv hcl => ?_) (fun r u t H1 locs ht hvm hpo hB hz1 hk1 hS1 => ?_)
  · obtain ⟨rfl, G1, hP1, hD1, -⟩ := hBX
    rw [ht] at hP1
    have hPw : va_P D vwCl (wL cI cB cM cL ad6 a G1 ao χ f) H1 := lw_P.mpr ⟨hP1, l_out hPo hk1 hao⟩
    subst hpx
    have hne := hw u rfl
    match u, hne, hcl with
    | 0, hne, hcl =>
      refine vx_catch (E := c_ex 0) S.2.2.2.1 [] (⟨0, 10, 13, 19⟩ : ExceptionTableEntry) [] htab (fun z h => absurd h List.not_mem_nil) (by decide) (by decide) (S.2.2.2.2 _ ul_215) (hY.1 0) hce hcv hcl ?_
      refine lv_astore (lv' := [(4, .ref q9), (0, .ref (a 0 0)), (1, .int a0), (2, .int a1), (3, .ref ao)]) S.1 S.2.1 dL_cheapest_13 hl (by decide) rfl (fun ls hl => ?_)
      refine lv_iconst (v := nI 1) S.1 S.2.1 dL_cheapest_15 (by decide) ?_
      exact W.iret S.1 S.2.1 hr (fun t ht hW => ⟨⟨nI 1, (χ, f), rfl, ⟨rfl, rfl⟩, G1, by rw [ht]; exact hPw, hD1, va_K.moved hW.alike hK⟩, hS1.F ht⟩) hS1.2.2 dL_cheapest_16 (hlocks := hk)
    | 1, hne, hcl => exact absurd rfl hne
    | u + 2, hne, hcl => exact absurd rfl hne
  · obtain ⟨G1, hP1, hD1, -⟩ := hB
    rw [ht] at hP1
    have hPw : va_P D vwCl (wL cI cB cM cL ad6 a G1 ao u f) H1 := lw_P.mpr ⟨hP1, l_out hPo hk1 hao⟩
    subst hpo
    refine lv_i2l S.1 S.2.1 dL_cheapest_8 rfl ?_
    refine va_last S.1 S.2.1 hK hPw (lw_D hD1 hao) hS1 104 3 lw_at rfl (vp_in_nI (n := 0) (by omega) (by omega)) dL_cheapest_9 (fun H2 locs2 hP2 hD2 hS2 => ?_)
    rw [lw_set] at hP2
    refine lv_goto (tgt := 17) S.1 S.2.1 dL_cheapest_10 (by decide) ?_
    refine lv_iconst (v := nI 0) S.1 S.2.1 dL_cheapest_17 (by decide) ?_
    exact W.iret S.1 S.2.1 hr (fun t ht hW => ⟨⟨nI 0, (u, _), rfl, ⟨rfl, rfl, l_upd f _⟩, G1, by rw [ht]; exact hP2, hD1, va_K.moved hW.alike hK⟩, hS2.F ht⟩) hS2.2.2 dL_cheapest_18 (hlocks := hk)
set_option maxHeartbeats 4000000 in
set_option maxRecDepth 100000 in
theorem metL_append (l : Launch) (hfl : l.stackTraces = false) (D : va_G) (cI cB cM cL : ClassId) (ad6 : Nat → Nat) (a : Nat → Nat → Nat) (A : Nat → Prop) (ao : Nat) (hao : ¬ A ao) (a0 : Int32) (χ : cSt) (f : Nat → Int64) (res : cRes) (hf : fX8_append a0 χ = some res) (hw : ∀ k, res = .inl k → (wk 0 (nI 1) (nI 2)) k ≠ 0) : Met l yL_append (Cond.codeWith yL_append cL_append 4 (some .int) [(0, 9, 12, 13), (0, 9, 15, 21)] :: WA) rmL (lPc D cI cB cM cL ad6 a A ao χ f [.ref (a 0 0), .int a0, .ref ao]) (lQ D cI cB cM cL ad6 a A ao (wk 0 (nI 1) (nI 2)) χ res) 8 48 (lAw A ao) := by
  refine l_ofWH (cc := cL_append) (maxL := 4) (ret := some .int) (hh := [(0, 9, 12, 13), (0, 9, 15, 21)]) (by decide) rfl ?_
  intro p e s m args below meth c s₁ B hml hv
  obtain ⟨rfl, ⟨G, hP, hD, hK⟩, hF, hY⟩ := hv
  have hts0 := atoms_spec (ws := Cond.codeWith yL_append cL_append 4 (some .int) [(0, 9, 12, 13), (0, 9, 15, 21)] :: WA) B.pre
  have htab : c.exceptionTable.toList = tableOf [(0, 9, 12, 13), (0, 9, 15, 21)] := vx_table (x := yL_append) B (hts0 _ List.mem_cons_self)
  have S : CallFix p m c cL_append 4 s _ WA RL := ⟨B.exec, B.bytes, hml, findClass_of_methodNamed B.named, fun w h => hts0 w (List.mem_cons_of_mem _ h)⟩
  have hr := B.returns
  have hk := B.notSynchronized
  have hl := lv_entry [.ref (a 0 0), .int a0, .ref ao] (n := 4) (Nat.le_of_ble_eq_true rfl)
  rw [lg_entry_eq]
  generalize (lg_sl [.ref (a 0 0), .int a0, .ref ao] ++ List.replicate (4 - (lg_sl [.ref (a 0 0), .int a0, .ref ao]).length) Slot.unset).toArray = ls at hl ⊢
  have hl : lv_has ls 4 [(0, .ref (a 0 0)), (1, .int a0), (2, .ref ao)] := hl
  have hS : va_S (lAw A ao) s.heap s.heap [] := va_S.rf
  obtain ⟨hPq, hPo⟩ := lw_P.mp hP
  have K0 : qK D cI cB cM ad6 A s := ⟨hK.sub [0, 1, 2] rfl, hF⟩
  have hs0 : qS D cI cB cM ad6 a A s χ s.heap [] := ⟨G, hPq, hD, va_S.rf⟩
  refine lv_aload_n S.1 S.2.1 dL_append_0 rfl (lv_at hl 2 rfl) ?_
  refine lv_iconst (v := nI 0) S.1 S.2.1 dL_append_1 (by decide) ?_
  refine lv_aload_n S.1 S.2.1 dL_append_2 rfl (lv_at hl 0 rfl) ?_
  refine lv_iload_n S.1 S.2.1 dL_append_3 rfl (lv_at hl 1 rfl) ?_
  refine vx_calli (vx_runV (As := [.int a0]) (rest := [.int (nI 0), .ref ao]) S (metX8_append l hfl D cI cB cM ad6 a A a0 χ res hf) (cwL_65 S.2.2.2.2 ⟨Nat.le_of_ble_eq_true rfl, Nat.le_of_ble_eq_true rfl⟩) ⟨qPc_blind _ _ _ _ _ _ _ _ _, qV0 K0 hs0, qPre K0 hs0 _⟩ rfl rfl hl.1 rfl (lv_room (Nat.le_of_ble_eq_true rfl)) dL_append_4 ⟨Nat.le_of_ble_eq_true rfl, Nat.le_of_ble_eq_true rfl⟩) hS (fun q _ h => Or.inl h) (fun q h => Or.inl h) (fun q _ h => Or.inl h) (fun E ce q9 u t H1 locs ht hvm hpx hBX hz1 hk1 hS1 hce hcv hcl => ?_) (fun r u t H1 locs ht hvm hpo hB hz1 hk1 hS1 => ?_)
  · obtain ⟨rfl, G1, hP1, hD1, -⟩ := hBX
    rw [ht] at hP1
    have hPw : va_P D vwCl (wL cI cB cM cL ad6 a G1 ao χ f) H1 := lw_P.mpr ⟨hP1, l_out hPo hk1 hao⟩
    subst hpx
    have hne := hw u rfl
    match u, hne, hcl with
    | 0, hne, hcl => exact absurd rfl hne
    | 1, hne, hcl =>
      refine vx_catch (E := c_ex 1) S.2.2.2.1 [] (⟨0, 9, 12, 13⟩ : ExceptionTableEntry) [(⟨0, 9, 15, 21⟩ : ExceptionTableEntry)] htab (fun z h => absurd h List.not_mem_nil) (by decide) (by decide) (S.2.2.2.2 _ ul_142) (hY.1 1) hce hcv hcl ?_
      refine lv_astore_n (lv' := [(3, .ref q9), (0, .ref (a 0 0)), (1, .int a0), (2, .ref ao)]) S.1 S.2.1 dL_append_12 rfl hl (by decide) rfl (fun ls hl => ?_)
      refine lv_iconst (v := nI 1) S.1 S.2.1 dL_append_13 (by decide) ?_
      exact W.iret S.1 S.2.1 hr (fun t ht hW => ⟨⟨nI 1, (χ, f), rfl, ⟨rfl, rfl⟩, G1, by rw [ht]; exact hPw, hD1, va_K.moved hW.alike hK⟩, hS1.F ht⟩) hS1.2.2 dL_append_14 (hlocks := hk)
    | u + 2, hne, hcl =>
      refine vx_catch (E := c_ex (u + 2)) S.2.2.2.1 [(⟨0, 9, 12, 13⟩ : ExceptionTableEntry)] (⟨0, 9, 15, 21⟩ : ExceptionTableEntry) [] htab (fun z h => by rw [List.mem_singleton] at h; subst h; exact Or.inr ⟨by decide, _, S.2.2.2.2 _ ul_142, hY.2 2 1 (by decide)⟩) (by decide) (by decide) (S.2.2.2.2 _ ul_216) (hY.1 (u + 2)) hce hcv hcl ?_
      refine lv_astore_n (lv' := [(3, .ref q9), (0, .ref (a 0 0)), (1, .int a0), (2, .ref ao)]) S.1 S.2.1 dL_append_15 rfl hl (by decide) rfl (fun ls hl => ?_)
      refine lv_iconst (v := nI 2) S.1 S.2.1 dL_append_16 (by decide) ?_
      exact W.iret S.1 S.2.1 hr (fun t ht hW => ⟨⟨nI 2, (χ, f), rfl, ⟨rfl, rfl⟩, G1, by rw [ht]; exact hPw, hD1, va_K.moved hW.alike hK⟩, hS1.F ht⟩) hS1.2.2 dL_append_17 (hlocks := hk)
  · obtain ⟨G1, hP1, hD1, -⟩ := hB
    rw [ht] at hP1
    have hPw : va_P D vwCl (wL cI cB cM cL ad6 a G1 ao u f) H1 := lw_P.mpr ⟨hP1, l_out hPo hk1 hao⟩
    subst hpo
    refine lv_i2l S.1 S.2.1 dL_append_7 rfl ?_
    refine va_last S.1 S.2.1 hK hPw (lw_D hD1 hao) hS1 104 3 lw_at rfl (vp_in_nI (n := 0) (by omega) (by omega)) dL_append_8 (fun H2 locs2 hP2 hD2 hS2 => ?_)
    rw [lw_set] at hP2
    refine lv_goto (tgt := 18) S.1 S.2.1 dL_append_9 (by decide) ?_
    refine lv_iconst (v := nI 0) S.1 S.2.1 dL_append_18 (by decide) ?_
    exact W.iret S.1 S.2.1 hr (fun t ht hW => ⟨⟨nI 0, (u, _), rfl, ⟨rfl, rfl, l_upd f _⟩, G1, by rw [ht]; exact hP2, hD1, va_K.moved hW.alike hK⟩, hS2.F ht⟩) hS2.2.2 dL_append_19 (hlocks := hk)
set_option maxHeartbeats 4000000 in
set_option maxRecDepth 100000 in
theorem metL_undo (l : Launch) (hfl : l.stackTraces = false) (D : va_G) (cI cB cM cL : ClassId) (ad6 : Nat → Nat) (a : Nat → Nat → Nat) (A : Nat → Prop) (ao : Nat) (hao : ¬ A ao)  (χ : cSt) (f : Nat → Int64) (res : cRes) (hf : fX8_undo  χ = some res) (hw : ∀ k, res = .inl k → (wk 0 0 (nI 1)) k ≠ 0) : Met l yL_undo (Cond.codeWith yL_undo cL_undo 3 (some .int) [(0, 8, 11, 21)] :: WA) rmL (lPc D cI cB cM cL ad6 a A ao χ f [.ref (a 0 0), .ref ao]) (lQ D cI cB cM cL ad6 a A ao (wk 0 0 (nI 1)) χ res) 8 48 (lAw A ao) := by
  refine l_ofWH (cc := cL_undo) (maxL := 3) (ret := some .int) (hh := [(0, 8, 11, 21)]) (by decide) rfl ?_
  intro p e s m args below meth c s₁ B hml hv
  obtain ⟨rfl, ⟨G, hP, hD, hK⟩, hF, hY⟩ := hv
  have hts0 := atoms_spec (ws := Cond.codeWith yL_undo cL_undo 3 (some .int) [(0, 8, 11, 21)] :: WA) B.pre
  have htab : c.exceptionTable.toList = tableOf [(0, 8, 11, 21)] := vx_table (x := yL_undo) B (hts0 _ List.mem_cons_self)
  have S : CallFix p m c cL_undo 3 s _ WA RL := ⟨B.exec, B.bytes, hml, findClass_of_methodNamed B.named, fun w h => hts0 w (List.mem_cons_of_mem _ h)⟩
  have hr := B.returns
  have hk := B.notSynchronized
  have hl := lv_entry [.ref (a 0 0), .ref ao] (n := 3) (Nat.le_of_ble_eq_true rfl)
  rw [lg_entry_eq]
  generalize (lg_sl [.ref (a 0 0), .ref ao] ++ List.replicate (3 - (lg_sl [.ref (a 0 0), .ref ao]).length) Slot.unset).toArray = ls at hl ⊢
  have hl : lv_has ls 3 [(0, .ref (a 0 0)), (1, .ref ao)] := hl
  have hS : va_S (lAw A ao) s.heap s.heap [] := va_S.rf
  obtain ⟨hPq, hPo⟩ := lw_P.mp hP
  have K0 : qK D cI cB cM ad6 A s := ⟨hK.sub [0, 1, 2] rfl, hF⟩
  have hs0 : qS D cI cB cM ad6 a A s χ s.heap [] := ⟨G, hPq, hD, va_S.rf⟩
  refine lv_aload_n S.1 S.2.1 dL_undo_0 rfl (lv_at hl 1 rfl) ?_
  refine lv_iconst (v := nI 0) S.1 S.2.1 dL_undo_1 (by decide) ?_
  refine lv_aload_n S.1 S.2.1 dL_undo_2 rfl (lv_at hl 0 rfl) ?_
  refine vx_calli (vx_runV (As := []) (rest := [.int (nI 0), .ref ao]) S (metX8_undo l hfl D cI cB cM ad6 a A  χ res hf) (cwL_68 S.2.2.2.2 ⟨Nat.le_of_ble_eq_true rfl, Nat.le_of_ble_eq_true rfl⟩) ⟨qPc_blind _ _ _ _ _ _ _ _ _, qV0 K0 hs0, qPre K0 hs0 _⟩ rfl rfl hl.1 rfl (lv_room (Nat.le_of_ble_eq_true rfl)) dL_undo_3 ⟨Nat.le_of_ble_eq_true rfl, Nat.le_of_ble_eq_true rfl⟩) hS (fun q _ h => Or.inl h) (fun q h => Or.inl h) (fun q _ h => Or.inl h) (fun E ce q9 u t H1 locs ht hvm hpx hBX hz1 hk1 hS1 hce hcv hcl => ?_) (fun r u t H1 locs ht hvm hpo hB hz1 hk1 hS1 => ?_)
  · obtain ⟨rfl, G1, hP1, hD1, -⟩ := hBX
    rw [ht] at hP1
    have hPw : va_P D vwCl (wL cI cB cM cL ad6 a G1 ao χ f) H1 := lw_P.mpr ⟨hP1, l_out hPo hk1 hao⟩
    subst hpx
    have hne := hw u rfl
    match u, hne, hcl with
    | 0, hne, hcl => exact absurd rfl hne
    | 1, hne, hcl => exact absurd rfl hne
    | u + 2, hne, hcl =>
      refine vx_catch (E := c_ex (u + 2)) S.2.2.2.1 [] (⟨0, 8, 11, 21⟩ : ExceptionTableEntry) [] htab (fun z h => absurd h List.not_mem_nil) (by decide) (by decide) (S.2.2.2.2 _ ul_216) (hY.1 (u + 2)) hce hcv hcl ?_
      refine lv_astore_n (lv' := [(2, .ref q9), (0, .ref (a 0 0)), (1, .ref ao)]) S.1 S.2.1 dL_undo_11 rfl hl (by decide) rfl (fun ls hl => ?_)
      refine lv_iconst (v := nI 1) S.1 S.2.1 dL_undo_12 (by decide) ?_
      exact W.iret S.1 S.2.1 hr (fun t ht hW => ⟨⟨nI 1, (χ, f), rfl, ⟨rfl, rfl⟩, G1, by rw [ht]; exact hPw, hD1, va_K.moved hW.alike hK⟩, hS1.F ht⟩) hS1.2.2 dL_undo_13 (hlocks := hk)
  · obtain ⟨G1, hP1, hD1, -⟩ := hB
    rw [ht] at hP1
    have hPw : va_P D vwCl (wL cI cB cM cL ad6 a G1 ao u f) H1 := lw_P.mpr ⟨hP1, l_out hPo hk1 hao⟩
    subst hpo
    refine lv_i2l S.1 S.2.1 dL_undo_6 rfl ?_
    refine va_last S.1 S.2.1 hK hPw (lw_D hD1 hao) hS1 104 3 lw_at rfl (vp_in_nI (n := 0) (by omega) (by omega)) dL_undo_7 (fun H2 locs2 hP2 hD2 hS2 => ?_)
    rw [lw_set] at hP2
    refine lv_goto (tgt := 14) S.1 S.2.1 dL_undo_8 (by decide) ?_
    refine lv_iconst (v := nI 0) S.1 S.2.1 dL_undo_14 (by decide) ?_
    exact W.iret S.1 S.2.1 hr (fun t ht hW => ⟨⟨nI 0, (u, _), rfl, ⟨rfl, rfl, l_upd f _⟩, G1, by rw [ht]; exact hP2, hD1, va_K.moved hW.alike hK⟩, hS2.F ht⟩) hS2.2.2 dL_undo_15 (hlocks := hk)
