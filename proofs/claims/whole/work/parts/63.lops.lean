/-! the law's calls, one by one (by wip/tools/lops.py) -/
def lz (x : Int32) : Int32 := if x = 0 then nI 0 else nI 1
/-- class and reference answer alike: a call that may throw, one that may not, one that changes nothing of the object -/
def opM (Rel : zSt → cSt → Prop) (wc : Nat → Int32) (χ : cSt) (b : Int32) (σ' : zSt) : cRes → Prop
  | .inl k => wc k ≠ 0 ∧ σ' 7 0 = wc k ∧ Rel σ' χ
  | .inr (r, χ') => σ' 7 0 = 0 ∧ b = r ∧ Rel σ' χ'
def opT (Rel : zSt → cSt → Prop) (wc : Nat → Int32) (χ : cSt) (o8 : Option cRes) (o9 : Option (Int32 × zSt)) : Prop := ∃ (res : cRes) (b : Int32) (σ' : zSt), o8 = some res ∧ o9 = some (b, σ') ∧ opM Rel wc χ b σ' res
def opP (Rel : zSt → cSt → Prop) (o8 : Option (Int32 × cSt)) (o9 : Option (Int32 × zSt)) : Prop := ∃ (r : Int32) (χ' : cSt) (σ' : zSt), o8 = some (r, χ') ∧ o9 = some (r, σ') ∧ Rel σ' χ'
def opV {α : Type} (Rel : zSt → cSt → Prop) (χ : cSt) (o8 : Option α) (o9 : Option (α × zSt)) : Prop := ∃ (r : α) (σ' : zSt), o8 = some r ∧ o9 = some (r, σ') ∧ Rel σ' χ
theorem lq_sum {Rel : zSt → cSt → Prop} {wc : Nat → Int32} {χ χ1 : cSt} {f1 : Nat → Int64} {b r : Int32} {σ' : zSt} {res : cRes} (hO : lOut wc χ res r (χ1, f1)) (hop : opM Rel wc χ b σ' res) : σ' 7 0 = r ∧ Rel σ' χ1 ∧ (r = 0 → f1 0 = b.toInt64) := by
  cases res with
  | inl k =>
    obtain ⟨h1, h2⟩ := hO
    obtain ⟨g1, g2, g3⟩ := hop
    have h2 : χ1 = χ := h2
    subst h2
    exact ⟨by rw [g2, h1], g3, fun hr => absurd (h1.symm.trans hr) g1⟩
  | inr q =>
    obtain ⟨v, χ9⟩ := q
    obtain ⟨h1, h2, h3⟩ := hO
    obtain ⟨g1, g2, g3⟩ := hop
    have h2 : χ1 = χ9 := h2
    subst h2
    exact ⟨by rw [g1, h1], g3, fun _ => by rw [g2]; exact h3⟩
theorem lq_hw {Rel : zSt → cSt → Prop} {wc : Nat → Int32} {χ : cSt} {b : Int32} {σ' : zSt} {res : cRes} (hop : opM Rel wc χ b σ' res) : ∀ k, res = .inl k → wc k ≠ 0 := fun k e => by
  subst e
  exact hop.1
theorem lq_nan {x : UInt64} (h : isNaN64 x = true) (y : UInt64) : FP.dcmp x y = none := by
  have h1 := isNaN64_iff.mp h
  have h2 : FP.Core.dIsNaN x = true := (FP.Core.isNaN_bits x).mpr (by rw [← Nat.and_two_pow_sub_one_eq_mod]; exact h1)
  exact (FP.Core.dcmp_none x y).mpr (Or.inl ((FP.Core.dIsNaN_iff x).mp h2))
theorem lq_hr0 (x : UInt64) : FP.dcmp x x = some .eq ∨ FP.dcmp x x = none := by
  by_cases h : FP.Core.val64 x = .nan
  · exact Or.inr ((FP.Core.dcmp_none x x).mpr (Or.inl h))
  · exact Or.inl (FP.Core.dcmp_self h)
theorem lq_hr {h m : Int32} {x y : UInt64} (hx : hrOk h m x) (hy : hrOk h m y) : Op.cmpValue (FP.dcmp x y) .l = 0 ∨ (¬ Op.cmpValue (FP.dcmp x x) .l = 0 ∧ ¬ Op.cmpValue (FP.dcmp y y) .l = 0) := by
  have key : x = y ∨ (isNaN64 x = true ∧ isNaN64 y = true) := by
    unfold hrOk at hx hy
    split at hx
    · rename_i hz
      rw [if_pos hz] at hy
      exact Or.inl (hx.trans hy.symm)
    · rename_i hz
      rw [if_neg hz] at hy
      unfold alike64 at hx hy
      rcases (Bool.or_eq_true _ _).mp hx with h1 | h1 <;> rcases (Bool.or_eq_true _ _).mp hy with h2 | h2
      · exact Or.inl ((of_decide_eq_true h1).trans (of_decide_eq_true h2).symm)
      · have e := of_decide_eq_true h1
        have h3 := (Bool.and_eq_true _ _).mp h2
        exact Or.inr ⟨by rw [e]; exact h3.2, h3.1⟩
      · have e := of_decide_eq_true h2
        have h3 := (Bool.and_eq_true _ _).mp h1
        exact Or.inr ⟨h3.1, by rw [e]; exact h3.2⟩
      · exact Or.inr ⟨((Bool.and_eq_true _ _).mp h1).1, ((Bool.and_eq_true _ _).mp h2).1⟩
  rcases key with e | ⟨h1, h2⟩
  · subst e
    rcases lq_hr0 x with h | h
    · exact Or.inl (by rw [h]; rfl)
    · exact Or.inr ⟨by rw [h]; decide, by rw [h]; decide⟩
  · exact Or.inr ⟨by rw [lq_nan h1]; decide, by rw [lq_nan h2]; decide⟩
theorem ul_138 : Cond.methodLink RL 76 yL_begin ∈ WA := z_in0 _ (List.mem_of_getElem? (i := 138) (by decide +kernel))
theorem ul_139 : Cond.static yL_begin ∈ WA := z_in0 _ (List.mem_of_getElem? (i := 139) (by decide +kernel))
theorem ul_140 : Cond.initialized RL ∈ WA := z_in0 _ (List.mem_of_getElem? (i := 140) (by decide +kernel))
theorem ul_141 : Cond.codeWith yL_begin cL_begin 6 (some .int) [(0, 12, 15, 13)] ∈ WA := z_in0 _ (List.mem_of_getElem? (i := 141) (by decide +kernel))
theorem ul_191 : Cond.methodLink RL 81 yX9_begin ∈ WA := z_in0 _ (List.mem_of_getElem? (i := 191) (by decide +kernel))
theorem ul_192 : Cond.instanceMethod yX9_begin ∈ WA := z_in0 _ (List.mem_of_getElem? (i := 192) (by decide +kernel))
theorem ul_193 : Cond.selects RX9 yX9_begin yX9_begin ∈ WA := z_in0 _ (List.mem_of_getElem? (i := 193) (by decide +kernel))
theorem ul_5 : Cond.initialized RX9 ∈ WA := z_in0 _ (List.mem_of_getElem? (i := 5) (by decide +kernel))
theorem ul_194 : Cond.code yX9_begin cX9_begin 5 (some .int) ∈ WA := z_in0 _ (List.mem_of_getElem? (i := 194) (by decide +kernel))
theorem ul_208 : Cond.methodLink RL 82 yX9_thrown ∈ WA := z_in0 _ (List.mem_of_getElem? (i := 208) (by decide +kernel))
theorem ul_209 : Cond.instanceMethod yX9_thrown ∈ WA := z_in0 _ (List.mem_of_getElem? (i := 209) (by decide +kernel))
theorem ul_210 : Cond.selects RX9 yX9_thrown yX9_thrown ∈ WA := z_in0 _ (List.mem_of_getElem? (i := 210) (by decide +kernel))
theorem ul_211 : Cond.code yX9_thrown cX9_thrown 1 (some .int) ∈ WA := z_in0 _ (List.mem_of_getElem? (i := 211) (by decide +kernel))
theorem ul_212 : Cond.methodLink RL 85 yL_read ∈ WA := z_in0 _ (List.mem_of_getElem? (i := 212) (by decide +kernel))
theorem ul_213 : Cond.static yL_read ∈ WA := z_in0 _ (List.mem_of_getElem? (i := 213) (by decide +kernel))
theorem ul_214 : Cond.codeWith yL_read cL_read 5 (some .int) [(0, 10, 13, 19), (0, 10, 17, 21)] ∈ WA := z_in0 _ (List.mem_of_getElem? (i := 214) (by decide +kernel))
theorem ul_249 : Cond.methodLink RL 88 yX9_read ∈ WA := z_in0 _ (List.mem_of_getElem? (i := 249) (by decide +kernel))
theorem ul_250 : Cond.instanceMethod yX9_read ∈ WA := z_in0 _ (List.mem_of_getElem? (i := 250) (by decide +kernel))
theorem ul_251 : Cond.selects RX9 yX9_read yX9_read ∈ WA := z_in0 _ (List.mem_of_getElem? (i := 251) (by decide +kernel))
theorem ul_252 : Cond.code yX9_read cX9_read 3 (some .int) ∈ WA := z_in0 _ (List.mem_of_getElem? (i := 252) (by decide +kernel))
theorem ul_279 : Cond.methodLink RL 89 yL_write ∈ WA := z_in0 _ (List.mem_of_getElem? (i := 279) (by decide +kernel))
theorem ul_280 : Cond.static yL_write ∈ WA := z_in0 _ (List.mem_of_getElem? (i := 280) (by decide +kernel))
theorem ul_281 : Cond.codeWith yL_write cL_write 6 (some .int) [(0, 12, 15, 19), (0, 12, 19, 13), (0, 12, 23, 21)] ∈ WA := z_in0 _ (List.mem_of_getElem? (i := 281) (by decide +kernel))
theorem ul_286 : Cond.methodLink RL 91 yX9_write ∈ WA := z_in0 _ (List.mem_of_getElem? (i := 286) (by decide +kernel))
theorem ul_287 : Cond.instanceMethod yX9_write ∈ WA := z_in0 _ (List.mem_of_getElem? (i := 287) (by decide +kernel))
theorem ul_288 : Cond.selects RX9 yX9_write yX9_write ∈ WA := z_in0 _ (List.mem_of_getElem? (i := 288) (by decide +kernel))
theorem ul_289 : Cond.code yX9_write cX9_write 4 (some .int) ∈ WA := z_in0 _ (List.mem_of_getElem? (i := 289) (by decide +kernel))
theorem ul_290 : Cond.methodLink RL 92 yL_takeBack ∈ WA := z_in0 _ (List.mem_of_getElem? (i := 290) (by decide +kernel))
theorem ul_291 : Cond.static yL_takeBack ∈ WA := z_in0 _ (List.mem_of_getElem? (i := 291) (by decide +kernel))
theorem ul_292 : Cond.codeWith yL_takeBack cL_takeBack 4 (some .int) [(0, 9, 12, 19), (0, 9, 15, 21)] ∈ WA := z_in0 _ (List.mem_of_getElem? (i := 292) (by decide +kernel))
theorem ul_302 : Cond.methodLink RL 95 yX9_takeBack ∈ WA := z_in0 _ (List.mem_of_getElem? (i := 302) (by decide +kernel))
theorem ul_303 : Cond.instanceMethod yX9_takeBack ∈ WA := z_in0 _ (List.mem_of_getElem? (i := 303) (by decide +kernel))
theorem ul_304 : Cond.selects RX9 yX9_takeBack yX9_takeBack ∈ WA := z_in0 _ (List.mem_of_getElem? (i := 304) (by decide +kernel))
theorem ul_305 : Cond.code yX9_takeBack cX9_takeBack 3 (some .int) ∈ WA := z_in0 _ (List.mem_of_getElem? (i := 305) (by decide +kernel))
theorem ul_306 : Cond.methodLink RL 96 yL_pass ∈ WA := z_in0 _ (List.mem_of_getElem? (i := 306) (by decide +kernel))
theorem ul_307 : Cond.static yL_pass ∈ WA := z_in0 _ (List.mem_of_getElem? (i := 307) (by decide +kernel))
theorem ul_308 : Cond.codeWith yL_pass cL_pass 4 (some .int) [(0, 9, 12, 13), (0, 9, 15, 21)] ∈ WA := z_in0 _ (List.mem_of_getElem? (i := 308) (by decide +kernel))
theorem ul_453 : Cond.methodLink RL 98 yX9_pass ∈ WA := z_in0 _ (List.mem_of_getElem? (i := 453) (by decide +kernel))
theorem ul_454 : Cond.instanceMethod yX9_pass ∈ WA := z_in0 _ (List.mem_of_getElem? (i := 454) (by decide +kernel))
theorem ul_455 : Cond.selects RX9 yX9_pass yX9_pass ∈ WA := z_in0 _ (List.mem_of_getElem? (i := 455) (by decide +kernel))
theorem ul_456 : Cond.code yX9_pass cX9_pass 2 (some .int) ∈ WA := z_in0 _ (List.mem_of_getElem? (i := 456) (by decide +kernel))
theorem ul_514 : Cond.methodLink RL 99 yL_drop ∈ WA := z_in0 _ (List.mem_of_getElem? (i := 514) (by decide +kernel))
theorem ul_515 : Cond.static yL_drop ∈ WA := z_in0 _ (List.mem_of_getElem? (i := 515) (by decide +kernel))
theorem ul_516 : Cond.codeWith yL_drop cL_drop 5 (some .int) [(0, 10, 13, 19), (0, 10, 17, 21)] ∈ WA := z_in0 _ (List.mem_of_getElem? (i := 516) (by decide +kernel))
theorem ul_525 : Cond.methodLink RL 101 yX9_drop ∈ WA := z_in0 _ (List.mem_of_getElem? (i := 525) (by decide +kernel))
theorem ul_526 : Cond.instanceMethod yX9_drop ∈ WA := z_in0 _ (List.mem_of_getElem? (i := 526) (by decide +kernel))
theorem ul_527 : Cond.selects RX9 yX9_drop yX9_drop ∈ WA := z_in0 _ (List.mem_of_getElem? (i := 527) (by decide +kernel))
theorem ul_528 : Cond.code yX9_drop cX9_drop 5 (some .int) ∈ WA := z_in0 _ (List.mem_of_getElem? (i := 528) (by decide +kernel))
theorem ul_529 : Cond.methodLink RL 102 yL_tear ∈ WA := z_in0 _ (List.mem_of_getElem? (i := 529) (by decide +kernel))
theorem ul_530 : Cond.static yL_tear ∈ WA := z_in0 _ (List.mem_of_getElem? (i := 530) (by decide +kernel))
theorem ul_531 : Cond.codeWith yL_tear cL_tear 4 (some .int) [(0, 9, 12, 19), (0, 9, 15, 21)] ∈ WA := z_in0 _ (List.mem_of_getElem? (i := 531) (by decide +kernel))
theorem ul_540 : Cond.methodLink RL 104 yX9_tear ∈ WA := z_in0 _ (List.mem_of_getElem? (i := 540) (by decide +kernel))
theorem ul_541 : Cond.instanceMethod yX9_tear ∈ WA := z_in0 _ (List.mem_of_getElem? (i := 541) (by decide +kernel))
theorem ul_542 : Cond.selects RX9 yX9_tear yX9_tear ∈ WA := z_in0 _ (List.mem_of_getElem? (i := 542) (by decide +kernel))
theorem ul_543 : Cond.code yX9_tear cX9_tear 4 (some .int) ∈ WA := z_in0 _ (List.mem_of_getElem? (i := 543) (by decide +kernel))
theorem ul_547 : Cond.methodLink RL 105 yL_copy ∈ WA := z_in0 _ (List.mem_of_getElem? (i := 547) (by decide +kernel))
theorem ul_548 : Cond.static yL_copy ∈ WA := z_in0 _ (List.mem_of_getElem? (i := 548) (by decide +kernel))
theorem ul_549 : Cond.codeWith yL_copy cL_copy 6 (some .int) [(0, 12, 15, 19), (0, 12, 19, 13)] ∈ WA := z_in0 _ (List.mem_of_getElem? (i := 549) (by decide +kernel))
theorem ul_562 : Cond.methodLink RL 107 yX9_copy ∈ WA := z_in0 _ (List.mem_of_getElem? (i := 562) (by decide +kernel))
theorem ul_563 : Cond.instanceMethod yX9_copy ∈ WA := z_in0 _ (List.mem_of_getElem? (i := 563) (by decide +kernel))
theorem ul_564 : Cond.selects RX9 yX9_copy yX9_copy ∈ WA := z_in0 _ (List.mem_of_getElem? (i := 564) (by decide +kernel))
theorem ul_565 : Cond.code yX9_copy cX9_copy 4 (some .int) ∈ WA := z_in0 _ (List.mem_of_getElem? (i := 565) (by decide +kernel))
theorem ul_570 : Cond.methodLink RL 108 yL_line ∈ WA := z_in0 _ (List.mem_of_getElem? (i := 570) (by decide +kernel))
theorem ul_571 : Cond.static yL_line ∈ WA := z_in0 _ (List.mem_of_getElem? (i := 571) (by decide +kernel))
theorem ul_572 : Cond.codeWith yL_line cL_line 5 (some .int) [(0, 10, 13, 19), (0, 10, 17, 13)] ∈ WA := z_in0 _ (List.mem_of_getElem? (i := 572) (by decide +kernel))
theorem ul_581 : Cond.methodLink RL 110 yX9_line ∈ WA := z_in0 _ (List.mem_of_getElem? (i := 581) (by decide +kernel))
theorem ul_582 : Cond.instanceMethod yX9_line ∈ WA := z_in0 _ (List.mem_of_getElem? (i := 582) (by decide +kernel))
theorem ul_583 : Cond.selects RX9 yX9_line yX9_line ∈ WA := z_in0 _ (List.mem_of_getElem? (i := 583) (by decide +kernel))
theorem ul_584 : Cond.code yX9_line cX9_line 3 (some .int) ∈ WA := z_in0 _ (List.mem_of_getElem? (i := 584) (by decide +kernel))
theorem ul_589 : Cond.methodLink RL 111 yL_pending ∈ WA := z_in0 _ (List.mem_of_getElem? (i := 589) (by decide +kernel))
theorem ul_590 : Cond.static yL_pending ∈ WA := z_in0 _ (List.mem_of_getElem? (i := 590) (by decide +kernel))
theorem ul_591 : Cond.codeWith yL_pending cL_pending 5 (some .int) [(0, 10, 13, 19), (0, 10, 17, 13)] ∈ WA := z_in0 _ (List.mem_of_getElem? (i := 591) (by decide +kernel))
theorem ul_600 : Cond.methodLink RL 113 yX9_pending ∈ WA := z_in0 _ (List.mem_of_getElem? (i := 600) (by decide +kernel))
theorem ul_601 : Cond.instanceMethod yX9_pending ∈ WA := z_in0 _ (List.mem_of_getElem? (i := 601) (by decide +kernel))
theorem ul_602 : Cond.selects RX9 yX9_pending yX9_pending ∈ WA := z_in0 _ (List.mem_of_getElem? (i := 602) (by decide +kernel))
theorem ul_603 : Cond.code yX9_pending cX9_pending 3 (some .int) ∈ WA := z_in0 _ (List.mem_of_getElem? (i := 603) (by decide +kernel))
theorem ul_608 : Cond.methodLink RL 114 yL_entry ∈ WA := z_in0 _ (List.mem_of_getElem? (i := 608) (by decide +kernel))
theorem ul_609 : Cond.static yL_entry ∈ WA := z_in0 _ (List.mem_of_getElem? (i := 609) (by decide +kernel))
theorem ul_610 : Cond.codeWith yL_entry cL_entry 5 (some .int) [(0, 10, 13, 19), (0, 10, 17, 13)] ∈ WA := z_in0 _ (List.mem_of_getElem? (i := 610) (by decide +kernel))
theorem ul_621 : Cond.methodLink RL 116 yX9_entry ∈ WA := z_in0 _ (List.mem_of_getElem? (i := 621) (by decide +kernel))
theorem ul_622 : Cond.instanceMethod yX9_entry ∈ WA := z_in0 _ (List.mem_of_getElem? (i := 622) (by decide +kernel))
theorem ul_623 : Cond.selects RX9 yX9_entry yX9_entry ∈ WA := z_in0 _ (List.mem_of_getElem? (i := 623) (by decide +kernel))
theorem ul_624 : Cond.code yX9_entry cX9_entry 3 (some .int) ∈ WA := z_in0 _ (List.mem_of_getElem? (i := 624) (by decide +kernel))
theorem ul_625 : Cond.methodLink RL 117 yL_value ∈ WA := z_in0 _ (List.mem_of_getElem? (i := 625) (by decide +kernel))
theorem ul_626 : Cond.static yL_value ∈ WA := z_in0 _ (List.mem_of_getElem? (i := 626) (by decide +kernel))
theorem ul_627 : Cond.codeWith yL_value cL_value 4 (some .int) [(0, 9, 12, 13)] ∈ WA := z_in0 _ (List.mem_of_getElem? (i := 627) (by decide +kernel))
theorem ul_640 : Cond.methodLink RL 119 yX9_value ∈ WA := z_in0 _ (List.mem_of_getElem? (i := 640) (by decide +kernel))
theorem ul_641 : Cond.instanceMethod yX9_value ∈ WA := z_in0 _ (List.mem_of_getElem? (i := 641) (by decide +kernel))
theorem ul_642 : Cond.selects RX9 yX9_value yX9_value ∈ WA := z_in0 _ (List.mem_of_getElem? (i := 642) (by decide +kernel))
theorem ul_643 : Cond.code yX9_value cX9_value 2 (some .int) ∈ WA := z_in0 _ (List.mem_of_getElem? (i := 643) (by decide +kernel))
theorem ul_652 : Cond.methodLink RL 120 yL_cost ∈ WA := z_in0 _ (List.mem_of_getElem? (i := 652) (by decide +kernel))
theorem ul_653 : Cond.static yL_cost ∈ WA := z_in0 _ (List.mem_of_getElem? (i := 653) (by decide +kernel))
theorem ul_654 : Cond.codeWith yL_cost cL_cost 6 (some .int) [(0, 12, 15, 19)] ∈ WA := z_in0 _ (List.mem_of_getElem? (i := 654) (by decide +kernel))
theorem ul_660 : Cond.methodLink RL 123 yX9_cost ∈ WA := z_in0 _ (List.mem_of_getElem? (i := 660) (by decide +kernel))
theorem ul_661 : Cond.instanceMethod yX9_cost ∈ WA := z_in0 _ (List.mem_of_getElem? (i := 661) (by decide +kernel))
theorem ul_662 : Cond.selects RX9 yX9_cost yX9_cost ∈ WA := z_in0 _ (List.mem_of_getElem? (i := 662) (by decide +kernel))
theorem ul_663 : Cond.code yX9_cost cX9_cost 4 (some .int) ∈ WA := z_in0 _ (List.mem_of_getElem? (i := 663) (by decide +kernel))
theorem ul_676 : Cond.methodLink RL 124 yX8_nextTorn ∈ WA := z_in0 _ (List.mem_of_getElem? (i := 676) (by decide +kernel))
theorem ul_677 : Cond.instanceMethod yX8_nextTorn ∈ WA := z_in0 _ (List.mem_of_getElem? (i := 677) (by decide +kernel))
theorem ul_678 : Cond.selects RX8 yX8_nextTorn yX8_nextTorn ∈ WA := z_in0 _ (List.mem_of_getElem? (i := 678) (by decide +kernel))
theorem ul_679 : Cond.code yX8_nextTorn cX8_nextTorn 1 (some .int) ∈ WA := z_in0 _ (List.mem_of_getElem? (i := 679) (by decide +kernel))
theorem ul_681 : Cond.methodLink RL 127 yX9_nextTorn ∈ WA := z_in0 _ (List.mem_of_getElem? (i := 681) (by decide +kernel))
theorem ul_682 : Cond.instanceMethod yX9_nextTorn ∈ WA := z_in0 _ (List.mem_of_getElem? (i := 682) (by decide +kernel))
theorem ul_683 : Cond.selects RX9 yX9_nextTorn yX9_nextTorn ∈ WA := z_in0 _ (List.mem_of_getElem? (i := 683) (by decide +kernel))
theorem ul_684 : Cond.code yX9_nextTorn cX9_nextTorn 1 (some .int) ∈ WA := z_in0 _ (List.mem_of_getElem? (i := 684) (by decide +kernel))
theorem ul_685 : Cond.methodLink RL 128 yL_nextDropped ∈ WA := z_in0 _ (List.mem_of_getElem? (i := 685) (by decide +kernel))
theorem ul_686 : Cond.static yL_nextDropped ∈ WA := z_in0 _ (List.mem_of_getElem? (i := 686) (by decide +kernel))
theorem ul_687 : Cond.codeWith yL_nextDropped cL_nextDropped 4 (some .int) [(0, 9, 12, 19)] ∈ WA := z_in0 _ (List.mem_of_getElem? (i := 687) (by decide +kernel))
theorem ul_693 : Cond.methodLink RL 130 yX9_nextDropped ∈ WA := z_in0 _ (List.mem_of_getElem? (i := 693) (by decide +kernel))
theorem ul_694 : Cond.instanceMethod yX9_nextDropped ∈ WA := z_in0 _ (List.mem_of_getElem? (i := 694) (by decide +kernel))
theorem ul_695 : Cond.selects RX9 yX9_nextDropped yX9_nextDropped ∈ WA := z_in0 _ (List.mem_of_getElem? (i := 695) (by decide +kernel))
theorem ul_696 : Cond.code yX9_nextDropped cX9_nextDropped 2 (some .int) ∈ WA := z_in0 _ (List.mem_of_getElem? (i := 696) (by decide +kernel))
theorem ul_697 : Cond.methodLink RL 131 yX8_ticksToServe ∈ WA := z_in0 _ (List.mem_of_getElem? (i := 697) (by decide +kernel))
theorem ul_698 : Cond.instanceMethod yX8_ticksToServe ∈ WA := z_in0 _ (List.mem_of_getElem? (i := 698) (by decide +kernel))
theorem ul_699 : Cond.selects RX8 yX8_ticksToServe yX8_ticksToServe ∈ WA := z_in0 _ (List.mem_of_getElem? (i := 699) (by decide +kernel))
theorem ul_700 : Cond.code yX8_ticksToServe cX8_ticksToServe 3 (some .int) ∈ WA := z_in0 _ (List.mem_of_getElem? (i := 700) (by decide +kernel))
theorem ul_704 : Cond.methodLink RL 134 yX9_ticksToServe ∈ WA := z_in0 _ (List.mem_of_getElem? (i := 704) (by decide +kernel))
theorem ul_705 : Cond.instanceMethod yX9_ticksToServe ∈ WA := z_in0 _ (List.mem_of_getElem? (i := 705) (by decide +kernel))
theorem ul_706 : Cond.selects RX9 yX9_ticksToServe yX9_ticksToServe ∈ WA := z_in0 _ (List.mem_of_getElem? (i := 706) (by decide +kernel))
theorem ul_707 : Cond.code yX9_ticksToServe cX9_ticksToServe 2 (some .int) ∈ WA := z_in0 _ (List.mem_of_getElem? (i := 707) (by decide +kernel))
theorem ul_708 : Cond.methodLink RL 135 yL_cheapest ∈ WA := z_in0 _ (List.mem_of_getElem? (i := 708) (by decide +kernel))
theorem ul_709 : Cond.static yL_cheapest ∈ WA := z_in0 _ (List.mem_of_getElem? (i := 709) (by decide +kernel))
theorem ul_710 : Cond.codeWith yL_cheapest cL_cheapest 5 (some .int) [(0, 10, 13, 19)] ∈ WA := z_in0 _ (List.mem_of_getElem? (i := 710) (by decide +kernel))
theorem ul_715 : Cond.methodLink RL 138 yX9_cheapest ∈ WA := z_in0 _ (List.mem_of_getElem? (i := 715) (by decide +kernel))
theorem ul_716 : Cond.instanceMethod yX9_cheapest ∈ WA := z_in0 _ (List.mem_of_getElem? (i := 716) (by decide +kernel))
theorem ul_717 : Cond.selects RX9 yX9_cheapest yX9_cheapest ∈ WA := z_in0 _ (List.mem_of_getElem? (i := 717) (by decide +kernel))
theorem ul_718 : Cond.code yX9_cheapest cX9_cheapest 7 (some .int) ∈ WA := z_in0 _ (List.mem_of_getElem? (i := 718) (by decide +kernel))
theorem ul_729 : Cond.methodLink RL 144 yL_append ∈ WA := z_in0 _ (List.mem_of_getElem? (i := 729) (by decide +kernel))
theorem ul_730 : Cond.static yL_append ∈ WA := z_in0 _ (List.mem_of_getElem? (i := 730) (by decide +kernel))
theorem ul_731 : Cond.codeWith yL_append cL_append 4 (some .int) [(0, 9, 12, 13), (0, 9, 15, 21)] ∈ WA := z_in0 _ (List.mem_of_getElem? (i := 731) (by decide +kernel))
theorem ul_736 : Cond.methodLink RL 146 yX9_append ∈ WA := z_in0 _ (List.mem_of_getElem? (i := 736) (by decide +kernel))
theorem ul_737 : Cond.instanceMethod yX9_append ∈ WA := z_in0 _ (List.mem_of_getElem? (i := 737) (by decide +kernel))
theorem ul_738 : Cond.selects RX9 yX9_append yX9_append ∈ WA := z_in0 _ (List.mem_of_getElem? (i := 738) (by decide +kernel))
theorem ul_739 : Cond.code yX9_append cX9_append 2 (some .int) ∈ WA := z_in0 _ (List.mem_of_getElem? (i := 739) (by decide +kernel))
theorem ul_741 : Cond.methodLink RL 147 yX8_clearText ∈ WA := z_in0 _ (List.mem_of_getElem? (i := 741) (by decide +kernel))
theorem ul_742 : Cond.instanceMethod yX8_clearText ∈ WA := z_in0 _ (List.mem_of_getElem? (i := 742) (by decide +kernel))
theorem ul_743 : Cond.selects RX8 yX8_clearText yX8_clearText ∈ WA := z_in0 _ (List.mem_of_getElem? (i := 743) (by decide +kernel))
theorem ul_744 : Cond.code yX8_clearText cX8_clearText 2 (some .int) ∈ WA := z_in0 _ (List.mem_of_getElem? (i := 744) (by decide +kernel))
theorem ul_745 : Cond.methodLink RL 150 yX9_clearText ∈ WA := z_in0 _ (List.mem_of_getElem? (i := 745) (by decide +kernel))
theorem ul_746 : Cond.instanceMethod yX9_clearText ∈ WA := z_in0 _ (List.mem_of_getElem? (i := 746) (by decide +kernel))
theorem ul_747 : Cond.selects RX9 yX9_clearText yX9_clearText ∈ WA := z_in0 _ (List.mem_of_getElem? (i := 747) (by decide +kernel))
theorem ul_748 : Cond.code yX9_clearText cX9_clearText 2 (some .int) ∈ WA := z_in0 _ (List.mem_of_getElem? (i := 748) (by decide +kernel))
theorem ul_749 : Cond.methodLink RL 151 yX8_carryOut ∈ WA := z_in0 _ (List.mem_of_getElem? (i := 749) (by decide +kernel))
theorem ul_750 : Cond.instanceMethod yX8_carryOut ∈ WA := z_in0 _ (List.mem_of_getElem? (i := 750) (by decide +kernel))
theorem ul_751 : Cond.selects RX8 yX8_carryOut yX8_carryOut ∈ WA := z_in0 _ (List.mem_of_getElem? (i := 751) (by decide +kernel))
theorem ul_752 : Cond.code yX8_carryOut cX8_carryOut 3 (some .int) ∈ WA := z_in0 _ (List.mem_of_getElem? (i := 752) (by decide +kernel))
theorem ul_816 : Cond.methodLink RL 154 yX9_carryOut ∈ WA := z_in0 _ (List.mem_of_getElem? (i := 816) (by decide +kernel))
theorem ul_817 : Cond.instanceMethod yX9_carryOut ∈ WA := z_in0 _ (List.mem_of_getElem? (i := 817) (by decide +kernel))
theorem ul_818 : Cond.selects RX9 yX9_carryOut yX9_carryOut ∈ WA := z_in0 _ (List.mem_of_getElem? (i := 818) (by decide +kernel))
theorem ul_819 : Cond.code yX9_carryOut cX9_carryOut 3 (some .int) ∈ WA := z_in0 _ (List.mem_of_getElem? (i := 819) (by decide +kernel))
theorem ul_841 : Cond.methodLink RL 155 yL_undo ∈ WA := z_in0 _ (List.mem_of_getElem? (i := 841) (by decide +kernel))
theorem ul_842 : Cond.static yL_undo ∈ WA := z_in0 _ (List.mem_of_getElem? (i := 842) (by decide +kernel))
theorem ul_843 : Cond.codeWith yL_undo cL_undo 3 (some .int) [(0, 8, 11, 21)] ∈ WA := z_in0 _ (List.mem_of_getElem? (i := 843) (by decide +kernel))
theorem ul_853 : Cond.methodLink RL 158 yX9_undo ∈ WA := z_in0 _ (List.mem_of_getElem? (i := 853) (by decide +kernel))
theorem ul_854 : Cond.instanceMethod yX9_undo ∈ WA := z_in0 _ (List.mem_of_getElem? (i := 854) (by decide +kernel))
theorem ul_855 : Cond.selects RX9 yX9_undo yX9_undo ∈ WA := z_in0 _ (List.mem_of_getElem? (i := 855) (by decide +kernel))
theorem ul_856 : Cond.code yX9_undo cX9_undo 2 (some .int) ∈ WA := z_in0 _ (List.mem_of_getElem? (i := 856) (by decide +kernel))
theorem ul_857 : Cond.methodLink RL 159 yX8_digest ∈ WA := z_in0 _ (List.mem_of_getElem? (i := 857) (by decide +kernel))
theorem ul_858 : Cond.instanceMethod yX8_digest ∈ WA := z_in0 _ (List.mem_of_getElem? (i := 858) (by decide +kernel))
theorem ul_859 : Cond.selects RX8 yX8_digest yX8_digest ∈ WA := z_in0 _ (List.mem_of_getElem? (i := 859) (by decide +kernel))
theorem ul_860 : Cond.code yX8_digest cX8_digest 5 (some .long) ∈ WA := z_in0 _ (List.mem_of_getElem? (i := 860) (by decide +kernel))
theorem ul_867 : Cond.methodLink RL 163 yX9_digest ∈ WA := z_in0 _ (List.mem_of_getElem? (i := 867) (by decide +kernel))
theorem ul_868 : Cond.instanceMethod yX9_digest ∈ WA := z_in0 _ (List.mem_of_getElem? (i := 868) (by decide +kernel))
theorem ul_869 : Cond.selects RX9 yX9_digest yX9_digest ∈ WA := z_in0 _ (List.mem_of_getElem? (i := 869) (by decide +kernel))
theorem ul_870 : Cond.code yX9_digest cX9_digest 5 (some .long) ∈ WA := z_in0 _ (List.mem_of_getElem? (i := 870) (by decide +kernel))
theorem ul_719 : Cond.methodLink RL 139 yX8_hitRate ∈ WA := z_in0 _ (List.mem_of_getElem? (i := 719) (by decide +kernel))
theorem ul_720 : Cond.instanceMethod yX8_hitRate ∈ WA := z_in0 _ (List.mem_of_getElem? (i := 720) (by decide +kernel))
theorem ul_721 : Cond.selects RX8 yX8_hitRate yX8_hitRate ∈ WA := z_in0 _ (List.mem_of_getElem? (i := 721) (by decide +kernel))
theorem ul_722 : Cond.code yX8_hitRate cX8_hitRate 2 (some .double) ∈ WA := z_in0 _ (List.mem_of_getElem? (i := 722) (by decide +kernel))
theorem ul_725 : Cond.methodLink RL 143 yX9_hitRate ∈ WA := z_in0 _ (List.mem_of_getElem? (i := 725) (by decide +kernel))
theorem ul_726 : Cond.instanceMethod yX9_hitRate ∈ WA := z_in0 _ (List.mem_of_getElem? (i := 726) (by decide +kernel))
theorem ul_727 : Cond.selects RX9 yX9_hitRate yX9_hitRate ∈ WA := z_in0 _ (List.mem_of_getElem? (i := 727) (by decide +kernel))
theorem ul_728 : Cond.code yX9_hitRate cX9_hitRate 2 (some .double) ∈ WA := z_in0 _ (List.mem_of_getElem? (i := 728) (by decide +kernel))
theorem cwL_76 {R : Room} {s : State} {args : Array Value} (hts : ∀ w ∈ WA, w.before args s = true) (hR : rmL.frames + 1 ≤ R.frames ∧ 8 + (6 + 11) + rmL.locals ≤ R.locals) : vx_CSW R s args RL 76 yL_begin cL_begin 6 (some .int) [(0, 12, 15, 13)] (Cond.codeWith yL_begin cL_begin 6 (some .int) [(0, 12, 15, 13)] :: WA) rmL 8 48 5 := vx_cwSW 5 hts (z_goodSW ul_138 ul_139 ul_140 ul_141) rfl rfl rfl (by decide +kernel) hR
theorem cwL_81 {R : Room} {s : State} {args : Array Value} (hts : ∀ w ∈ WA, w.before args s = true) (hR : rmX9_begin.frames + 1 ≤ R.frames ∧ 8 + (5 + 11) + rmX9_begin.locals ≤ R.locals) : CallW R s args RL RX9 81 yX9_begin cX9_begin 5 (some .int) (Cond.code yX9_begin cX9_begin 5 (some .int) :: WA) rmX9_begin 0 0 3 := cwV 3 hts (z_goodV ul_191 ul_192 ul_193 ul_5 ul_194) rfl rfl rfl (by decide +kernel) hR
theorem cwL_82 {R : Room} {s : State} {args : Array Value} (hts : ∀ w ∈ WA, w.before args s = true) (hR : rmX9_thrown.frames + 1 ≤ R.frames ∧ 8 + (1 + 11) + rmX9_thrown.locals ≤ R.locals) : CallW R s args RL RX9 82 yX9_thrown cX9_thrown 1 (some .int) (Cond.code yX9_thrown cX9_thrown 1 (some .int) :: WA) rmX9_thrown 0 0 0 := cwV 0 hts (z_goodV ul_208 ul_209 ul_210 ul_5 ul_211) rfl rfl rfl (by decide +kernel) hR
theorem cwL_85 {R : Room} {s : State} {args : Array Value} (hts : ∀ w ∈ WA, w.before args s = true) (hR : rmL.frames + 1 ≤ R.frames ∧ 8 + (5 + 11) + rmL.locals ≤ R.locals) : vx_CSW R s args RL 85 yL_read cL_read 5 (some .int) [(0, 10, 13, 19), (0, 10, 17, 21)] (Cond.codeWith yL_read cL_read 5 (some .int) [(0, 10, 13, 19), (0, 10, 17, 21)] :: WA) rmL 8 48 4 := vx_cwSW 4 hts (z_goodSW ul_212 ul_213 ul_140 ul_214) rfl rfl rfl (by decide +kernel) hR
theorem cwL_88 {R : Room} {s : State} {args : Array Value} (hts : ∀ w ∈ WA, w.before args s = true) (hR : rmX9_read.frames + 1 ≤ R.frames ∧ 8 + (3 + 11) + rmX9_read.locals ≤ R.locals) : CallW R s args RL RX9 88 yX9_read cX9_read 3 (some .int) (Cond.code yX9_read cX9_read 3 (some .int) :: WA) rmX9_read 0 0 2 := cwV 2 hts (z_goodV ul_249 ul_250 ul_251 ul_5 ul_252) rfl rfl rfl (by decide +kernel) hR
theorem cwL_89 {R : Room} {s : State} {args : Array Value} (hts : ∀ w ∈ WA, w.before args s = true) (hR : rmL.frames + 1 ≤ R.frames ∧ 8 + (6 + 11) + rmL.locals ≤ R.locals) : vx_CSW R s args RL 89 yL_write cL_write 6 (some .int) [(0, 12, 15, 19), (0, 12, 19, 13), (0, 12, 23, 21)] (Cond.codeWith yL_write cL_write 6 (some .int) [(0, 12, 15, 19), (0, 12, 19, 13), (0, 12, 23, 21)] :: WA) rmL 8 48 5 := vx_cwSW 5 hts (z_goodSW ul_279 ul_280 ul_140 ul_281) rfl rfl rfl (by decide +kernel) hR
theorem cwL_91 {R : Room} {s : State} {args : Array Value} (hts : ∀ w ∈ WA, w.before args s = true) (hR : rmX9_write.frames + 1 ≤ R.frames ∧ 8 + (4 + 11) + rmX9_write.locals ≤ R.locals) : CallW R s args RL RX9 91 yX9_write cX9_write 4 (some .int) (Cond.code yX9_write cX9_write 4 (some .int) :: WA) rmX9_write 0 0 3 := cwV 3 hts (z_goodV ul_286 ul_287 ul_288 ul_5 ul_289) rfl rfl rfl (by decide +kernel) hR
theorem cwL_92 {R : Room} {s : State} {args : Array Value} (hts : ∀ w ∈ WA, w.before args s = true) (hR : rmL.frames + 1 ≤ R.frames ∧ 8 + (4 + 11) + rmL.locals ≤ R.locals) : vx_CSW R s args RL 92 yL_takeBack cL_takeBack 4 (some .int) [(0, 9, 12, 19), (0, 9, 15, 21)] (Cond.codeWith yL_takeBack cL_takeBack 4 (some .int) [(0, 9, 12, 19), (0, 9, 15, 21)] :: WA) rmL 8 48 3 := vx_cwSW 3 hts (z_goodSW ul_290 ul_291 ul_140 ul_292) rfl rfl rfl (by decide +kernel) hR
theorem cwL_95 {R : Room} {s : State} {args : Array Value} (hts : ∀ w ∈ WA, w.before args s = true) (hR : rmX9_takeBack.frames + 1 ≤ R.frames ∧ 8 + (3 + 11) + rmX9_takeBack.locals ≤ R.locals) : CallW R s args RL RX9 95 yX9_takeBack cX9_takeBack 3 (some .int) (Cond.code yX9_takeBack cX9_takeBack 3 (some .int) :: WA) rmX9_takeBack 0 0 1 := cwV 1 hts (z_goodV ul_302 ul_303 ul_304 ul_5 ul_305) rfl rfl rfl (by decide +kernel) hR
theorem cwL_96 {R : Room} {s : State} {args : Array Value} (hts : ∀ w ∈ WA, w.before args s = true) (hR : rmL.frames + 1 ≤ R.frames ∧ 8 + (4 + 11) + rmL.locals ≤ R.locals) : vx_CSW R s args RL 96 yL_pass cL_pass 4 (some .int) [(0, 9, 12, 13), (0, 9, 15, 21)] (Cond.codeWith yL_pass cL_pass 4 (some .int) [(0, 9, 12, 13), (0, 9, 15, 21)] :: WA) rmL 8 48 3 := vx_cwSW 3 hts (z_goodSW ul_306 ul_307 ul_140 ul_308) rfl rfl rfl (by decide +kernel) hR
theorem cwL_98 {R : Room} {s : State} {args : Array Value} (hts : ∀ w ∈ WA, w.before args s = true) (hR : rmX9_pass.frames + 1 ≤ R.frames ∧ 8 + (2 + 11) + rmX9_pass.locals ≤ R.locals) : CallW R s args RL RX9 98 yX9_pass cX9_pass 2 (some .int) (Cond.code yX9_pass cX9_pass 2 (some .int) :: WA) rmX9_pass 0 0 1 := cwV 1 hts (z_goodV ul_453 ul_454 ul_455 ul_5 ul_456) rfl rfl rfl (by decide +kernel) hR
theorem cwL_99 {R : Room} {s : State} {args : Array Value} (hts : ∀ w ∈ WA, w.before args s = true) (hR : rmL.frames + 1 ≤ R.frames ∧ 8 + (5 + 11) + rmL.locals ≤ R.locals) : vx_CSW R s args RL 99 yL_drop cL_drop 5 (some .int) [(0, 10, 13, 19), (0, 10, 17, 21)] (Cond.codeWith yL_drop cL_drop 5 (some .int) [(0, 10, 13, 19), (0, 10, 17, 21)] :: WA) rmL 8 48 4 := vx_cwSW 4 hts (z_goodSW ul_514 ul_515 ul_140 ul_516) rfl rfl rfl (by decide +kernel) hR
theorem cwL_101 {R : Room} {s : State} {args : Array Value} (hts : ∀ w ∈ WA, w.before args s = true) (hR : rmX9_drop.frames + 1 ≤ R.frames ∧ 8 + (5 + 11) + rmX9_drop.locals ≤ R.locals) : CallW R s args RL RX9 101 yX9_drop cX9_drop 5 (some .int) (Cond.code yX9_drop cX9_drop 5 (some .int) :: WA) rmX9_drop 0 0 2 := cwV 2 hts (z_goodV ul_525 ul_526 ul_527 ul_5 ul_528) rfl rfl rfl (by decide +kernel) hR
theorem cwL_102 {R : Room} {s : State} {args : Array Value} (hts : ∀ w ∈ WA, w.before args s = true) (hR : rmL.frames + 1 ≤ R.frames ∧ 8 + (4 + 11) + rmL.locals ≤ R.locals) : vx_CSW R s args RL 102 yL_tear cL_tear 4 (some .int) [(0, 9, 12, 19), (0, 9, 15, 21)] (Cond.codeWith yL_tear cL_tear 4 (some .int) [(0, 9, 12, 19), (0, 9, 15, 21)] :: WA) rmL 8 48 3 := vx_cwSW 3 hts (z_goodSW ul_529 ul_530 ul_140 ul_531) rfl rfl rfl (by decide +kernel) hR
theorem cwL_104 {R : Room} {s : State} {args : Array Value} (hts : ∀ w ∈ WA, w.before args s = true) (hR : rmX9_tear.frames + 1 ≤ R.frames ∧ 8 + (4 + 11) + rmX9_tear.locals ≤ R.locals) : CallW R s args RL RX9 104 yX9_tear cX9_tear 4 (some .int) (Cond.code yX9_tear cX9_tear 4 (some .int) :: WA) rmX9_tear 0 0 1 := cwV 1 hts (z_goodV ul_540 ul_541 ul_542 ul_5 ul_543) rfl rfl rfl (by decide +kernel) hR
theorem cwL_105 {R : Room} {s : State} {args : Array Value} (hts : ∀ w ∈ WA, w.before args s = true) (hR : rmL.frames + 1 ≤ R.frames ∧ 8 + (6 + 11) + rmL.locals ≤ R.locals) : vx_CSW R s args RL 105 yL_copy cL_copy 6 (some .int) [(0, 12, 15, 19), (0, 12, 19, 13)] (Cond.codeWith yL_copy cL_copy 6 (some .int) [(0, 12, 15, 19), (0, 12, 19, 13)] :: WA) rmL 8 48 5 := vx_cwSW 5 hts (z_goodSW ul_547 ul_548 ul_140 ul_549) rfl rfl rfl (by decide +kernel) hR
theorem cwL_107 {R : Room} {s : State} {args : Array Value} (hts : ∀ w ∈ WA, w.before args s = true) (hR : rmX9_copy.frames + 1 ≤ R.frames ∧ 8 + (4 + 11) + rmX9_copy.locals ≤ R.locals) : CallW R s args RL RX9 107 yX9_copy cX9_copy 4 (some .int) (Cond.code yX9_copy cX9_copy 4 (some .int) :: WA) rmX9_copy 0 0 3 := cwV 3 hts (z_goodV ul_562 ul_563 ul_564 ul_5 ul_565) rfl rfl rfl (by decide +kernel) hR
theorem cwL_108 {R : Room} {s : State} {args : Array Value} (hts : ∀ w ∈ WA, w.before args s = true) (hR : rmL.frames + 1 ≤ R.frames ∧ 8 + (5 + 11) + rmL.locals ≤ R.locals) : vx_CSW R s args RL 108 yL_line cL_line 5 (some .int) [(0, 10, 13, 19), (0, 10, 17, 13)] (Cond.codeWith yL_line cL_line 5 (some .int) [(0, 10, 13, 19), (0, 10, 17, 13)] :: WA) rmL 8 48 4 := vx_cwSW 4 hts (z_goodSW ul_570 ul_571 ul_140 ul_572) rfl rfl rfl (by decide +kernel) hR
theorem cwL_110 {R : Room} {s : State} {args : Array Value} (hts : ∀ w ∈ WA, w.before args s = true) (hR : rmX9_line.frames + 1 ≤ R.frames ∧ 8 + (3 + 11) + rmX9_line.locals ≤ R.locals) : CallW R s args RL RX9 110 yX9_line cX9_line 3 (some .int) (Cond.code yX9_line cX9_line 3 (some .int) :: WA) rmX9_line 0 0 2 := cwV 2 hts (z_goodV ul_581 ul_582 ul_583 ul_5 ul_584) rfl rfl rfl (by decide +kernel) hR
theorem cwL_111 {R : Room} {s : State} {args : Array Value} (hts : ∀ w ∈ WA, w.before args s = true) (hR : rmL.frames + 1 ≤ R.frames ∧ 8 + (5 + 11) + rmL.locals ≤ R.locals) : vx_CSW R s args RL 111 yL_pending cL_pending 5 (some .int) [(0, 10, 13, 19), (0, 10, 17, 13)] (Cond.codeWith yL_pending cL_pending 5 (some .int) [(0, 10, 13, 19), (0, 10, 17, 13)] :: WA) rmL 8 48 4 := vx_cwSW 4 hts (z_goodSW ul_589 ul_590 ul_140 ul_591) rfl rfl rfl (by decide +kernel) hR
theorem cwL_113 {R : Room} {s : State} {args : Array Value} (hts : ∀ w ∈ WA, w.before args s = true) (hR : rmX9_pending.frames + 1 ≤ R.frames ∧ 8 + (3 + 11) + rmX9_pending.locals ≤ R.locals) : CallW R s args RL RX9 113 yX9_pending cX9_pending 3 (some .int) (Cond.code yX9_pending cX9_pending 3 (some .int) :: WA) rmX9_pending 0 0 2 := cwV 2 hts (z_goodV ul_600 ul_601 ul_602 ul_5 ul_603) rfl rfl rfl (by decide +kernel) hR
theorem cwL_114 {R : Room} {s : State} {args : Array Value} (hts : ∀ w ∈ WA, w.before args s = true) (hR : rmL.frames + 1 ≤ R.frames ∧ 8 + (5 + 11) + rmL.locals ≤ R.locals) : vx_CSW R s args RL 114 yL_entry cL_entry 5 (some .int) [(0, 10, 13, 19), (0, 10, 17, 13)] (Cond.codeWith yL_entry cL_entry 5 (some .int) [(0, 10, 13, 19), (0, 10, 17, 13)] :: WA) rmL 8 48 4 := vx_cwSW 4 hts (z_goodSW ul_608 ul_609 ul_140 ul_610) rfl rfl rfl (by decide +kernel) hR
theorem cwL_116 {R : Room} {s : State} {args : Array Value} (hts : ∀ w ∈ WA, w.before args s = true) (hR : rmX9_entry.frames + 1 ≤ R.frames ∧ 8 + (3 + 11) + rmX9_entry.locals ≤ R.locals) : CallW R s args RL RX9 116 yX9_entry cX9_entry 3 (some .int) (Cond.code yX9_entry cX9_entry 3 (some .int) :: WA) rmX9_entry 0 0 2 := cwV 2 hts (z_goodV ul_621 ul_622 ul_623 ul_5 ul_624) rfl rfl rfl (by decide +kernel) hR
theorem cwL_117 {R : Room} {s : State} {args : Array Value} (hts : ∀ w ∈ WA, w.before args s = true) (hR : rmL.frames + 1 ≤ R.frames ∧ 8 + (4 + 11) + rmL.locals ≤ R.locals) : vx_CSW R s args RL 117 yL_value cL_value 4 (some .int) [(0, 9, 12, 13)] (Cond.codeWith yL_value cL_value 4 (some .int) [(0, 9, 12, 13)] :: WA) rmL 8 48 3 := vx_cwSW 3 hts (z_goodSW ul_625 ul_626 ul_140 ul_627) rfl rfl rfl (by decide +kernel) hR
theorem cwL_119 {R : Room} {s : State} {args : Array Value} (hts : ∀ w ∈ WA, w.before args s = true) (hR : rmX9_value.frames + 1 ≤ R.frames ∧ 8 + (2 + 11) + rmX9_value.locals ≤ R.locals) : CallW R s args RL RX9 119 yX9_value cX9_value 2 (some .int) (Cond.code yX9_value cX9_value 2 (some .int) :: WA) rmX9_value 0 0 1 := cwV 1 hts (z_goodV ul_640 ul_641 ul_642 ul_5 ul_643) rfl rfl rfl (by decide +kernel) hR
theorem cwL_120 {R : Room} {s : State} {args : Array Value} (hts : ∀ w ∈ WA, w.before args s = true) (hR : rmL.frames + 1 ≤ R.frames ∧ 8 + (6 + 11) + rmL.locals ≤ R.locals) : vx_CSW R s args RL 120 yL_cost cL_cost 6 (some .int) [(0, 12, 15, 19)] (Cond.codeWith yL_cost cL_cost 6 (some .int) [(0, 12, 15, 19)] :: WA) rmL 8 48 5 := vx_cwSW 5 hts (z_goodSW ul_652 ul_653 ul_140 ul_654) rfl rfl rfl (by decide +kernel) hR
theorem cwL_123 {R : Room} {s : State} {args : Array Value} (hts : ∀ w ∈ WA, w.before args s = true) (hR : rmX9_cost.frames + 1 ≤ R.frames ∧ 8 + (4 + 11) + rmX9_cost.locals ≤ R.locals) : CallW R s args RL RX9 123 yX9_cost cX9_cost 4 (some .int) (Cond.code yX9_cost cX9_cost 4 (some .int) :: WA) rmX9_cost 0 0 3 := cwV 3 hts (z_goodV ul_660 ul_661 ul_662 ul_5 ul_663) rfl rfl rfl (by decide +kernel) hR
theorem cwL_124 {R : Room} {s : State} {args : Array Value} (hts : ∀ w ∈ WA, w.before args s = true) (hR : rmX8_nextTorn.frames + 1 ≤ R.frames ∧ 8 + (1 + 11) + rmX8_nextTorn.locals ≤ R.locals) : CallW R s args RL RX8 124 yX8_nextTorn cX8_nextTorn 1 (some .int) (Cond.code yX8_nextTorn cX8_nextTorn 1 (some .int) :: WA) rmX8_nextTorn 0 0 0 := cwV 0 hts (z_goodV ul_676 ul_677 ul_678 ul_2 ul_679) rfl rfl rfl (by decide +kernel) hR
theorem cwL_127 {R : Room} {s : State} {args : Array Value} (hts : ∀ w ∈ WA, w.before args s = true) (hR : rmX9_nextTorn.frames + 1 ≤ R.frames ∧ 8 + (1 + 11) + rmX9_nextTorn.locals ≤ R.locals) : CallW R s args RL RX9 127 yX9_nextTorn cX9_nextTorn 1 (some .int) (Cond.code yX9_nextTorn cX9_nextTorn 1 (some .int) :: WA) rmX9_nextTorn 0 0 0 := cwV 0 hts (z_goodV ul_681 ul_682 ul_683 ul_5 ul_684) rfl rfl rfl (by decide +kernel) hR
theorem cwL_128 {R : Room} {s : State} {args : Array Value} (hts : ∀ w ∈ WA, w.before args s = true) (hR : rmL.frames + 1 ≤ R.frames ∧ 8 + (4 + 11) + rmL.locals ≤ R.locals) : vx_CSW R s args RL 128 yL_nextDropped cL_nextDropped 4 (some .int) [(0, 9, 12, 19)] (Cond.codeWith yL_nextDropped cL_nextDropped 4 (some .int) [(0, 9, 12, 19)] :: WA) rmL 8 48 3 := vx_cwSW 3 hts (z_goodSW ul_685 ul_686 ul_140 ul_687) rfl rfl rfl (by decide +kernel) hR
theorem cwL_130 {R : Room} {s : State} {args : Array Value} (hts : ∀ w ∈ WA, w.before args s = true) (hR : rmX9_nextDropped.frames + 1 ≤ R.frames ∧ 8 + (2 + 11) + rmX9_nextDropped.locals ≤ R.locals) : CallW R s args RL RX9 130 yX9_nextDropped cX9_nextDropped 2 (some .int) (Cond.code yX9_nextDropped cX9_nextDropped 2 (some .int) :: WA) rmX9_nextDropped 0 0 1 := cwV 1 hts (z_goodV ul_693 ul_694 ul_695 ul_5 ul_696) rfl rfl rfl (by decide +kernel) hR
theorem cwL_131 {R : Room} {s : State} {args : Array Value} (hts : ∀ w ∈ WA, w.before args s = true) (hR : rmX8_ticksToServe.frames + 1 ≤ R.frames ∧ 8 + (3 + 11) + rmX8_ticksToServe.locals ≤ R.locals) : CallW R s args RL RX8 131 yX8_ticksToServe cX8_ticksToServe 3 (some .int) (Cond.code yX8_ticksToServe cX8_ticksToServe 3 (some .int) :: WA) rmX8_ticksToServe 0 0 0 := cwV 0 hts (z_goodV ul_697 ul_698 ul_699 ul_2 ul_700) rfl rfl rfl (by decide +kernel) hR
theorem cwL_134 {R : Room} {s : State} {args : Array Value} (hts : ∀ w ∈ WA, w.before args s = true) (hR : rmX9_ticksToServe.frames + 1 ≤ R.frames ∧ 8 + (2 + 11) + rmX9_ticksToServe.locals ≤ R.locals) : CallW R s args RL RX9 134 yX9_ticksToServe cX9_ticksToServe 2 (some .int) (Cond.code yX9_ticksToServe cX9_ticksToServe 2 (some .int) :: WA) rmX9_ticksToServe 0 0 0 := cwV 0 hts (z_goodV ul_704 ul_705 ul_706 ul_5 ul_707) rfl rfl rfl (by decide +kernel) hR
theorem cwL_135 {R : Room} {s : State} {args : Array Value} (hts : ∀ w ∈ WA, w.before args s = true) (hR : rmL.frames + 1 ≤ R.frames ∧ 8 + (5 + 11) + rmL.locals ≤ R.locals) : vx_CSW R s args RL 135 yL_cheapest cL_cheapest 5 (some .int) [(0, 10, 13, 19)] (Cond.codeWith yL_cheapest cL_cheapest 5 (some .int) [(0, 10, 13, 19)] :: WA) rmL 8 48 4 := vx_cwSW 4 hts (z_goodSW ul_708 ul_709 ul_140 ul_710) rfl rfl rfl (by decide +kernel) hR
theorem cwL_138 {R : Room} {s : State} {args : Array Value} (hts : ∀ w ∈ WA, w.before args s = true) (hR : rmX9_cheapest.frames + 1 ≤ R.frames ∧ 8 + (7 + 11) + rmX9_cheapest.locals ≤ R.locals) : CallW R s args RL RX9 138 yX9_cheapest cX9_cheapest 7 (some .int) (Cond.code yX9_cheapest cX9_cheapest 7 (some .int) :: WA) rmX9_cheapest 0 0 2 := cwV 2 hts (z_goodV ul_715 ul_716 ul_717 ul_5 ul_718) rfl rfl rfl (by decide +kernel) hR
theorem cwL_144 {R : Room} {s : State} {args : Array Value} (hts : ∀ w ∈ WA, w.before args s = true) (hR : rmL.frames + 1 ≤ R.frames ∧ 8 + (4 + 11) + rmL.locals ≤ R.locals) : vx_CSW R s args RL 144 yL_append cL_append 4 (some .int) [(0, 9, 12, 13), (0, 9, 15, 21)] (Cond.codeWith yL_append cL_append 4 (some .int) [(0, 9, 12, 13), (0, 9, 15, 21)] :: WA) rmL 8 48 3 := vx_cwSW 3 hts (z_goodSW ul_729 ul_730 ul_140 ul_731) rfl rfl rfl (by decide +kernel) hR
theorem cwL_146 {R : Room} {s : State} {args : Array Value} (hts : ∀ w ∈ WA, w.before args s = true) (hR : rmX9_append.frames + 1 ≤ R.frames ∧ 8 + (2 + 11) + rmX9_append.locals ≤ R.locals) : CallW R s args RL RX9 146 yX9_append cX9_append 2 (some .int) (Cond.code yX9_append cX9_append 2 (some .int) :: WA) rmX9_append 0 0 1 := cwV 1 hts (z_goodV ul_736 ul_737 ul_738 ul_5 ul_739) rfl rfl rfl (by decide +kernel) hR
theorem cwL_147 {R : Room} {s : State} {args : Array Value} (hts : ∀ w ∈ WA, w.before args s = true) (hR : rmX8_clearText.frames + 1 ≤ R.frames ∧ 8 + (2 + 11) + rmX8_clearText.locals ≤ R.locals) : CallW R s args RL RX8 147 yX8_clearText cX8_clearText 2 (some .int) (Cond.code yX8_clearText cX8_clearText 2 (some .int) :: WA) rmX8_clearText 0 0 0 := cwV 0 hts (z_goodV ul_741 ul_742 ul_743 ul_2 ul_744) rfl rfl rfl (by decide +kernel) hR
theorem cwL_150 {R : Room} {s : State} {args : Array Value} (hts : ∀ w ∈ WA, w.before args s = true) (hR : rmX9_clearText.frames + 1 ≤ R.frames ∧ 8 + (2 + 11) + rmX9_clearText.locals ≤ R.locals) : CallW R s args RL RX9 150 yX9_clearText cX9_clearText 2 (some .int) (Cond.code yX9_clearText cX9_clearText 2 (some .int) :: WA) rmX9_clearText 0 0 0 := cwV 0 hts (z_goodV ul_745 ul_746 ul_747 ul_5 ul_748) rfl rfl rfl (by decide +kernel) hR
theorem cwL_151 {R : Room} {s : State} {args : Array Value} (hts : ∀ w ∈ WA, w.before args s = true) (hR : rmX8_carryOut.frames + 1 ≤ R.frames ∧ 8 + (3 + 11) + rmX8_carryOut.locals ≤ R.locals) : CallW R s args RL RX8 151 yX8_carryOut cX8_carryOut 3 (some .int) (Cond.code yX8_carryOut cX8_carryOut 3 (some .int) :: WA) rmX8_carryOut 0 0 0 := cwV 0 hts (z_goodV ul_749 ul_750 ul_751 ul_2 ul_752) rfl rfl rfl (by decide +kernel) hR
theorem cwL_154 {R : Room} {s : State} {args : Array Value} (hts : ∀ w ∈ WA, w.before args s = true) (hR : rmX9_carryOut.frames + 1 ≤ R.frames ∧ 8 + (3 + 11) + rmX9_carryOut.locals ≤ R.locals) : CallW R s args RL RX9 154 yX9_carryOut cX9_carryOut 3 (some .int) (Cond.code yX9_carryOut cX9_carryOut 3 (some .int) :: WA) rmX9_carryOut 0 0 0 := cwV 0 hts (z_goodV ul_816 ul_817 ul_818 ul_5 ul_819) rfl rfl rfl (by decide +kernel) hR
theorem cwL_155 {R : Room} {s : State} {args : Array Value} (hts : ∀ w ∈ WA, w.before args s = true) (hR : rmL.frames + 1 ≤ R.frames ∧ 8 + (3 + 11) + rmL.locals ≤ R.locals) : vx_CSW R s args RL 155 yL_undo cL_undo 3 (some .int) [(0, 8, 11, 21)] (Cond.codeWith yL_undo cL_undo 3 (some .int) [(0, 8, 11, 21)] :: WA) rmL 8 48 2 := vx_cwSW 2 hts (z_goodSW ul_841 ul_842 ul_140 ul_843) rfl rfl rfl (by decide +kernel) hR
theorem cwL_158 {R : Room} {s : State} {args : Array Value} (hts : ∀ w ∈ WA, w.before args s = true) (hR : rmX9_undo.frames + 1 ≤ R.frames ∧ 8 + (2 + 11) + rmX9_undo.locals ≤ R.locals) : CallW R s args RL RX9 158 yX9_undo cX9_undo 2 (some .int) (Cond.code yX9_undo cX9_undo 2 (some .int) :: WA) rmX9_undo 0 0 0 := cwV 0 hts (z_goodV ul_853 ul_854 ul_855 ul_5 ul_856) rfl rfl rfl (by decide +kernel) hR
theorem cwL_159 {R : Room} {s : State} {args : Array Value} (hts : ∀ w ∈ WA, w.before args s = true) (hR : rmX8_digest.frames + 1 ≤ R.frames ∧ 8 + (5 + 11) + rmX8_digest.locals ≤ R.locals) : CallW R s args RL RX8 159 yX8_digest cX8_digest 5 (some .long) (Cond.code yX8_digest cX8_digest 5 (some .long) :: WA) rmX8_digest 0 0 0 := cwV 0 hts (z_goodV ul_857 ul_858 ul_859 ul_2 ul_860) rfl rfl rfl (by decide +kernel) hR
theorem cwL_163 {R : Room} {s : State} {args : Array Value} (hts : ∀ w ∈ WA, w.before args s = true) (hR : rmX9_digest.frames + 1 ≤ R.frames ∧ 8 + (5 + 11) + rmX9_digest.locals ≤ R.locals) : CallW R s args RL RX9 163 yX9_digest cX9_digest 5 (some .long) (Cond.code yX9_digest cX9_digest 5 (some .long) :: WA) rmX9_digest 0 0 0 := cwV 0 hts (z_goodV ul_867 ul_868 ul_869 ul_5 ul_870) rfl rfl rfl (by decide +kernel) hR
theorem cwL_139 {R : Room} {s : State} {args : Array Value} (hts : ∀ w ∈ WA, w.before args s = true) (hR : rmD0.frames + 1 ≤ R.frames ∧ 8 + (2 + 11) + rmD0.locals ≤ R.locals) : CallW R s args RL RX8 139 yX8_hitRate cX8_hitRate 2 (some .double) (Cond.code yX8_hitRate cX8_hitRate 2 (some .double) :: WA) rmD0 0 0 0 := cwV 0 hts (z_goodV ul_719 ul_720 ul_721 ul_2 ul_722) rfl rfl rfl (by decide +kernel) hR
theorem cwL_143 {R : Room} {s : State} {args : Array Value} (hts : ∀ w ∈ WA, w.before args s = true) (hR : rmD0.frames + 1 ≤ R.frames ∧ 8 + (2 + 11) + rmD0.locals ≤ R.locals) : CallW R s args RL RX9 143 yX9_hitRate cX9_hitRate 2 (some .double) (Cond.code yX9_hitRate cX9_hitRate 2 (some .double) :: WA) rmD0 0 0 0 := cwV 0 hts (z_goodV ul_725 ul_726 ul_727 ul_5 ul_728) rfl rfl rfl (by decide +kernel) hR
set_option maxHeartbeats 4000000 in
set_option maxRecDepth 100000 in
theorem lop_begin {p : Program} {l : Launch} {e : Env} {s : State} {m : MethodId} {args : Array Value} {below : List Frame} {meth : Method} {c : Code} {H : Heap} {locs : List Loc} {cells slots : Nat} {Q : State → Prop} {ls : Array Slot} {D : va_G} {cI cB cM cL : ClassId} {ad6 : Nat → Nat} {a : Nat → Nat → Nat} {A : Nat → Prop} {h : Nat} {ad : Nat → Nat} {ao : Nat} {cI2 : ClassId} {b L : Nat} {xs : Nat → Int32} {χ : cSt} {σ : zSt} {f : Nat → Int64} {Rel : zSt → cSt → Prop} (hfl : l.stackTraces = false) (S : CallFix p m c code 9 s args WA RL) (F : lFx D cI cB cM cL ad6 a A h ad ao cI2 b L xs s) {k : Nat} (hk : 4 * k + 3 < L) (hL : L ≤ 2048) (hl : lv_has ls 9 [(0, .ref b), (1, .ref (a 0 0)), (2, .ref h), (3, .ref ao), (4, .int (nI (4 * k)))]) (hs : lS D cI cB cM cL ad6 a A h ad ao s χ σ f H locs) (hfit : cells + 8 ≤ room_1.cells ∧ slots + 48 ≤ room_1.slots) (hop : opT Rel (wk 0 (nI 1) 0) χ (fX8_begin (xs (4 * k + 1)) (xs (4 * k + 2)) (xs (4 * k + 3)) χ) (fX9_begin (xs (4 * k + 1)) (xs (4 * k + 2)) (xs (4 * k + 3)) σ)) (kk : ∀ (H1 : Heap) (locs1 : List Loc) (ls1 : Array Slot) (χ1 : cSt) (σ1 : zSt) (f1 : Nat → Int64), Rel σ1 χ1 → lv_has ls1 9 [(0, .ref b), (1, .ref (a 0 0)), (2, .ref h), (3, .ref ao), (4, .int (nI (4 * k)))] → lS D cI cB cM cL ad6 a A h ad ao s χ1 σ1 f1 H1 locs1 → W p l e room_1 s m args below meth c H1 locs1 (cells + 8) (slots + 48) Q (F0 m 1391 ls1 [])) : W p l e room_1 s m args below meth c H locs cells slots Q (F0 m 144 ls []) := by
  obtain ⟨res, b9, σ', e8, e9, hop⟩ := hop
  have hw := lq_hw hop
  refine lv_aload_n S.1 S.2.1 dL_law_144 rfl (lv_at hl 1 rfl) ?_
  refine lv_aload_n S.1 S.2.1 dL_law_145 rfl (lv_at hl 0 rfl) ?_
  refine lv_iload S.1 S.2.1 dL_law_146 (lv_at hl 4 rfl) ?_
  refine lv_iconst (v := nI 1) S.1 S.2.1 dL_law_148 (by decide) ?_
  refine lv_iadd S.1 S.2.1 dL_law_149 ?_
  refine l_ld S F hs (k := k) (j := 1) (by omega) hL (by omega) dL_law_150 ?_
  refine lv_aload_n S.1 S.2.1 dL_law_151 rfl (lv_at hl 0 rfl) ?_
  refine lv_iload S.1 S.2.1 dL_law_152 (lv_at hl 4 rfl) ?_
  refine lv_iconst (v := nI 2) S.1 S.2.1 dL_law_154 (by decide) ?_
  refine lv_iadd S.1 S.2.1 dL_law_155 ?_
  refine l_ld S F hs (k := k) (j := 2) (by omega) hL (by omega) dL_law_156 ?_
  refine lv_aload_n S.1 S.2.1 dL_law_157 rfl (lv_at hl 0 rfl) ?_
  refine lv_iload S.1 S.2.1 dL_law_158 (lv_at hl 4 rfl) ?_
  refine lv_iconst (v := nI 3) S.1 S.2.1 dL_law_160 (by decide) ?_
  refine lv_iadd S.1 S.2.1 dL_law_161 ?_
  refine l_ld S F hs (k := k) (j := 3) (by omega) hL (by omega) dL_law_162 ?_
  refine lv_aload_n S.1 S.2.1 dL_law_163 rfl (lv_at hl 3 rfl) ?_
  refine l_cw (rest := []) S F hs hl.1 (metL_begin l hfl D cI cB cM cL ad6 a A ao F.2.2.2.2.2.2.2.1 (xs (4 * k + 1)) (xs (4 * k + 2)) (xs (4 * k + 3)) χ f res e8 hw) (cwL_76 S.2.2.2.2 ⟨Nat.le_of_ble_eq_true rfl, Nat.le_of_ble_eq_true rfl⟩) rfl dL_law_164 rfl (Nat.le_of_ble_eq_true rfl) hfit (fun H locs r χ1 f1 hO hs => ?_)
  obtain ⟨hr9, hRel, hf0⟩ := lq_sum hO hop
  refine lv_istore (lv' := [(5, .int r), (0, .ref b), (1, .ref (a 0 0)), (2, .ref h), (3, .ref ao), (4, .int (nI (4 * k)))]) S.1 S.2.1 dL_law_167 hl (by decide) rfl (fun ls hl => ?_)
  refine lv_aload_n S.1 S.2.1 dL_law_169 rfl (lv_at hl 3 rfl) ?_
  refine lv_aload_n S.1 S.2.1 dL_law_170 rfl (lv_at hl 1 rfl) ?_
  refine lv_iload S.1 S.2.1 dL_law_171 (lv_at hl 5 rfl) ?_
  refine lv_iconst (v := nI 1) S.1 S.2.1 dL_law_173 (by decide) ?_
  refine lv_iadd S.1 S.2.1 dL_law_174 ?_
  refine l_ld S F hs (k := k) (j := 1) (by omega) hL (by omega) dL_law_175 ?_
  refine lv_aload_n S.1 S.2.1 dL_law_176 rfl (lv_at hl 1 rfl) ?_
  refine lv_iload S.1 S.2.1 dL_law_177 (lv_at hl 5 rfl) ?_
  refine lv_iconst (v := nI 2) S.1 S.2.1 dL_law_179 (by decide) ?_
  refine lv_iadd S.1 S.2.1 dL_law_180 ?_
  refine l_ld S F hs (k := k) (j := 2) (by omega) hL (by omega) dL_law_181 ?_
  refine lv_aload_n S.1 S.2.1 dL_law_182 rfl (lv_at hl 1 rfl) ?_
  refine lv_iload S.1 S.2.1 dL_law_183 (lv_at hl 5 rfl) ?_
  refine lv_iconst (v := nI 3) S.1 S.2.1 dL_law_185 (by decide) ?_
  refine lv_iadd S.1 S.2.1 dL_law_186 ?_
  refine l_ld S F hs (k := k) (j := 3) (by omega) hL (by omega) dL_law_187 ?_
  refine l_c9 (rest := []) S F hs hl.1 (metX9_begin l D cI h ad (xs (4 * k + 1)) (xs (4 * k + 2)) (xs (4 * k + 3)) σ b9 σ' e9) (cwL_81 S.2.2.2.2 ⟨Nat.le_of_ble_eq_true rfl, Nat.le_of_ble_eq_true rfl⟩) rfl dL_law_188 rfl (Nat.le_of_ble_eq_true rfl) ⟨hfit.1, hfit.2⟩ (fun H locs hs => ?_)
  refine lv_istore (lv' := [(6, .int b9), (5, .int r), (0, .ref b), (1, .ref (a 0 0)), (2, .ref h), (3, .ref ao), (4, .int (nI (4 * k)))]) S.1 S.2.1 dL_law_191 hl (by decide) rfl (fun ls hl => ?_)
  refine lv_aload_n S.1 S.2.1 dL_law_193 rfl (lv_at hl 4 rfl) ?_
  refine l_c9 (rest := []) S F hs hl.1 (metX9_thrown l D cI h ad σ' (σ' 7 0) rfl) (cwL_82 S.2.2.2.2 ⟨Nat.le_of_ble_eq_true rfl, Nat.le_of_ble_eq_true rfl⟩) rfl dL_law_194 rfl (Nat.le_of_ble_eq_true rfl) ⟨hfit.1, hfit.2⟩ (fun H locs hs => ?_)
  refine lv_iload S.1 S.2.1 dL_law_197 (lv_at hl 1 rfl) ?_
  refine lv_icmp_eq (tgt := 204) S.1 S.2.1 dL_law_199 (by decide) (fun _ => ?_) (fun hn => absurd hr9 hn)
  refine lv_iload S.1 S.2.1 dL_law_204 (lv_at hl 1 rfl) ?_
  refine lv_if_ne (tgt := 221) S.1 S.2.1 dL_law_206 (by decide) (fun hz9 => ?_) (fun hz9 => ?_)
  · skip
    refine lv_goto (tgt := 1391) S.1 S.2.1 dL_law_221 (by decide) ?_
    exact kk H locs ls χ1 σ' f1 hRel (lv_sub hl [2, 3, 4, 5, 6] rfl) hs
  · skip
    refine lv_aload_n S.1 S.2.1 dL_law_209 rfl (lv_at hl 5 rfl) ?_
    refine lv_iconst (v := nI 0) S.1 S.2.1 dL_law_210 (by decide) ?_
    refine l_lald S F hs dL_law_211 ?_
    refine lv_iload S.1 S.2.1 dL_law_212 (lv_at hl 0 rfl) ?_
    refine lv_i2l S.1 S.2.1 dL_law_214 rfl ?_
    refine W.lcmp S.1 S.2.1 dL_law_215 ?_
    rw [hf0 hz9, l_cmp0]
    refine lv_if_eq (tgt := 221) S.1 S.2.1 dL_law_216 (by decide) (fun _ => ?_) (fun hn => absurd rfl hn)
    refine lv_goto (tgt := 1391) S.1 S.2.1 dL_law_221 (by decide) ?_
    exact kk H locs ls χ1 σ' f1 hRel (lv_sub hl [2, 3, 4, 5, 6] rfl) hs
set_option maxHeartbeats 4000000 in
set_option maxRecDepth 100000 in
theorem lop_read {p : Program} {l : Launch} {e : Env} {s : State} {m : MethodId} {args : Array Value} {below : List Frame} {meth : Method} {c : Code} {H : Heap} {locs : List Loc} {cells slots : Nat} {Q : State → Prop} {ls : Array Slot} {D : va_G} {cI cB cM cL : ClassId} {ad6 : Nat → Nat} {a : Nat → Nat → Nat} {A : Nat → Prop} {h : Nat} {ad : Nat → Nat} {ao : Nat} {cI2 : ClassId} {b L : Nat} {xs : Nat → Int32} {χ : cSt} {σ : zSt} {f : Nat → Int64} {Rel : zSt → cSt → Prop} (hfl : l.stackTraces = false) (S : CallFix p m c code 9 s args WA RL) (F : lFx D cI cB cM cL ad6 a A h ad ao cI2 b L xs s) {k : Nat} (hk : 4 * k + 3 < L) (hL : L ≤ 2048) (hl : lv_has ls 9 [(0, .ref b), (1, .ref (a 0 0)), (2, .ref h), (3, .ref ao), (4, .int (nI (4 * k)))]) (hs : lS D cI cB cM cL ad6 a A h ad ao s χ σ f H locs) (hfit : cells + 8 ≤ room_1.cells ∧ slots + 48 ≤ room_1.slots) (hop : opT Rel (wk (nI 1) 0 (nI 2)) χ (fX8_read (xs (4 * k + 1)) (xs (4 * k + 2)) χ) (fX9_read (xs (4 * k + 1)) (xs (4 * k + 2)) σ)) (kk : ∀ (H1 : Heap) (locs1 : List Loc) (ls1 : Array Slot) (χ1 : cSt) (σ1 : zSt) (f1 : Nat → Int64), Rel σ1 χ1 → lv_has ls1 9 [(0, .ref b), (1, .ref (a 0 0)), (2, .ref h), (3, .ref ao), (4, .int (nI (4 * k)))] → lS D cI cB cM cL ad6 a A h ad ao s χ1 σ1 f1 H1 locs1 → W p l e room_1 s m args below meth c H1 locs1 (cells + 8) (slots + 48) Q (F0 m 1391 ls1 [])) : W p l e room_1 s m args below meth c H locs cells slots Q (F0 m 224 ls []) := by
  obtain ⟨res, b9, σ', e8, e9, hop⟩ := hop
  have hw := lq_hw hop
  refine lv_aload_n S.1 S.2.1 dL_law_224 rfl (lv_at hl 1 rfl) ?_
  refine lv_aload_n S.1 S.2.1 dL_law_225 rfl (lv_at hl 0 rfl) ?_
  refine lv_iload S.1 S.2.1 dL_law_226 (lv_at hl 4 rfl) ?_
  refine lv_iconst (v := nI 1) S.1 S.2.1 dL_law_228 (by decide) ?_
  refine lv_iadd S.1 S.2.1 dL_law_229 ?_
  refine l_ld S F hs (k := k) (j := 1) (by omega) hL (by omega) dL_law_230 ?_
  refine lv_aload_n S.1 S.2.1 dL_law_231 rfl (lv_at hl 0 rfl) ?_
  refine lv_iload S.1 S.2.1 dL_law_232 (lv_at hl 4 rfl) ?_
  refine lv_iconst (v := nI 2) S.1 S.2.1 dL_law_234 (by decide) ?_
  refine lv_iadd S.1 S.2.1 dL_law_235 ?_
  refine l_ld S F hs (k := k) (j := 2) (by omega) hL (by omega) dL_law_236 ?_
  refine lv_aload_n S.1 S.2.1 dL_law_237 rfl (lv_at hl 3 rfl) ?_
  refine l_cw (rest := []) S F hs hl.1 (metL_read l hfl D cI cB cM cL ad6 a A ao F.2.2.2.2.2.2.2.1 (xs (4 * k + 1)) (xs (4 * k + 2)) χ f res e8 hw) (cwL_85 S.2.2.2.2 ⟨Nat.le_of_ble_eq_true rfl, Nat.le_of_ble_eq_true rfl⟩) rfl dL_law_238 rfl (Nat.le_of_ble_eq_true rfl) hfit (fun H locs r χ1 f1 hO hs => ?_)
  obtain ⟨hr9, hRel, hf0⟩ := lq_sum hO hop
  refine lv_istore (lv' := [(5, .int r), (0, .ref b), (1, .ref (a 0 0)), (2, .ref h), (3, .ref ao), (4, .int (nI (4 * k)))]) S.1 S.2.1 dL_law_241 hl (by decide) rfl (fun ls hl => ?_)
  refine lv_aload_n S.1 S.2.1 dL_law_243 rfl (lv_at hl 3 rfl) ?_
  refine lv_aload_n S.1 S.2.1 dL_law_244 rfl (lv_at hl 1 rfl) ?_
  refine lv_iload S.1 S.2.1 dL_law_245 (lv_at hl 5 rfl) ?_
  refine lv_iconst (v := nI 1) S.1 S.2.1 dL_law_247 (by decide) ?_
  refine lv_iadd S.1 S.2.1 dL_law_248 ?_
  refine l_ld S F hs (k := k) (j := 1) (by omega) hL (by omega) dL_law_249 ?_
  refine lv_aload_n S.1 S.2.1 dL_law_250 rfl (lv_at hl 1 rfl) ?_
  refine lv_iload S.1 S.2.1 dL_law_251 (lv_at hl 5 rfl) ?_
  refine lv_iconst (v := nI 2) S.1 S.2.1 dL_law_253 (by decide) ?_
  refine lv_iadd S.1 S.2.1 dL_law_254 ?_
  refine l_ld S F hs (k := k) (j := 2) (by omega) hL (by omega) dL_law_255 ?_
  refine l_c9 (rest := []) S F hs hl.1 (metX9_read l D cI h ad (xs (4 * k + 1)) (xs (4 * k + 2)) σ b9 σ' e9) (cwL_88 S.2.2.2.2 ⟨Nat.le_of_ble_eq_true rfl, Nat.le_of_ble_eq_true rfl⟩) rfl dL_law_256 rfl (Nat.le_of_ble_eq_true rfl) ⟨hfit.1, hfit.2⟩ (fun H locs hs => ?_)
  refine lv_istore (lv' := [(6, .int b9), (5, .int r), (0, .ref b), (1, .ref (a 0 0)), (2, .ref h), (3, .ref ao), (4, .int (nI (4 * k)))]) S.1 S.2.1 dL_law_259 hl (by decide) rfl (fun ls hl => ?_)
  refine lv_aload_n S.1 S.2.1 dL_law_261 rfl (lv_at hl 4 rfl) ?_
  refine l_c9 (rest := []) S F hs hl.1 (metX9_thrown l D cI h ad σ' (σ' 7 0) rfl) (cwL_82 S.2.2.2.2 ⟨Nat.le_of_ble_eq_true rfl, Nat.le_of_ble_eq_true rfl⟩) rfl dL_law_262 rfl (Nat.le_of_ble_eq_true rfl) ⟨hfit.1, hfit.2⟩ (fun H locs hs => ?_)
  refine lv_iload S.1 S.2.1 dL_law_265 (lv_at hl 1 rfl) ?_
  refine lv_icmp_eq (tgt := 272) S.1 S.2.1 dL_law_267 (by decide) (fun _ => ?_) (fun hn => absurd hr9 hn)
  refine lv_iload S.1 S.2.1 dL_law_272 (lv_at hl 1 rfl) ?_
  refine lv_if_ne (tgt := 289) S.1 S.2.1 dL_law_274 (by decide) (fun hz9 => ?_) (fun hz9 => ?_)
  · skip
    refine lv_goto (tgt := 1391) S.1 S.2.1 dL_law_289 (by decide) ?_
    exact kk H locs ls χ1 σ' f1 hRel (lv_sub hl [2, 3, 4, 5, 6] rfl) hs
  · skip
    refine lv_aload_n S.1 S.2.1 dL_law_277 rfl (lv_at hl 5 rfl) ?_
    refine lv_iconst (v := nI 0) S.1 S.2.1 dL_law_278 (by decide) ?_
    refine l_lald S F hs dL_law_279 ?_
    refine lv_iload S.1 S.2.1 dL_law_280 (lv_at hl 0 rfl) ?_
    refine lv_i2l S.1 S.2.1 dL_law_282 rfl ?_
    refine W.lcmp S.1 S.2.1 dL_law_283 ?_
    rw [hf0 hz9, l_cmp0]
    refine lv_if_eq (tgt := 289) S.1 S.2.1 dL_law_284 (by decide) (fun _ => ?_) (fun hn => absurd rfl hn)
    refine lv_goto (tgt := 1391) S.1 S.2.1 dL_law_289 (by decide) ?_
    exact kk H locs ls χ1 σ' f1 hRel (lv_sub hl [2, 3, 4, 5, 6] rfl) hs
set_option maxHeartbeats 4000000 in
set_option maxRecDepth 100000 in
theorem lop_write {p : Program} {l : Launch} {e : Env} {s : State} {m : MethodId} {args : Array Value} {below : List Frame} {meth : Method} {c : Code} {H : Heap} {locs : List Loc} {cells slots : Nat} {Q : State → Prop} {ls : Array Slot} {D : va_G} {cI cB cM cL : ClassId} {ad6 : Nat → Nat} {a : Nat → Nat → Nat} {A : Nat → Prop} {h : Nat} {ad : Nat → Nat} {ao : Nat} {cI2 : ClassId} {b L : Nat} {xs : Nat → Int32} {χ : cSt} {σ : zSt} {f : Nat → Int64} {Rel : zSt → cSt → Prop} (hfl : l.stackTraces = false) (S : CallFix p m c code 9 s args WA RL) (F : lFx D cI cB cM cL ad6 a A h ad ao cI2 b L xs s) {k : Nat} (hk : 4 * k + 3 < L) (hL : L ≤ 2048) (hl : lv_has ls 9 [(0, .ref b), (1, .ref (a 0 0)), (2, .ref h), (3, .ref ao), (4, .int (nI (4 * k)))]) (hs : lS D cI cB cM cL ad6 a A h ad ao s χ σ f H locs) (hfit : cells + 8 ≤ room_1.cells ∧ slots + 48 ≤ room_1.slots) (hop : opT Rel (wk (nI 1) (nI 2) (nI 3)) χ (fX8_write (xs (4 * k + 1)) (xs (4 * k + 2)) (xs (4 * k + 3)) χ) (fX9_write (xs (4 * k + 1)) (xs (4 * k + 2)) (xs (4 * k + 3)) σ)) (kk : ∀ (H1 : Heap) (locs1 : List Loc) (ls1 : Array Slot) (χ1 : cSt) (σ1 : zSt) (f1 : Nat → Int64), Rel σ1 χ1 → lv_has ls1 9 [(0, .ref b), (1, .ref (a 0 0)), (2, .ref h), (3, .ref ao), (4, .int (nI (4 * k)))] → lS D cI cB cM cL ad6 a A h ad ao s χ1 σ1 f1 H1 locs1 → W p l e room_1 s m args below meth c H1 locs1 (cells + 8) (slots + 48) Q (F0 m 1391 ls1 [])) : W p l e room_1 s m args below meth c H locs cells slots Q (F0 m 292 ls []) := by
  obtain ⟨res, b9, σ', e8, e9, hop⟩ := hop
  have hw := lq_hw hop
  refine lv_aload_n S.1 S.2.1 dL_law_292 rfl (lv_at hl 1 rfl) ?_
  refine lv_aload_n S.1 S.2.1 dL_law_293 rfl (lv_at hl 0 rfl) ?_
  refine lv_iload S.1 S.2.1 dL_law_294 (lv_at hl 4 rfl) ?_
  refine lv_iconst (v := nI 1) S.1 S.2.1 dL_law_296 (by decide) ?_
  refine lv_iadd S.1 S.2.1 dL_law_297 ?_
  refine l_ld S F hs (k := k) (j := 1) (by omega) hL (by omega) dL_law_298 ?_
  refine lv_aload_n S.1 S.2.1 dL_law_299 rfl (lv_at hl 0 rfl) ?_
  refine lv_iload S.1 S.2.1 dL_law_300 (lv_at hl 4 rfl) ?_
  refine lv_iconst (v := nI 2) S.1 S.2.1 dL_law_302 (by decide) ?_
  refine lv_iadd S.1 S.2.1 dL_law_303 ?_
  refine l_ld S F hs (k := k) (j := 2) (by omega) hL (by omega) dL_law_304 ?_
  refine lv_aload_n S.1 S.2.1 dL_law_305 rfl (lv_at hl 0 rfl) ?_
  refine lv_iload S.1 S.2.1 dL_law_306 (lv_at hl 4 rfl) ?_
  refine lv_iconst (v := nI 3) S.1 S.2.1 dL_law_308 (by decide) ?_
  refine lv_iadd S.1 S.2.1 dL_law_309 ?_
  refine l_ld S F hs (k := k) (j := 3) (by omega) hL (by omega) dL_law_310 ?_
  refine lv_aload_n S.1 S.2.1 dL_law_311 rfl (lv_at hl 3 rfl) ?_
  refine l_cw (rest := []) S F hs hl.1 (metL_write l hfl D cI cB cM cL ad6 a A ao F.2.2.2.2.2.2.2.1 (xs (4 * k + 1)) (xs (4 * k + 2)) (xs (4 * k + 3)) χ f res e8 hw) (cwL_89 S.2.2.2.2 ⟨Nat.le_of_ble_eq_true rfl, Nat.le_of_ble_eq_true rfl⟩) rfl dL_law_312 rfl (Nat.le_of_ble_eq_true rfl) hfit (fun H locs r χ1 f1 hO hs => ?_)
  obtain ⟨hr9, hRel, hf0⟩ := lq_sum hO hop
  refine lv_istore (lv' := [(5, .int r), (0, .ref b), (1, .ref (a 0 0)), (2, .ref h), (3, .ref ao), (4, .int (nI (4 * k)))]) S.1 S.2.1 dL_law_315 hl (by decide) rfl (fun ls hl => ?_)
  refine lv_aload_n S.1 S.2.1 dL_law_317 rfl (lv_at hl 3 rfl) ?_
  refine lv_aload_n S.1 S.2.1 dL_law_318 rfl (lv_at hl 1 rfl) ?_
  refine lv_iload S.1 S.2.1 dL_law_319 (lv_at hl 5 rfl) ?_
  refine lv_iconst (v := nI 1) S.1 S.2.1 dL_law_321 (by decide) ?_
  refine lv_iadd S.1 S.2.1 dL_law_322 ?_
  refine l_ld S F hs (k := k) (j := 1) (by omega) hL (by omega) dL_law_323 ?_
  refine lv_aload_n S.1 S.2.1 dL_law_324 rfl (lv_at hl 1 rfl) ?_
  refine lv_iload S.1 S.2.1 dL_law_325 (lv_at hl 5 rfl) ?_
  refine lv_iconst (v := nI 2) S.1 S.2.1 dL_law_327 (by decide) ?_
  refine lv_iadd S.1 S.2.1 dL_law_328 ?_
  refine l_ld S F hs (k := k) (j := 2) (by omega) hL (by omega) dL_law_329 ?_
  refine lv_aload_n S.1 S.2.1 dL_law_330 rfl (lv_at hl 1 rfl) ?_
  refine lv_iload S.1 S.2.1 dL_law_331 (lv_at hl 5 rfl) ?_
  refine lv_iconst (v := nI 3) S.1 S.2.1 dL_law_333 (by decide) ?_
  refine lv_iadd S.1 S.2.1 dL_law_334 ?_
  refine l_ld S F hs (k := k) (j := 3) (by omega) hL (by omega) dL_law_335 ?_
  refine l_c9 (rest := []) S F hs hl.1 (metX9_write l D cI h ad (xs (4 * k + 1)) (xs (4 * k + 2)) (xs (4 * k + 3)) σ b9 σ' e9) (cwL_91 S.2.2.2.2 ⟨Nat.le_of_ble_eq_true rfl, Nat.le_of_ble_eq_true rfl⟩) rfl dL_law_336 rfl (Nat.le_of_ble_eq_true rfl) ⟨hfit.1, hfit.2⟩ (fun H locs hs => ?_)
  refine lv_istore (lv' := [(6, .int b9), (5, .int r), (0, .ref b), (1, .ref (a 0 0)), (2, .ref h), (3, .ref ao), (4, .int (nI (4 * k)))]) S.1 S.2.1 dL_law_339 hl (by decide) rfl (fun ls hl => ?_)
  refine lv_aload_n S.1 S.2.1 dL_law_341 rfl (lv_at hl 4 rfl) ?_
  refine l_c9 (rest := []) S F hs hl.1 (metX9_thrown l D cI h ad σ' (σ' 7 0) rfl) (cwL_82 S.2.2.2.2 ⟨Nat.le_of_ble_eq_true rfl, Nat.le_of_ble_eq_true rfl⟩) rfl dL_law_342 rfl (Nat.le_of_ble_eq_true rfl) ⟨hfit.1, hfit.2⟩ (fun H locs hs => ?_)
  refine lv_iload S.1 S.2.1 dL_law_345 (lv_at hl 1 rfl) ?_
  refine lv_icmp_eq (tgt := 352) S.1 S.2.1 dL_law_347 (by decide) (fun _ => ?_) (fun hn => absurd hr9 hn)
  refine lv_iload S.1 S.2.1 dL_law_352 (lv_at hl 1 rfl) ?_
  refine lv_if_ne (tgt := 369) S.1 S.2.1 dL_law_354 (by decide) (fun hz9 => ?_) (fun hz9 => ?_)
  · skip
    refine lv_goto (tgt := 1391) S.1 S.2.1 dL_law_369 (by decide) ?_
    exact kk H locs ls χ1 σ' f1 hRel (lv_sub hl [2, 3, 4, 5, 6] rfl) hs
  · skip
    refine lv_aload_n S.1 S.2.1 dL_law_357 rfl (lv_at hl 5 rfl) ?_
    refine lv_iconst (v := nI 0) S.1 S.2.1 dL_law_358 (by decide) ?_
    refine l_lald S F hs dL_law_359 ?_
    refine lv_iload S.1 S.2.1 dL_law_360 (lv_at hl 0 rfl) ?_
    refine lv_i2l S.1 S.2.1 dL_law_362 rfl ?_
    refine W.lcmp S.1 S.2.1 dL_law_363 ?_
    rw [hf0 hz9, l_cmp0]
    refine lv_if_eq (tgt := 369) S.1 S.2.1 dL_law_364 (by decide) (fun _ => ?_) (fun hn => absurd rfl hn)
    refine lv_goto (tgt := 1391) S.1 S.2.1 dL_law_369 (by decide) ?_
    exact kk H locs ls χ1 σ' f1 hRel (lv_sub hl [2, 3, 4, 5, 6] rfl) hs
set_option maxHeartbeats 4000000 in
set_option maxRecDepth 100000 in
theorem lop_takeBack {p : Program} {l : Launch} {e : Env} {s : State} {m : MethodId} {args : Array Value} {below : List Frame} {meth : Method} {c : Code} {H : Heap} {locs : List Loc} {cells slots : Nat} {Q : State → Prop} {ls : Array Slot} {D : va_G} {cI cB cM cL : ClassId} {ad6 : Nat → Nat} {a : Nat → Nat → Nat} {A : Nat → Prop} {h : Nat} {ad : Nat → Nat} {ao : Nat} {cI2 : ClassId} {b L : Nat} {xs : Nat → Int32} {χ : cSt} {σ : zSt} {f : Nat → Int64} {Rel : zSt → cSt → Prop} (hfl : l.stackTraces = false) (S : CallFix p m c code 9 s args WA RL) (F : lFx D cI cB cM cL ad6 a A h ad ao cI2 b L xs s) {k : Nat} (hk : 4 * k + 3 < L) (hL : L ≤ 2048) (hl : lv_has ls 9 [(0, .ref b), (1, .ref (a 0 0)), (2, .ref h), (3, .ref ao), (4, .int (nI (4 * k)))]) (hs : lS D cI cB cM cL ad6 a A h ad ao s χ σ f H locs) (hfit : cells + 8 ≤ room_1.cells ∧ slots + 48 ≤ room_1.slots) (hop : opT Rel (wk (nI 1) 0 (nI 2)) χ (fX8_takeBack (xs (4 * k + 1)) χ) (fX9_takeBack (xs (4 * k + 1)) σ)) (kk : ∀ (H1 : Heap) (locs1 : List Loc) (ls1 : Array Slot) (χ1 : cSt) (σ1 : zSt) (f1 : Nat → Int64), Rel σ1 χ1 → lv_has ls1 9 [(0, .ref b), (1, .ref (a 0 0)), (2, .ref h), (3, .ref ao), (4, .int (nI (4 * k)))] → lS D cI cB cM cL ad6 a A h ad ao s χ1 σ1 f1 H1 locs1 → W p l e room_1 s m args below meth c H1 locs1 (cells + 8) (slots + 48) Q (F0 m 1391 ls1 [])) : W p l e room_1 s m args below meth c H locs cells slots Q (F0 m 372 ls []) := by
  obtain ⟨res, b9, σ', e8, e9, hop⟩ := hop
  have hw := lq_hw hop
  refine lv_aload_n S.1 S.2.1 dL_law_372 rfl (lv_at hl 1 rfl) ?_
  refine lv_aload_n S.1 S.2.1 dL_law_373 rfl (lv_at hl 0 rfl) ?_
  refine lv_iload S.1 S.2.1 dL_law_374 (lv_at hl 4 rfl) ?_
  refine lv_iconst (v := nI 1) S.1 S.2.1 dL_law_376 (by decide) ?_
  refine lv_iadd S.1 S.2.1 dL_law_377 ?_
  refine l_ld S F hs (k := k) (j := 1) (by omega) hL (by omega) dL_law_378 ?_
  refine lv_aload_n S.1 S.2.1 dL_law_379 rfl (lv_at hl 3 rfl) ?_
  refine l_cw (rest := []) S F hs hl.1 (metL_takeBack l hfl D cI cB cM cL ad6 a A ao F.2.2.2.2.2.2.2.1 (xs (4 * k + 1)) χ f res e8 hw) (cwL_92 S.2.2.2.2 ⟨Nat.le_of_ble_eq_true rfl, Nat.le_of_ble_eq_true rfl⟩) rfl dL_law_380 rfl (Nat.le_of_ble_eq_true rfl) hfit (fun H locs r χ1 f1 hO hs => ?_)
  obtain ⟨hr9, hRel, hf0⟩ := lq_sum hO hop
  refine lv_istore (lv' := [(5, .int r), (0, .ref b), (1, .ref (a 0 0)), (2, .ref h), (3, .ref ao), (4, .int (nI (4 * k)))]) S.1 S.2.1 dL_law_383 hl (by decide) rfl (fun ls hl => ?_)
  refine lv_aload_n S.1 S.2.1 dL_law_385 rfl (lv_at hl 3 rfl) ?_
  refine lv_aload_n S.1 S.2.1 dL_law_386 rfl (lv_at hl 1 rfl) ?_
  refine lv_iload S.1 S.2.1 dL_law_387 (lv_at hl 5 rfl) ?_
  refine lv_iconst (v := nI 1) S.1 S.2.1 dL_law_389 (by decide) ?_
  refine lv_iadd S.1 S.2.1 dL_law_390 ?_
  refine l_ld S F hs (k := k) (j := 1) (by omega) hL (by omega) dL_law_391 ?_
  refine l_c9 (rest := []) S F hs hl.1 (metX9_takeBack l D cI h ad (xs (4 * k + 1)) σ b9 σ' e9) (cwL_95 S.2.2.2.2 ⟨Nat.le_of_ble_eq_true rfl, Nat.le_of_ble_eq_true rfl⟩) rfl dL_law_392 rfl (Nat.le_of_ble_eq_true rfl) ⟨hfit.1, hfit.2⟩ (fun H locs hs => ?_)
  refine lv_istore (lv' := [(6, .int b9), (5, .int r), (0, .ref b), (1, .ref (a 0 0)), (2, .ref h), (3, .ref ao), (4, .int (nI (4 * k)))]) S.1 S.2.1 dL_law_395 hl (by decide) rfl (fun ls hl => ?_)
  refine lv_aload_n S.1 S.2.1 dL_law_397 rfl (lv_at hl 4 rfl) ?_
  refine l_c9 (rest := []) S F hs hl.1 (metX9_thrown l D cI h ad σ' (σ' 7 0) rfl) (cwL_82 S.2.2.2.2 ⟨Nat.le_of_ble_eq_true rfl, Nat.le_of_ble_eq_true rfl⟩) rfl dL_law_398 rfl (Nat.le_of_ble_eq_true rfl) ⟨hfit.1, hfit.2⟩ (fun H locs hs => ?_)
  refine lv_iload S.1 S.2.1 dL_law_401 (lv_at hl 1 rfl) ?_
  refine lv_icmp_eq (tgt := 408) S.1 S.2.1 dL_law_403 (by decide) (fun _ => ?_) (fun hn => absurd hr9 hn)
  refine lv_iload S.1 S.2.1 dL_law_408 (lv_at hl 1 rfl) ?_
  refine lv_if_ne (tgt := 425) S.1 S.2.1 dL_law_410 (by decide) (fun hz9 => ?_) (fun hz9 => ?_)
  · skip
    refine lv_goto (tgt := 1391) S.1 S.2.1 dL_law_425 (by decide) ?_
    exact kk H locs ls χ1 σ' f1 hRel (lv_sub hl [2, 3, 4, 5, 6] rfl) hs
  · skip
    refine lv_aload_n S.1 S.2.1 dL_law_413 rfl (lv_at hl 5 rfl) ?_
    refine lv_iconst (v := nI 0) S.1 S.2.1 dL_law_414 (by decide) ?_
    refine l_lald S F hs dL_law_415 ?_
    refine lv_iload S.1 S.2.1 dL_law_416 (lv_at hl 0 rfl) ?_
    refine lv_i2l S.1 S.2.1 dL_law_418 rfl ?_
    refine W.lcmp S.1 S.2.1 dL_law_419 ?_
    rw [hf0 hz9, l_cmp0]
    refine lv_if_eq (tgt := 425) S.1 S.2.1 dL_law_420 (by decide) (fun _ => ?_) (fun hn => absurd rfl hn)
    refine lv_goto (tgt := 1391) S.1 S.2.1 dL_law_425 (by decide) ?_
    exact kk H locs ls χ1 σ' f1 hRel (lv_sub hl [2, 3, 4, 5, 6] rfl) hs
set_option maxHeartbeats 4000000 in
set_option maxRecDepth 100000 in
theorem lop_pass {p : Program} {l : Launch} {e : Env} {s : State} {m : MethodId} {args : Array Value} {below : List Frame} {meth : Method} {c : Code} {H : Heap} {locs : List Loc} {cells slots : Nat} {Q : State → Prop} {ls : Array Slot} {D : va_G} {cI cB cM cL : ClassId} {ad6 : Nat → Nat} {a : Nat → Nat → Nat} {A : Nat → Prop} {h : Nat} {ad : Nat → Nat} {ao : Nat} {cI2 : ClassId} {b L : Nat} {xs : Nat → Int32} {χ : cSt} {σ : zSt} {f : Nat → Int64} {Rel : zSt → cSt → Prop} (hfl : l.stackTraces = false) (S : CallFix p m c code 9 s args WA RL) (F : lFx D cI cB cM cL ad6 a A h ad ao cI2 b L xs s) {k : Nat} (hk : 4 * k + 3 < L) (hL : L ≤ 2048) (hl : lv_has ls 9 [(0, .ref b), (1, .ref (a 0 0)), (2, .ref h), (3, .ref ao), (4, .int (nI (4 * k)))]) (hs : lS D cI cB cM cL ad6 a A h ad ao s χ σ f H locs) (hfit : cells + 8 ≤ room_1.cells ∧ slots + 48 ≤ room_1.slots) (hop : opT Rel (wk 0 (nI 1) (nI 2)) χ (fX8_pass (xs (4 * k + 1)) χ) (fX9_pass (xs (4 * k + 1)) σ)) (kk : ∀ (H1 : Heap) (locs1 : List Loc) (ls1 : Array Slot) (χ1 : cSt) (σ1 : zSt) (f1 : Nat → Int64), Rel σ1 χ1 → lv_has ls1 9 [(0, .ref b), (1, .ref (a 0 0)), (2, .ref h), (3, .ref ao), (4, .int (nI (4 * k)))] → lS D cI cB cM cL ad6 a A h ad ao s χ1 σ1 f1 H1 locs1 → W p l e room_1 s m args below meth c H1 locs1 (cells + 8) (slots + 48) Q (F0 m 1391 ls1 [])) : W p l e room_1 s m args below meth c H locs cells slots Q (F0 m 428 ls []) := by
  obtain ⟨res, b9, σ', e8, e9, hop⟩ := hop
  have hw := lq_hw hop
  refine lv_aload_n S.1 S.2.1 dL_law_428 rfl (lv_at hl 1 rfl) ?_
  refine lv_aload_n S.1 S.2.1 dL_law_429 rfl (lv_at hl 0 rfl) ?_
  refine lv_iload S.1 S.2.1 dL_law_430 (lv_at hl 4 rfl) ?_
  refine lv_iconst (v := nI 1) S.1 S.2.1 dL_law_432 (by decide) ?_
  refine lv_iadd S.1 S.2.1 dL_law_433 ?_
  refine l_ld S F hs (k := k) (j := 1) (by omega) hL (by omega) dL_law_434 ?_
  refine lv_aload_n S.1 S.2.1 dL_law_435 rfl (lv_at hl 3 rfl) ?_
  refine l_cw (rest := []) S F hs hl.1 (metL_pass l hfl D cI cB cM cL ad6 a A ao F.2.2.2.2.2.2.2.1 (xs (4 * k + 1)) χ f res e8 hw) (cwL_96 S.2.2.2.2 ⟨Nat.le_of_ble_eq_true rfl, Nat.le_of_ble_eq_true rfl⟩) rfl dL_law_436 rfl (Nat.le_of_ble_eq_true rfl) hfit (fun H locs r χ1 f1 hO hs => ?_)
  obtain ⟨hr9, hRel, hf0⟩ := lq_sum hO hop
  refine lv_istore (lv' := [(5, .int r), (0, .ref b), (1, .ref (a 0 0)), (2, .ref h), (3, .ref ao), (4, .int (nI (4 * k)))]) S.1 S.2.1 dL_law_439 hl (by decide) rfl (fun ls hl => ?_)
  refine lv_aload_n S.1 S.2.1 dL_law_441 rfl (lv_at hl 3 rfl) ?_
  refine lv_aload_n S.1 S.2.1 dL_law_442 rfl (lv_at hl 1 rfl) ?_
  refine lv_iload S.1 S.2.1 dL_law_443 (lv_at hl 5 rfl) ?_
  refine lv_iconst (v := nI 1) S.1 S.2.1 dL_law_445 (by decide) ?_
  refine lv_iadd S.1 S.2.1 dL_law_446 ?_
  refine l_ld S F hs (k := k) (j := 1) (by omega) hL (by omega) dL_law_447 ?_
  refine l_c9 (rest := []) S F hs hl.1 (metX9_pass l D cI h ad (xs (4 * k + 1)) σ b9 σ' e9) (cwL_98 S.2.2.2.2 ⟨Nat.le_of_ble_eq_true rfl, Nat.le_of_ble_eq_true rfl⟩) rfl dL_law_448 rfl (Nat.le_of_ble_eq_true rfl) ⟨hfit.1, hfit.2⟩ (fun H locs hs => ?_)
  refine lv_istore (lv' := [(6, .int b9), (5, .int r), (0, .ref b), (1, .ref (a 0 0)), (2, .ref h), (3, .ref ao), (4, .int (nI (4 * k)))]) S.1 S.2.1 dL_law_451 hl (by decide) rfl (fun ls hl => ?_)
  refine lv_aload_n S.1 S.2.1 dL_law_453 rfl (lv_at hl 4 rfl) ?_
  refine l_c9 (rest := []) S F hs hl.1 (metX9_thrown l D cI h ad σ' (σ' 7 0) rfl) (cwL_82 S.2.2.2.2 ⟨Nat.le_of_ble_eq_true rfl, Nat.le_of_ble_eq_true rfl⟩) rfl dL_law_454 rfl (Nat.le_of_ble_eq_true rfl) ⟨hfit.1, hfit.2⟩ (fun H locs hs => ?_)
  refine lv_iload S.1 S.2.1 dL_law_457 (lv_at hl 1 rfl) ?_
  refine lv_icmp_eq (tgt := 464) S.1 S.2.1 dL_law_459 (by decide) (fun _ => ?_) (fun hn => absurd hr9 hn)
  refine lv_iload S.1 S.2.1 dL_law_464 (lv_at hl 1 rfl) ?_
  refine lv_if_ne (tgt := 481) S.1 S.2.1 dL_law_466 (by decide) (fun hz9 => ?_) (fun hz9 => ?_)
  · skip
    refine lv_goto (tgt := 1391) S.1 S.2.1 dL_law_481 (by decide) ?_
    exact kk H locs ls χ1 σ' f1 hRel (lv_sub hl [2, 3, 4, 5, 6] rfl) hs
  · skip
    refine lv_aload_n S.1 S.2.1 dL_law_469 rfl (lv_at hl 5 rfl) ?_
    refine lv_iconst (v := nI 0) S.1 S.2.1 dL_law_470 (by decide) ?_
    refine l_lald S F hs dL_law_471 ?_
    refine lv_iload S.1 S.2.1 dL_law_472 (lv_at hl 0 rfl) ?_
    refine lv_i2l S.1 S.2.1 dL_law_474 rfl ?_
    refine W.lcmp S.1 S.2.1 dL_law_475 ?_
    rw [hf0 hz9, l_cmp0]
    refine lv_if_eq (tgt := 481) S.1 S.2.1 dL_law_476 (by decide) (fun _ => ?_) (fun hn => absurd rfl hn)
    refine lv_goto (tgt := 1391) S.1 S.2.1 dL_law_481 (by decide) ?_
    exact kk H locs ls χ1 σ' f1 hRel (lv_sub hl [2, 3, 4, 5, 6] rfl) hs
set_option maxHeartbeats 4000000 in
set_option maxRecDepth 100000 in
theorem lop_drop {p : Program} {l : Launch} {e : Env} {s : State} {m : MethodId} {args : Array Value} {below : List Frame} {meth : Method} {c : Code} {H : Heap} {locs : List Loc} {cells slots : Nat} {Q : State → Prop} {ls : Array Slot} {D : va_G} {cI cB cM cL : ClassId} {ad6 : Nat → Nat} {a : Nat → Nat → Nat} {A : Nat → Prop} {h : Nat} {ad : Nat → Nat} {ao : Nat} {cI2 : ClassId} {b L : Nat} {xs : Nat → Int32} {χ : cSt} {σ : zSt} {f : Nat → Int64} {Rel : zSt → cSt → Prop} (hfl : l.stackTraces = false) (S : CallFix p m c code 9 s args WA RL) (F : lFx D cI cB cM cL ad6 a A h ad ao cI2 b L xs s) {k : Nat} (hk : 4 * k + 3 < L) (hL : L ≤ 2048) (hl : lv_has ls 9 [(0, .ref b), (1, .ref (a 0 0)), (2, .ref h), (3, .ref ao), (4, .int (nI (4 * k)))]) (hs : lS D cI cB cM cL ad6 a A h ad ao s χ σ f H locs) (hfit : cells + 8 ≤ room_1.cells ∧ slots + 48 ≤ room_1.slots) (hop : opT Rel (wk (nI 1) 0 (nI 2)) χ (fX8_drop (xs (4 * k + 1)) (xs (4 * k + 2)) χ) (fX9_drop (xs (4 * k + 1)) (xs (4 * k + 2)) σ)) (kk : ∀ (H1 : Heap) (locs1 : List Loc) (ls1 : Array Slot) (χ1 : cSt) (σ1 : zSt) (f1 : Nat → Int64), Rel σ1 χ1 → lv_has ls1 9 [(0, .ref b), (1, .ref (a 0 0)), (2, .ref h), (3, .ref ao), (4, .int (nI (4 * k)))] → lS D cI cB cM cL ad6 a A h ad ao s χ1 σ1 f1 H1 locs1 → W p l e room_1 s m args below meth c H1 locs1 (cells + 8) (slots + 48) Q (F0 m 1391 ls1 [])) : W p l e room_1 s m args below meth c H locs cells slots Q (F0 m 484 ls []) := by
  obtain ⟨res, b9, σ', e8, e9, hop⟩ := hop
  have hw := lq_hw hop
  refine lv_aload_n S.1 S.2.1 dL_law_484 rfl (lv_at hl 1 rfl) ?_
  refine lv_aload_n S.1 S.2.1 dL_law_485 rfl (lv_at hl 0 rfl) ?_
  refine lv_iload S.1 S.2.1 dL_law_486 (lv_at hl 4 rfl) ?_
  refine lv_iconst (v := nI 1) S.1 S.2.1 dL_law_488 (by decide) ?_
  refine lv_iadd S.1 S.2.1 dL_law_489 ?_
  refine l_ld S F hs (k := k) (j := 1) (by omega) hL (by omega) dL_law_490 ?_
  refine lv_aload_n S.1 S.2.1 dL_law_491 rfl (lv_at hl 0 rfl) ?_
  refine lv_iload S.1 S.2.1 dL_law_492 (lv_at hl 4 rfl) ?_
  refine lv_iconst (v := nI 2) S.1 S.2.1 dL_law_494 (by decide) ?_
  refine lv_iadd S.1 S.2.1 dL_law_495 ?_
  refine l_ld S F hs (k := k) (j := 2) (by omega) hL (by omega) dL_law_496 ?_
  refine lv_aload_n S.1 S.2.1 dL_law_497 rfl (lv_at hl 3 rfl) ?_
  refine l_cw (rest := []) S F hs hl.1 (metL_drop l hfl D cI cB cM cL ad6 a A ao F.2.2.2.2.2.2.2.1 (xs (4 * k + 1)) (xs (4 * k + 2)) χ f res e8 hw) (cwL_99 S.2.2.2.2 ⟨Nat.le_of_ble_eq_true rfl, Nat.le_of_ble_eq_true rfl⟩) rfl dL_law_498 rfl (Nat.le_of_ble_eq_true rfl) hfit (fun H locs r χ1 f1 hO hs => ?_)
  obtain ⟨hr9, hRel, hf0⟩ := lq_sum hO hop
  refine lv_istore (lv' := [(5, .int r), (0, .ref b), (1, .ref (a 0 0)), (2, .ref h), (3, .ref ao), (4, .int (nI (4 * k)))]) S.1 S.2.1 dL_law_501 hl (by decide) rfl (fun ls hl => ?_)
  refine lv_aload_n S.1 S.2.1 dL_law_503 rfl (lv_at hl 3 rfl) ?_
  refine lv_aload_n S.1 S.2.1 dL_law_504 rfl (lv_at hl 1 rfl) ?_
  refine lv_iload S.1 S.2.1 dL_law_505 (lv_at hl 5 rfl) ?_
  refine lv_iconst (v := nI 1) S.1 S.2.1 dL_law_507 (by decide) ?_
  refine lv_iadd S.1 S.2.1 dL_law_508 ?_
  refine l_ld S F hs (k := k) (j := 1) (by omega) hL (by omega) dL_law_509 ?_
  refine lv_aload_n S.1 S.2.1 dL_law_510 rfl (lv_at hl 1 rfl) ?_
  refine lv_iload S.1 S.2.1 dL_law_511 (lv_at hl 5 rfl) ?_
  refine lv_iconst (v := nI 2) S.1 S.2.1 dL_law_513 (by decide) ?_
  refine lv_iadd S.1 S.2.1 dL_law_514 ?_
  refine l_ld S F hs (k := k) (j := 2) (by omega) hL (by omega) dL_law_515 ?_
  refine l_c9 (rest := []) S F hs hl.1 (metX9_drop l D cI h ad (xs (4 * k + 1)) (xs (4 * k + 2)) σ b9 σ' e9) (cwL_101 S.2.2.2.2 ⟨Nat.le_of_ble_eq_true rfl, Nat.le_of_ble_eq_true rfl⟩) rfl dL_law_516 rfl (Nat.le_of_ble_eq_true rfl) ⟨hfit.1, hfit.2⟩ (fun H locs hs => ?_)
  refine lv_istore (lv' := [(6, .int b9), (5, .int r), (0, .ref b), (1, .ref (a 0 0)), (2, .ref h), (3, .ref ao), (4, .int (nI (4 * k)))]) S.1 S.2.1 dL_law_519 hl (by decide) rfl (fun ls hl => ?_)
  refine lv_aload_n S.1 S.2.1 dL_law_521 rfl (lv_at hl 4 rfl) ?_
  refine l_c9 (rest := []) S F hs hl.1 (metX9_thrown l D cI h ad σ' (σ' 7 0) rfl) (cwL_82 S.2.2.2.2 ⟨Nat.le_of_ble_eq_true rfl, Nat.le_of_ble_eq_true rfl⟩) rfl dL_law_522 rfl (Nat.le_of_ble_eq_true rfl) ⟨hfit.1, hfit.2⟩ (fun H locs hs => ?_)
  refine lv_iload S.1 S.2.1 dL_law_525 (lv_at hl 1 rfl) ?_
  refine lv_icmp_eq (tgt := 532) S.1 S.2.1 dL_law_527 (by decide) (fun _ => ?_) (fun hn => absurd hr9 hn)
  refine lv_iload S.1 S.2.1 dL_law_532 (lv_at hl 1 rfl) ?_
  refine lv_if_ne (tgt := 549) S.1 S.2.1 dL_law_534 (by decide) (fun hz9 => ?_) (fun hz9 => ?_)
  · skip
    refine lv_goto (tgt := 1391) S.1 S.2.1 dL_law_549 (by decide) ?_
    exact kk H locs ls χ1 σ' f1 hRel (lv_sub hl [2, 3, 4, 5, 6] rfl) hs
  · skip
    refine lv_aload_n S.1 S.2.1 dL_law_537 rfl (lv_at hl 5 rfl) ?_
    refine lv_iconst (v := nI 0) S.1 S.2.1 dL_law_538 (by decide) ?_
    refine l_lald S F hs dL_law_539 ?_
    refine lv_iload S.1 S.2.1 dL_law_540 (lv_at hl 0 rfl) ?_
    refine lv_i2l S.1 S.2.1 dL_law_542 rfl ?_
    refine W.lcmp S.1 S.2.1 dL_law_543 ?_
    rw [hf0 hz9, l_cmp0]
    refine lv_if_eq (tgt := 549) S.1 S.2.1 dL_law_544 (by decide) (fun _ => ?_) (fun hn => absurd rfl hn)
    refine lv_goto (tgt := 1391) S.1 S.2.1 dL_law_549 (by decide) ?_
    exact kk H locs ls χ1 σ' f1 hRel (lv_sub hl [2, 3, 4, 5, 6] rfl) hs
set_option maxHeartbeats 4000000 in
set_option maxRecDepth 100000 in
theorem lop_tear {p : Program} {l : Launch} {e : Env} {s : State} {m : MethodId} {args : Array Value} {below : List Frame} {meth : Method} {c : Code} {H : Heap} {locs : List Loc} {cells slots : Nat} {Q : State → Prop} {ls : Array Slot} {D : va_G} {cI cB cM cL : ClassId} {ad6 : Nat → Nat} {a : Nat → Nat → Nat} {A : Nat → Prop} {h : Nat} {ad : Nat → Nat} {ao : Nat} {cI2 : ClassId} {b L : Nat} {xs : Nat → Int32} {χ : cSt} {σ : zSt} {f : Nat → Int64} {Rel : zSt → cSt → Prop} (hfl : l.stackTraces = false) (S : CallFix p m c code 9 s args WA RL) (F : lFx D cI cB cM cL ad6 a A h ad ao cI2 b L xs s) {k : Nat} (hk : 4 * k + 3 < L) (hL : L ≤ 2048) (hl : lv_has ls 9 [(0, .ref b), (1, .ref (a 0 0)), (2, .ref h), (3, .ref ao), (4, .int (nI (4 * k)))]) (hs : lS D cI cB cM cL ad6 a A h ad ao s χ σ f H locs) (hfit : cells + 8 ≤ room_1.cells ∧ slots + 48 ≤ room_1.slots) (hop : opT Rel (wk (nI 1) 0 (nI 2)) χ (fX8_tear (xs (4 * k + 1)) χ) (fX9_tear (xs (4 * k + 1)) σ)) (kk : ∀ (H1 : Heap) (locs1 : List Loc) (ls1 : Array Slot) (χ1 : cSt) (σ1 : zSt) (f1 : Nat → Int64), Rel σ1 χ1 → lv_has ls1 9 [(0, .ref b), (1, .ref (a 0 0)), (2, .ref h), (3, .ref ao), (4, .int (nI (4 * k)))] → lS D cI cB cM cL ad6 a A h ad ao s χ1 σ1 f1 H1 locs1 → W p l e room_1 s m args below meth c H1 locs1 (cells + 8) (slots + 48) Q (F0 m 1391 ls1 [])) : W p l e room_1 s m args below meth c H locs cells slots Q (F0 m 552 ls []) := by
  obtain ⟨res, b9, σ', e8, e9, hop⟩ := hop
  have hw := lq_hw hop
  refine lv_aload_n S.1 S.2.1 dL_law_552 rfl (lv_at hl 1 rfl) ?_
  refine lv_aload_n S.1 S.2.1 dL_law_553 rfl (lv_at hl 0 rfl) ?_
  refine lv_iload S.1 S.2.1 dL_law_554 (lv_at hl 4 rfl) ?_
  refine lv_iconst (v := nI 1) S.1 S.2.1 dL_law_556 (by decide) ?_
  refine lv_iadd S.1 S.2.1 dL_law_557 ?_
  refine l_ld S F hs (k := k) (j := 1) (by omega) hL (by omega) dL_law_558 ?_
  refine lv_aload_n S.1 S.2.1 dL_law_559 rfl (lv_at hl 3 rfl) ?_
  refine l_cw (rest := []) S F hs hl.1 (metL_tear l hfl D cI cB cM cL ad6 a A ao F.2.2.2.2.2.2.2.1 (xs (4 * k + 1)) χ f res e8 hw) (cwL_102 S.2.2.2.2 ⟨Nat.le_of_ble_eq_true rfl, Nat.le_of_ble_eq_true rfl⟩) rfl dL_law_560 rfl (Nat.le_of_ble_eq_true rfl) hfit (fun H locs r χ1 f1 hO hs => ?_)
  obtain ⟨hr9, hRel, hf0⟩ := lq_sum hO hop
  refine lv_istore (lv' := [(5, .int r), (0, .ref b), (1, .ref (a 0 0)), (2, .ref h), (3, .ref ao), (4, .int (nI (4 * k)))]) S.1 S.2.1 dL_law_563 hl (by decide) rfl (fun ls hl => ?_)
  refine lv_aload_n S.1 S.2.1 dL_law_565 rfl (lv_at hl 3 rfl) ?_
  refine lv_aload_n S.1 S.2.1 dL_law_566 rfl (lv_at hl 1 rfl) ?_
  refine lv_iload S.1 S.2.1 dL_law_567 (lv_at hl 5 rfl) ?_
  refine lv_iconst (v := nI 1) S.1 S.2.1 dL_law_569 (by decide) ?_
  refine lv_iadd S.1 S.2.1 dL_law_570 ?_
  refine l_ld S F hs (k := k) (j := 1) (by omega) hL (by omega) dL_law_571 ?_
  refine l_c9 (rest := []) S F hs hl.1 (metX9_tear l D cI h ad (xs (4 * k + 1)) σ b9 σ' e9) (cwL_104 S.2.2.2.2 ⟨Nat.le_of_ble_eq_true rfl, Nat.le_of_ble_eq_true rfl⟩) rfl dL_law_572 rfl (Nat.le_of_ble_eq_true rfl) ⟨hfit.1, hfit.2⟩ (fun H locs hs => ?_)
  refine lv_istore (lv' := [(6, .int b9), (5, .int r), (0, .ref b), (1, .ref (a 0 0)), (2, .ref h), (3, .ref ao), (4, .int (nI (4 * k)))]) S.1 S.2.1 dL_law_575 hl (by decide) rfl (fun ls hl => ?_)
  refine lv_aload_n S.1 S.2.1 dL_law_577 rfl (lv_at hl 4 rfl) ?_
  refine l_c9 (rest := []) S F hs hl.1 (metX9_thrown l D cI h ad σ' (σ' 7 0) rfl) (cwL_82 S.2.2.2.2 ⟨Nat.le_of_ble_eq_true rfl, Nat.le_of_ble_eq_true rfl⟩) rfl dL_law_578 rfl (Nat.le_of_ble_eq_true rfl) ⟨hfit.1, hfit.2⟩ (fun H locs hs => ?_)
  refine lv_iload S.1 S.2.1 dL_law_581 (lv_at hl 1 rfl) ?_
  refine lv_icmp_eq (tgt := 588) S.1 S.2.1 dL_law_583 (by decide) (fun _ => ?_) (fun hn => absurd hr9 hn)
  refine lv_iload S.1 S.2.1 dL_law_588 (lv_at hl 1 rfl) ?_
  refine lv_if_ne (tgt := 605) S.1 S.2.1 dL_law_590 (by decide) (fun hz9 => ?_) (fun hz9 => ?_)
  · skip
    refine lv_goto (tgt := 1391) S.1 S.2.1 dL_law_605 (by decide) ?_
    exact kk H locs ls χ1 σ' f1 hRel (lv_sub hl [2, 3, 4, 5, 6] rfl) hs
  · skip
    refine lv_aload_n S.1 S.2.1 dL_law_593 rfl (lv_at hl 5 rfl) ?_
    refine lv_iconst (v := nI 0) S.1 S.2.1 dL_law_594 (by decide) ?_
    refine l_lald S F hs dL_law_595 ?_
    refine lv_iload S.1 S.2.1 dL_law_596 (lv_at hl 0 rfl) ?_
    refine lv_i2l S.1 S.2.1 dL_law_598 rfl ?_
    refine W.lcmp S.1 S.2.1 dL_law_599 ?_
    rw [hf0 hz9, l_cmp0]
    refine lv_if_eq (tgt := 605) S.1 S.2.1 dL_law_600 (by decide) (fun _ => ?_) (fun hn => absurd rfl hn)
    refine lv_goto (tgt := 1391) S.1 S.2.1 dL_law_605 (by decide) ?_
    exact kk H locs ls χ1 σ' f1 hRel (lv_sub hl [2, 3, 4, 5, 6] rfl) hs
set_option maxHeartbeats 4000000 in
set_option maxRecDepth 100000 in
theorem lop_copy {p : Program} {l : Launch} {e : Env} {s : State} {m : MethodId} {args : Array Value} {below : List Frame} {meth : Method} {c : Code} {H : Heap} {locs : List Loc} {cells slots : Nat} {Q : State → Prop} {ls : Array Slot} {D : va_G} {cI cB cM cL : ClassId} {ad6 : Nat → Nat} {a : Nat → Nat → Nat} {A : Nat → Prop} {h : Nat} {ad : Nat → Nat} {ao : Nat} {cI2 : ClassId} {b L : Nat} {xs : Nat → Int32} {χ : cSt} {σ : zSt} {f : Nat → Int64} {Rel : zSt → cSt → Prop} (hfl : l.stackTraces = false) (S : CallFix p m c code 9 s args WA RL) (F : lFx D cI cB cM cL ad6 a A h ad ao cI2 b L xs s) {k : Nat} (hk : 4 * k + 3 < L) (hL : L ≤ 2048) (hl : lv_has ls 9 [(0, .ref b), (1, .ref (a 0 0)), (2, .ref h), (3, .ref ao), (4, .int (nI (4 * k)))]) (hs : lS D cI cB cM cL ad6 a A h ad ao s χ σ f H locs) (hfit : cells + 8 ≤ room_1.cells ∧ slots + 48 ≤ room_1.slots) (hop : opT Rel (wk (nI 1) (nI 2) 0) χ (fX8_copy (xs (4 * k + 1)) (xs (4 * k + 2)) (xs (4 * k + 3)) χ) (fX9_copy (xs (4 * k + 1)) (xs (4 * k + 2)) (xs (4 * k + 3)) σ)) (kk : ∀ (H1 : Heap) (locs1 : List Loc) (ls1 : Array Slot) (χ1 : cSt) (σ1 : zSt) (f1 : Nat → Int64), Rel σ1 χ1 → lv_has ls1 9 [(0, .ref b), (1, .ref (a 0 0)), (2, .ref h), (3, .ref ao), (4, .int (nI (4 * k)))] → lS D cI cB cM cL ad6 a A h ad ao s χ1 σ1 f1 H1 locs1 → W p l e room_1 s m args below meth c H1 locs1 (cells + 8) (slots + 48) Q (F0 m 1391 ls1 [])) : W p l e room_1 s m args below meth c H locs cells slots Q (F0 m 608 ls []) := by
  obtain ⟨res, b9, σ', e8, e9, hop⟩ := hop
  have hw := lq_hw hop
  refine lv_aload_n S.1 S.2.1 dL_law_608 rfl (lv_at hl 1 rfl) ?_
  refine lv_aload_n S.1 S.2.1 dL_law_609 rfl (lv_at hl 0 rfl) ?_
  refine lv_iload S.1 S.2.1 dL_law_610 (lv_at hl 4 rfl) ?_
  refine lv_iconst (v := nI 1) S.1 S.2.1 dL_law_612 (by decide) ?_
  refine lv_iadd S.1 S.2.1 dL_law_613 ?_
  refine l_ld S F hs (k := k) (j := 1) (by omega) hL (by omega) dL_law_614 ?_
  refine lv_aload_n S.1 S.2.1 dL_law_615 rfl (lv_at hl 0 rfl) ?_
  refine lv_iload S.1 S.2.1 dL_law_616 (lv_at hl 4 rfl) ?_
  refine lv_iconst (v := nI 2) S.1 S.2.1 dL_law_618 (by decide) ?_
  refine lv_iadd S.1 S.2.1 dL_law_619 ?_
  refine l_ld S F hs (k := k) (j := 2) (by omega) hL (by omega) dL_law_620 ?_
  refine lv_aload_n S.1 S.2.1 dL_law_621 rfl (lv_at hl 0 rfl) ?_
  refine lv_iload S.1 S.2.1 dL_law_622 (lv_at hl 4 rfl) ?_
  refine lv_iconst (v := nI 3) S.1 S.2.1 dL_law_624 (by decide) ?_
  refine lv_iadd S.1 S.2.1 dL_law_625 ?_
  refine l_ld S F hs (k := k) (j := 3) (by omega) hL (by omega) dL_law_626 ?_
  refine lv_aload_n S.1 S.2.1 dL_law_627 rfl (lv_at hl 3 rfl) ?_
  refine l_cw (rest := []) S F hs hl.1 (metL_copy l hfl D cI cB cM cL ad6 a A ao F.2.2.2.2.2.2.2.1 (xs (4 * k + 1)) (xs (4 * k + 2)) (xs (4 * k + 3)) χ f res e8 hw) (cwL_105 S.2.2.2.2 ⟨Nat.le_of_ble_eq_true rfl, Nat.le_of_ble_eq_true rfl⟩) rfl dL_law_628 rfl (Nat.le_of_ble_eq_true rfl) hfit (fun H locs r χ1 f1 hO hs => ?_)
  obtain ⟨hr9, hRel, hf0⟩ := lq_sum hO hop
  refine lv_istore (lv' := [(5, .int r), (0, .ref b), (1, .ref (a 0 0)), (2, .ref h), (3, .ref ao), (4, .int (nI (4 * k)))]) S.1 S.2.1 dL_law_631 hl (by decide) rfl (fun ls hl => ?_)
  refine lv_aload_n S.1 S.2.1 dL_law_633 rfl (lv_at hl 3 rfl) ?_
  refine lv_aload_n S.1 S.2.1 dL_law_634 rfl (lv_at hl 1 rfl) ?_
  refine lv_iload S.1 S.2.1 dL_law_635 (lv_at hl 5 rfl) ?_
  refine lv_iconst (v := nI 1) S.1 S.2.1 dL_law_637 (by decide) ?_
  refine lv_iadd S.1 S.2.1 dL_law_638 ?_
  refine l_ld S F hs (k := k) (j := 1) (by omega) hL (by omega) dL_law_639 ?_
  refine lv_aload_n S.1 S.2.1 dL_law_640 rfl (lv_at hl 1 rfl) ?_
  refine lv_iload S.1 S.2.1 dL_law_641 (lv_at hl 5 rfl) ?_
  refine lv_iconst (v := nI 2) S.1 S.2.1 dL_law_643 (by decide) ?_
  refine lv_iadd S.1 S.2.1 dL_law_644 ?_
  refine l_ld S F hs (k := k) (j := 2) (by omega) hL (by omega) dL_law_645 ?_
  refine lv_aload_n S.1 S.2.1 dL_law_646 rfl (lv_at hl 1 rfl) ?_
  refine lv_iload S.1 S.2.1 dL_law_647 (lv_at hl 5 rfl) ?_
  refine lv_iconst (v := nI 3) S.1 S.2.1 dL_law_649 (by decide) ?_
  refine lv_iadd S.1 S.2.1 dL_law_650 ?_
  refine l_ld S F hs (k := k) (j := 3) (by omega) hL (by omega) dL_law_651 ?_
  refine l_c9 (rest := []) S F hs hl.1 (metX9_copy l D cI h ad (xs (4 * k + 1)) (xs (4 * k + 2)) (xs (4 * k + 3)) σ b9 σ' e9) (cwL_107 S.2.2.2.2 ⟨Nat.le_of_ble_eq_true rfl, Nat.le_of_ble_eq_true rfl⟩) rfl dL_law_652 rfl (Nat.le_of_ble_eq_true rfl) ⟨hfit.1, hfit.2⟩ (fun H locs hs => ?_)
  refine lv_istore (lv' := [(6, .int b9), (5, .int r), (0, .ref b), (1, .ref (a 0 0)), (2, .ref h), (3, .ref ao), (4, .int (nI (4 * k)))]) S.1 S.2.1 dL_law_655 hl (by decide) rfl (fun ls hl => ?_)
  refine lv_aload_n S.1 S.2.1 dL_law_657 rfl (lv_at hl 4 rfl) ?_
  refine l_c9 (rest := []) S F hs hl.1 (metX9_thrown l D cI h ad σ' (σ' 7 0) rfl) (cwL_82 S.2.2.2.2 ⟨Nat.le_of_ble_eq_true rfl, Nat.le_of_ble_eq_true rfl⟩) rfl dL_law_658 rfl (Nat.le_of_ble_eq_true rfl) ⟨hfit.1, hfit.2⟩ (fun H locs hs => ?_)
  refine lv_iload S.1 S.2.1 dL_law_661 (lv_at hl 1 rfl) ?_
  refine lv_icmp_eq (tgt := 668) S.1 S.2.1 dL_law_663 (by decide) (fun _ => ?_) (fun hn => absurd hr9 hn)
  refine lv_iload S.1 S.2.1 dL_law_668 (lv_at hl 1 rfl) ?_
  refine lv_if_ne (tgt := 685) S.1 S.2.1 dL_law_670 (by decide) (fun hz9 => ?_) (fun hz9 => ?_)
  · skip
    refine lv_goto (tgt := 1391) S.1 S.2.1 dL_law_685 (by decide) ?_
    exact kk H locs ls χ1 σ' f1 hRel (lv_sub hl [2, 3, 4, 5, 6] rfl) hs
  · skip
    refine lv_aload_n S.1 S.2.1 dL_law_673 rfl (lv_at hl 5 rfl) ?_
    refine lv_iconst (v := nI 0) S.1 S.2.1 dL_law_674 (by decide) ?_
    refine l_lald S F hs dL_law_675 ?_
    refine lv_iload S.1 S.2.1 dL_law_676 (lv_at hl 0 rfl) ?_
    refine lv_i2l S.1 S.2.1 dL_law_678 rfl ?_
    refine W.lcmp S.1 S.2.1 dL_law_679 ?_
    rw [hf0 hz9, l_cmp0]
    refine lv_if_eq (tgt := 685) S.1 S.2.1 dL_law_680 (by decide) (fun _ => ?_) (fun hn => absurd rfl hn)
    refine lv_goto (tgt := 1391) S.1 S.2.1 dL_law_685 (by decide) ?_
    exact kk H locs ls χ1 σ' f1 hRel (lv_sub hl [2, 3, 4, 5, 6] rfl) hs
set_option maxHeartbeats 4000000 in
set_option maxRecDepth 100000 in
theorem lop_line {p : Program} {l : Launch} {e : Env} {s : State} {m : MethodId} {args : Array Value} {below : List Frame} {meth : Method} {c : Code} {H : Heap} {locs : List Loc} {cells slots : Nat} {Q : State → Prop} {ls : Array Slot} {D : va_G} {cI cB cM cL : ClassId} {ad6 : Nat → Nat} {a : Nat → Nat → Nat} {A : Nat → Prop} {h : Nat} {ad : Nat → Nat} {ao : Nat} {cI2 : ClassId} {b L : Nat} {xs : Nat → Int32} {χ : cSt} {σ : zSt} {f : Nat → Int64} {Rel : zSt → cSt → Prop} (hfl : l.stackTraces = false) (S : CallFix p m c code 9 s args WA RL) (F : lFx D cI cB cM cL ad6 a A h ad ao cI2 b L xs s) {k : Nat} (hk : 4 * k + 3 < L) (hL : L ≤ 2048) (hl : lv_has ls 9 [(0, .ref b), (1, .ref (a 0 0)), (2, .ref h), (3, .ref ao), (4, .int (nI (4 * k)))]) (hs : lS D cI cB cM cL ad6 a A h ad ao s χ σ f H locs) (hfit : cells + 8 ≤ room_1.cells ∧ slots + 48 ≤ room_1.slots) (hop : opT Rel (wk (nI 1) (nI 2) 0) χ (fX8_line (xs (4 * k + 1)) (xs (4 * k + 2)) χ) (fX9_line (xs (4 * k + 1)) (xs (4 * k + 2)) σ)) (kk : ∀ (H1 : Heap) (locs1 : List Loc) (ls1 : Array Slot) (χ1 : cSt) (σ1 : zSt) (f1 : Nat → Int64), Rel σ1 χ1 → lv_has ls1 9 [(0, .ref b), (1, .ref (a 0 0)), (2, .ref h), (3, .ref ao), (4, .int (nI (4 * k)))] → lS D cI cB cM cL ad6 a A h ad ao s χ1 σ1 f1 H1 locs1 → W p l e room_1 s m args below meth c H1 locs1 (cells + 8) (slots + 48) Q (F0 m 1391 ls1 [])) : W p l e room_1 s m args below meth c H locs cells slots Q (F0 m 688 ls []) := by
  obtain ⟨res, b9, σ', e8, e9, hop⟩ := hop
  have hw := lq_hw hop
  refine lv_aload_n S.1 S.2.1 dL_law_688 rfl (lv_at hl 1 rfl) ?_
  refine lv_aload_n S.1 S.2.1 dL_law_689 rfl (lv_at hl 0 rfl) ?_
  refine lv_iload S.1 S.2.1 dL_law_690 (lv_at hl 4 rfl) ?_
  refine lv_iconst (v := nI 1) S.1 S.2.1 dL_law_692 (by decide) ?_
  refine lv_iadd S.1 S.2.1 dL_law_693 ?_
  refine l_ld S F hs (k := k) (j := 1) (by omega) hL (by omega) dL_law_694 ?_
  refine lv_aload_n S.1 S.2.1 dL_law_695 rfl (lv_at hl 0 rfl) ?_
  refine lv_iload S.1 S.2.1 dL_law_696 (lv_at hl 4 rfl) ?_
  refine lv_iconst (v := nI 2) S.1 S.2.1 dL_law_698 (by decide) ?_
  refine lv_iadd S.1 S.2.1 dL_law_699 ?_
  refine l_ld S F hs (k := k) (j := 2) (by omega) hL (by omega) dL_law_700 ?_
  refine lv_aload_n S.1 S.2.1 dL_law_701 rfl (lv_at hl 3 rfl) ?_
  refine l_cw (rest := []) S F hs hl.1 (metL_line l hfl D cI cB cM cL ad6 a A ao F.2.2.2.2.2.2.2.1 (xs (4 * k + 1)) (xs (4 * k + 2)) χ f res e8 hw) (cwL_108 S.2.2.2.2 ⟨Nat.le_of_ble_eq_true rfl, Nat.le_of_ble_eq_true rfl⟩) rfl dL_law_702 rfl (Nat.le_of_ble_eq_true rfl) hfit (fun H locs r χ1 f1 hO hs => ?_)
  obtain ⟨hr9, hRel, hf0⟩ := lq_sum hO hop
  refine lv_istore (lv' := [(5, .int r), (0, .ref b), (1, .ref (a 0 0)), (2, .ref h), (3, .ref ao), (4, .int (nI (4 * k)))]) S.1 S.2.1 dL_law_705 hl (by decide) rfl (fun ls hl => ?_)
  refine lv_aload_n S.1 S.2.1 dL_law_707 rfl (lv_at hl 3 rfl) ?_
  refine lv_aload_n S.1 S.2.1 dL_law_708 rfl (lv_at hl 1 rfl) ?_
  refine lv_iload S.1 S.2.1 dL_law_709 (lv_at hl 5 rfl) ?_
  refine lv_iconst (v := nI 1) S.1 S.2.1 dL_law_711 (by decide) ?_
  refine lv_iadd S.1 S.2.1 dL_law_712 ?_
  refine l_ld S F hs (k := k) (j := 1) (by omega) hL (by omega) dL_law_713 ?_
  refine lv_aload_n S.1 S.2.1 dL_law_714 rfl (lv_at hl 1 rfl) ?_
  refine lv_iload S.1 S.2.1 dL_law_715 (lv_at hl 5 rfl) ?_
  refine lv_iconst (v := nI 2) S.1 S.2.1 dL_law_717 (by decide) ?_
  refine lv_iadd S.1 S.2.1 dL_law_718 ?_
  refine l_ld S F hs (k := k) (j := 2) (by omega) hL (by omega) dL_law_719 ?_
  refine l_c9 (rest := []) S F hs hl.1 (metX9_line l D cI h ad (xs (4 * k + 1)) (xs (4 * k + 2)) σ b9 σ' e9) (cwL_110 S.2.2.2.2 ⟨Nat.le_of_ble_eq_true rfl, Nat.le_of_ble_eq_true rfl⟩) rfl dL_law_720 rfl (Nat.le_of_ble_eq_true rfl) ⟨hfit.1, hfit.2⟩ (fun H locs hs => ?_)
  refine lv_istore (lv' := [(6, .int b9), (5, .int r), (0, .ref b), (1, .ref (a 0 0)), (2, .ref h), (3, .ref ao), (4, .int (nI (4 * k)))]) S.1 S.2.1 dL_law_723 hl (by decide) rfl (fun ls hl => ?_)
  refine lv_aload_n S.1 S.2.1 dL_law_725 rfl (lv_at hl 4 rfl) ?_
  refine l_c9 (rest := []) S F hs hl.1 (metX9_thrown l D cI h ad σ' (σ' 7 0) rfl) (cwL_82 S.2.2.2.2 ⟨Nat.le_of_ble_eq_true rfl, Nat.le_of_ble_eq_true rfl⟩) rfl dL_law_726 rfl (Nat.le_of_ble_eq_true rfl) ⟨hfit.1, hfit.2⟩ (fun H locs hs => ?_)
  refine lv_iload S.1 S.2.1 dL_law_729 (lv_at hl 1 rfl) ?_
  refine lv_icmp_eq (tgt := 736) S.1 S.2.1 dL_law_731 (by decide) (fun _ => ?_) (fun hn => absurd hr9 hn)
  refine lv_iload S.1 S.2.1 dL_law_736 (lv_at hl 1 rfl) ?_
  refine lv_if_ne (tgt := 753) S.1 S.2.1 dL_law_738 (by decide) (fun hz9 => ?_) (fun hz9 => ?_)
  · skip
    refine lv_goto (tgt := 1391) S.1 S.2.1 dL_law_753 (by decide) ?_
    exact kk H locs ls χ1 σ' f1 hRel (lv_sub hl [2, 3, 4, 5, 6] rfl) hs
  · skip
    refine lv_aload_n S.1 S.2.1 dL_law_741 rfl (lv_at hl 5 rfl) ?_
    refine lv_iconst (v := nI 0) S.1 S.2.1 dL_law_742 (by decide) ?_
    refine l_lald S F hs dL_law_743 ?_
    refine lv_iload S.1 S.2.1 dL_law_744 (lv_at hl 0 rfl) ?_
    refine lv_i2l S.1 S.2.1 dL_law_746 rfl ?_
    refine W.lcmp S.1 S.2.1 dL_law_747 ?_
    rw [hf0 hz9, l_cmp0]
    refine lv_if_eq (tgt := 753) S.1 S.2.1 dL_law_748 (by decide) (fun _ => ?_) (fun hn => absurd rfl hn)
    refine lv_goto (tgt := 1391) S.1 S.2.1 dL_law_753 (by decide) ?_
    exact kk H locs ls χ1 σ' f1 hRel (lv_sub hl [2, 3, 4, 5, 6] rfl) hs
set_option maxHeartbeats 4000000 in
set_option maxRecDepth 100000 in
theorem lop_pending {p : Program} {l : Launch} {e : Env} {s : State} {m : MethodId} {args : Array Value} {below : List Frame} {meth : Method} {c : Code} {H : Heap} {locs : List Loc} {cells slots : Nat} {Q : State → Prop} {ls : Array Slot} {D : va_G} {cI cB cM cL : ClassId} {ad6 : Nat → Nat} {a : Nat → Nat → Nat} {A : Nat → Prop} {h : Nat} {ad : Nat → Nat} {ao : Nat} {cI2 : ClassId} {b L : Nat} {xs : Nat → Int32} {χ : cSt} {σ : zSt} {f : Nat → Int64} {Rel : zSt → cSt → Prop} (hfl : l.stackTraces = false) (S : CallFix p m c code 9 s args WA RL) (F : lFx D cI cB cM cL ad6 a A h ad ao cI2 b L xs s) {k : Nat} (hk : 4 * k + 3 < L) (hL : L ≤ 2048) (hl : lv_has ls 9 [(0, .ref b), (1, .ref (a 0 0)), (2, .ref h), (3, .ref ao), (4, .int (nI (4 * k)))]) (hs : lS D cI cB cM cL ad6 a A h ad ao s χ σ f H locs) (hfit : cells + 8 ≤ room_1.cells ∧ slots + 48 ≤ room_1.slots) (hop : opT Rel (wk (nI 1) (nI 2) 0) χ (fX8_pending (xs (4 * k + 1)) (xs (4 * k + 2)) χ) (fX9_pending (xs (4 * k + 1)) (xs (4 * k + 2)) σ)) (kk : ∀ (H1 : Heap) (locs1 : List Loc) (ls1 : Array Slot) (χ1 : cSt) (σ1 : zSt) (f1 : Nat → Int64), Rel σ1 χ1 → lv_has ls1 9 [(0, .ref b), (1, .ref (a 0 0)), (2, .ref h), (3, .ref ao), (4, .int (nI (4 * k)))] → lS D cI cB cM cL ad6 a A h ad ao s χ1 σ1 f1 H1 locs1 → W p l e room_1 s m args below meth c H1 locs1 (cells + 8) (slots + 48) Q (F0 m 1391 ls1 [])) : W p l e room_1 s m args below meth c H locs cells slots Q (F0 m 756 ls []) := by
  obtain ⟨res, b9, σ', e8, e9, hop⟩ := hop
  have hw := lq_hw hop
  refine lv_aload_n S.1 S.2.1 dL_law_756 rfl (lv_at hl 1 rfl) ?_
  refine lv_aload_n S.1 S.2.1 dL_law_757 rfl (lv_at hl 0 rfl) ?_
  refine lv_iload S.1 S.2.1 dL_law_758 (lv_at hl 4 rfl) ?_
  refine lv_iconst (v := nI 1) S.1 S.2.1 dL_law_760 (by decide) ?_
  refine lv_iadd S.1 S.2.1 dL_law_761 ?_
  refine l_ld S F hs (k := k) (j := 1) (by omega) hL (by omega) dL_law_762 ?_
  refine lv_aload_n S.1 S.2.1 dL_law_763 rfl (lv_at hl 0 rfl) ?_
  refine lv_iload S.1 S.2.1 dL_law_764 (lv_at hl 4 rfl) ?_
  refine lv_iconst (v := nI 2) S.1 S.2.1 dL_law_766 (by decide) ?_
  refine lv_iadd S.1 S.2.1 dL_law_767 ?_
  refine l_ld S F hs (k := k) (j := 2) (by omega) hL (by omega) dL_law_768 ?_
  refine lv_aload_n S.1 S.2.1 dL_law_769 rfl (lv_at hl 3 rfl) ?_
  refine l_cw (rest := []) S F hs hl.1 (metL_pending l hfl D cI cB cM cL ad6 a A ao F.2.2.2.2.2.2.2.1 (xs (4 * k + 1)) (xs (4 * k + 2)) χ f res e8 hw) (cwL_111 S.2.2.2.2 ⟨Nat.le_of_ble_eq_true rfl, Nat.le_of_ble_eq_true rfl⟩) rfl dL_law_770 rfl (Nat.le_of_ble_eq_true rfl) hfit (fun H locs r χ1 f1 hO hs => ?_)
  obtain ⟨hr9, hRel, hf0⟩ := lq_sum hO hop
  refine lv_istore (lv' := [(5, .int r), (0, .ref b), (1, .ref (a 0 0)), (2, .ref h), (3, .ref ao), (4, .int (nI (4 * k)))]) S.1 S.2.1 dL_law_773 hl (by decide) rfl (fun ls hl => ?_)
  refine lv_aload_n S.1 S.2.1 dL_law_775 rfl (lv_at hl 3 rfl) ?_
  refine lv_aload_n S.1 S.2.1 dL_law_776 rfl (lv_at hl 1 rfl) ?_
  refine lv_iload S.1 S.2.1 dL_law_777 (lv_at hl 5 rfl) ?_
  refine lv_iconst (v := nI 1) S.1 S.2.1 dL_law_779 (by decide) ?_
  refine lv_iadd S.1 S.2.1 dL_law_780 ?_
  refine l_ld S F hs (k := k) (j := 1) (by omega) hL (by omega) dL_law_781 ?_
  refine lv_aload_n S.1 S.2.1 dL_law_782 rfl (lv_at hl 1 rfl) ?_
  refine lv_iload S.1 S.2.1 dL_law_783 (lv_at hl 5 rfl) ?_
  refine lv_iconst (v := nI 2) S.1 S.2.1 dL_law_785 (by decide) ?_
  refine lv_iadd S.1 S.2.1 dL_law_786 ?_
  refine l_ld S F hs (k := k) (j := 2) (by omega) hL (by omega) dL_law_787 ?_
  refine l_c9 (rest := []) S F hs hl.1 (metX9_pending l D cI h ad (xs (4 * k + 1)) (xs (4 * k + 2)) σ b9 σ' e9) (cwL_113 S.2.2.2.2 ⟨Nat.le_of_ble_eq_true rfl, Nat.le_of_ble_eq_true rfl⟩) rfl dL_law_788 rfl (Nat.le_of_ble_eq_true rfl) ⟨hfit.1, hfit.2⟩ (fun H locs hs => ?_)
  refine lv_istore (lv' := [(6, .int b9), (5, .int r), (0, .ref b), (1, .ref (a 0 0)), (2, .ref h), (3, .ref ao), (4, .int (nI (4 * k)))]) S.1 S.2.1 dL_law_791 hl (by decide) rfl (fun ls hl => ?_)
  refine lv_aload_n S.1 S.2.1 dL_law_793 rfl (lv_at hl 4 rfl) ?_
  refine l_c9 (rest := []) S F hs hl.1 (metX9_thrown l D cI h ad σ' (σ' 7 0) rfl) (cwL_82 S.2.2.2.2 ⟨Nat.le_of_ble_eq_true rfl, Nat.le_of_ble_eq_true rfl⟩) rfl dL_law_794 rfl (Nat.le_of_ble_eq_true rfl) ⟨hfit.1, hfit.2⟩ (fun H locs hs => ?_)
  refine lv_iload S.1 S.2.1 dL_law_797 (lv_at hl 1 rfl) ?_
  refine lv_icmp_eq (tgt := 804) S.1 S.2.1 dL_law_799 (by decide) (fun _ => ?_) (fun hn => absurd hr9 hn)
  refine lv_iload S.1 S.2.1 dL_law_804 (lv_at hl 1 rfl) ?_
  refine lv_if_ne (tgt := 821) S.1 S.2.1 dL_law_806 (by decide) (fun hz9 => ?_) (fun hz9 => ?_)
  · skip
    refine lv_goto (tgt := 1391) S.1 S.2.1 dL_law_821 (by decide) ?_
    exact kk H locs ls χ1 σ' f1 hRel (lv_sub hl [2, 3, 4, 5, 6] rfl) hs
  · skip
    refine lv_aload_n S.1 S.2.1 dL_law_809 rfl (lv_at hl 5 rfl) ?_
    refine lv_iconst (v := nI 0) S.1 S.2.1 dL_law_810 (by decide) ?_
    refine l_lald S F hs dL_law_811 ?_
    refine lv_iload S.1 S.2.1 dL_law_812 (lv_at hl 0 rfl) ?_
    refine lv_i2l S.1 S.2.1 dL_law_814 rfl ?_
    refine W.lcmp S.1 S.2.1 dL_law_815 ?_
    rw [hf0 hz9, l_cmp0]
    refine lv_if_eq (tgt := 821) S.1 S.2.1 dL_law_816 (by decide) (fun _ => ?_) (fun hn => absurd rfl hn)
    refine lv_goto (tgt := 1391) S.1 S.2.1 dL_law_821 (by decide) ?_
    exact kk H locs ls χ1 σ' f1 hRel (lv_sub hl [2, 3, 4, 5, 6] rfl) hs
set_option maxHeartbeats 4000000 in
set_option maxRecDepth 100000 in
theorem lop_entry {p : Program} {l : Launch} {e : Env} {s : State} {m : MethodId} {args : Array Value} {below : List Frame} {meth : Method} {c : Code} {H : Heap} {locs : List Loc} {cells slots : Nat} {Q : State → Prop} {ls : Array Slot} {D : va_G} {cI cB cM cL : ClassId} {ad6 : Nat → Nat} {a : Nat → Nat → Nat} {A : Nat → Prop} {h : Nat} {ad : Nat → Nat} {ao : Nat} {cI2 : ClassId} {b L : Nat} {xs : Nat → Int32} {χ : cSt} {σ : zSt} {f : Nat → Int64} {Rel : zSt → cSt → Prop} (hfl : l.stackTraces = false) (S : CallFix p m c code 9 s args WA RL) (F : lFx D cI cB cM cL ad6 a A h ad ao cI2 b L xs s) {k : Nat} (hk : 4 * k + 3 < L) (hL : L ≤ 2048) (hl : lv_has ls 9 [(0, .ref b), (1, .ref (a 0 0)), (2, .ref h), (3, .ref ao), (4, .int (nI (4 * k)))]) (hs : lS D cI cB cM cL ad6 a A h ad ao s χ σ f H locs) (hfit : cells + 8 ≤ room_1.cells ∧ slots + 48 ≤ room_1.slots) (hop : opT Rel (wk (nI 1) (nI 2) 0) χ (fX8_entry (xs (4 * k + 1)) (xs (4 * k + 2)) χ) (fX9_entry (xs (4 * k + 1)) (xs (4 * k + 2)) σ)) (kk : ∀ (H1 : Heap) (locs1 : List Loc) (ls1 : Array Slot) (χ1 : cSt) (σ1 : zSt) (f1 : Nat → Int64), Rel σ1 χ1 → lv_has ls1 9 [(0, .ref b), (1, .ref (a 0 0)), (2, .ref h), (3, .ref ao), (4, .int (nI (4 * k)))] → lS D cI cB cM cL ad6 a A h ad ao s χ1 σ1 f1 H1 locs1 → W p l e room_1 s m args below meth c H1 locs1 (cells + 8) (slots + 48) Q (F0 m 1391 ls1 [])) : W p l e room_1 s m args below meth c H locs cells slots Q (F0 m 824 ls []) := by
  obtain ⟨res, b9, σ', e8, e9, hop⟩ := hop
  have hw := lq_hw hop
  refine lv_aload_n S.1 S.2.1 dL_law_824 rfl (lv_at hl 1 rfl) ?_
  refine lv_aload_n S.1 S.2.1 dL_law_825 rfl (lv_at hl 0 rfl) ?_
  refine lv_iload S.1 S.2.1 dL_law_826 (lv_at hl 4 rfl) ?_
  refine lv_iconst (v := nI 1) S.1 S.2.1 dL_law_828 (by decide) ?_
  refine lv_iadd S.1 S.2.1 dL_law_829 ?_
  refine l_ld S F hs (k := k) (j := 1) (by omega) hL (by omega) dL_law_830 ?_
  refine lv_aload_n S.1 S.2.1 dL_law_831 rfl (lv_at hl 0 rfl) ?_
  refine lv_iload S.1 S.2.1 dL_law_832 (lv_at hl 4 rfl) ?_
  refine lv_iconst (v := nI 2) S.1 S.2.1 dL_law_834 (by decide) ?_
  refine lv_iadd S.1 S.2.1 dL_law_835 ?_
  refine l_ld S F hs (k := k) (j := 2) (by omega) hL (by omega) dL_law_836 ?_
  refine lv_aload_n S.1 S.2.1 dL_law_837 rfl (lv_at hl 3 rfl) ?_
  refine l_cw (rest := []) S F hs hl.1 (metL_entry l hfl D cI cB cM cL ad6 a A ao F.2.2.2.2.2.2.2.1 (xs (4 * k + 1)) (xs (4 * k + 2)) χ f res e8 hw) (cwL_114 S.2.2.2.2 ⟨Nat.le_of_ble_eq_true rfl, Nat.le_of_ble_eq_true rfl⟩) rfl dL_law_838 rfl (Nat.le_of_ble_eq_true rfl) hfit (fun H locs r χ1 f1 hO hs => ?_)
  obtain ⟨hr9, hRel, hf0⟩ := lq_sum hO hop
  refine lv_istore (lv' := [(5, .int r), (0, .ref b), (1, .ref (a 0 0)), (2, .ref h), (3, .ref ao), (4, .int (nI (4 * k)))]) S.1 S.2.1 dL_law_841 hl (by decide) rfl (fun ls hl => ?_)
  refine lv_aload_n S.1 S.2.1 dL_law_843 rfl (lv_at hl 3 rfl) ?_
  refine lv_aload_n S.1 S.2.1 dL_law_844 rfl (lv_at hl 1 rfl) ?_
  refine lv_iload S.1 S.2.1 dL_law_845 (lv_at hl 5 rfl) ?_
  refine lv_iconst (v := nI 1) S.1 S.2.1 dL_law_847 (by decide) ?_
  refine lv_iadd S.1 S.2.1 dL_law_848 ?_
  refine l_ld S F hs (k := k) (j := 1) (by omega) hL (by omega) dL_law_849 ?_
  refine lv_aload_n S.1 S.2.1 dL_law_850 rfl (lv_at hl 1 rfl) ?_
  refine lv_iload S.1 S.2.1 dL_law_851 (lv_at hl 5 rfl) ?_
  refine lv_iconst (v := nI 2) S.1 S.2.1 dL_law_853 (by decide) ?_
  refine lv_iadd S.1 S.2.1 dL_law_854 ?_
  refine l_ld S F hs (k := k) (j := 2) (by omega) hL (by omega) dL_law_855 ?_
  refine l_c9 (rest := []) S F hs hl.1 (metX9_entry l D cI h ad (xs (4 * k + 1)) (xs (4 * k + 2)) σ b9 σ' e9) (cwL_116 S.2.2.2.2 ⟨Nat.le_of_ble_eq_true rfl, Nat.le_of_ble_eq_true rfl⟩) rfl dL_law_856 rfl (Nat.le_of_ble_eq_true rfl) ⟨hfit.1, hfit.2⟩ (fun H locs hs => ?_)
  refine lv_istore (lv' := [(6, .int b9), (5, .int r), (0, .ref b), (1, .ref (a 0 0)), (2, .ref h), (3, .ref ao), (4, .int (nI (4 * k)))]) S.1 S.2.1 dL_law_859 hl (by decide) rfl (fun ls hl => ?_)
  refine lv_aload_n S.1 S.2.1 dL_law_861 rfl (lv_at hl 4 rfl) ?_
  refine l_c9 (rest := []) S F hs hl.1 (metX9_thrown l D cI h ad σ' (σ' 7 0) rfl) (cwL_82 S.2.2.2.2 ⟨Nat.le_of_ble_eq_true rfl, Nat.le_of_ble_eq_true rfl⟩) rfl dL_law_862 rfl (Nat.le_of_ble_eq_true rfl) ⟨hfit.1, hfit.2⟩ (fun H locs hs => ?_)
  refine lv_iload S.1 S.2.1 dL_law_865 (lv_at hl 1 rfl) ?_
  refine lv_icmp_eq (tgt := 872) S.1 S.2.1 dL_law_867 (by decide) (fun _ => ?_) (fun hn => absurd hr9 hn)
  refine lv_iload S.1 S.2.1 dL_law_872 (lv_at hl 1 rfl) ?_
  refine lv_if_ne (tgt := 889) S.1 S.2.1 dL_law_874 (by decide) (fun hz9 => ?_) (fun hz9 => ?_)
  · skip
    refine lv_goto (tgt := 1391) S.1 S.2.1 dL_law_889 (by decide) ?_
    exact kk H locs ls χ1 σ' f1 hRel (lv_sub hl [2, 3, 4, 5, 6] rfl) hs
  · skip
    refine lv_aload_n S.1 S.2.1 dL_law_877 rfl (lv_at hl 5 rfl) ?_
    refine lv_iconst (v := nI 0) S.1 S.2.1 dL_law_878 (by decide) ?_
    refine l_lald S F hs dL_law_879 ?_
    refine lv_iload S.1 S.2.1 dL_law_880 (lv_at hl 0 rfl) ?_
    refine lv_i2l S.1 S.2.1 dL_law_882 rfl ?_
    refine W.lcmp S.1 S.2.1 dL_law_883 ?_
    rw [hf0 hz9, l_cmp0]
    refine lv_if_eq (tgt := 889) S.1 S.2.1 dL_law_884 (by decide) (fun _ => ?_) (fun hn => absurd rfl hn)
    refine lv_goto (tgt := 1391) S.1 S.2.1 dL_law_889 (by decide) ?_
    exact kk H locs ls χ1 σ' f1 hRel (lv_sub hl [2, 3, 4, 5, 6] rfl) hs
set_option maxHeartbeats 4000000 in
set_option maxRecDepth 100000 in
theorem lop_value {p : Program} {l : Launch} {e : Env} {s : State} {m : MethodId} {args : Array Value} {below : List Frame} {meth : Method} {c : Code} {H : Heap} {locs : List Loc} {cells slots : Nat} {Q : State → Prop} {ls : Array Slot} {D : va_G} {cI cB cM cL : ClassId} {ad6 : Nat → Nat} {a : Nat → Nat → Nat} {A : Nat → Prop} {h : Nat} {ad : Nat → Nat} {ao : Nat} {cI2 : ClassId} {b L : Nat} {xs : Nat → Int32} {χ : cSt} {σ : zSt} {f : Nat → Int64} {Rel : zSt → cSt → Prop} (hfl : l.stackTraces = false) (S : CallFix p m c code 9 s args WA RL) (F : lFx D cI cB cM cL ad6 a A h ad ao cI2 b L xs s) {k : Nat} (hk : 4 * k + 3 < L) (hL : L ≤ 2048) (hl : lv_has ls 9 [(0, .ref b), (1, .ref (a 0 0)), (2, .ref h), (3, .ref ao), (4, .int (nI (4 * k)))]) (hs : lS D cI cB cM cL ad6 a A h ad ao s χ σ f H locs) (hfit : cells + 8 ≤ room_1.cells ∧ slots + 48 ≤ room_1.slots) (hop : opT Rel (wk 0 (nI 1) 0) χ (fX8_value (xs (4 * k + 1)) χ) (fX9_value (xs (4 * k + 1)) σ)) (kk : ∀ (H1 : Heap) (locs1 : List Loc) (ls1 : Array Slot) (χ1 : cSt) (σ1 : zSt) (f1 : Nat → Int64), Rel σ1 χ1 → lv_has ls1 9 [(0, .ref b), (1, .ref (a 0 0)), (2, .ref h), (3, .ref ao), (4, .int (nI (4 * k)))] → lS D cI cB cM cL ad6 a A h ad ao s χ1 σ1 f1 H1 locs1 → W p l e room_1 s m args below meth c H1 locs1 (cells + 8) (slots + 48) Q (F0 m 1391 ls1 [])) : W p l e room_1 s m args below meth c H locs cells slots Q (F0 m 892 ls []) := by
  obtain ⟨res, b9, σ', e8, e9, hop⟩ := hop
  have hw := lq_hw hop
  refine lv_aload_n S.1 S.2.1 dL_law_892 rfl (lv_at hl 1 rfl) ?_
  refine lv_aload_n S.1 S.2.1 dL_law_893 rfl (lv_at hl 0 rfl) ?_
  refine lv_iload S.1 S.2.1 dL_law_894 (lv_at hl 4 rfl) ?_
  refine lv_iconst (v := nI 1) S.1 S.2.1 dL_law_896 (by decide) ?_
  refine lv_iadd S.1 S.2.1 dL_law_897 ?_
  refine l_ld S F hs (k := k) (j := 1) (by omega) hL (by omega) dL_law_898 ?_
  refine lv_aload_n S.1 S.2.1 dL_law_899 rfl (lv_at hl 3 rfl) ?_
  refine l_cw (rest := []) S F hs hl.1 (metL_value l hfl D cI cB cM cL ad6 a A ao F.2.2.2.2.2.2.2.1 (xs (4 * k + 1)) χ f res e8 hw) (cwL_117 S.2.2.2.2 ⟨Nat.le_of_ble_eq_true rfl, Nat.le_of_ble_eq_true rfl⟩) rfl dL_law_900 rfl (Nat.le_of_ble_eq_true rfl) hfit (fun H locs r χ1 f1 hO hs => ?_)
  obtain ⟨hr9, hRel, hf0⟩ := lq_sum hO hop
  refine lv_istore (lv' := [(5, .int r), (0, .ref b), (1, .ref (a 0 0)), (2, .ref h), (3, .ref ao), (4, .int (nI (4 * k)))]) S.1 S.2.1 dL_law_903 hl (by decide) rfl (fun ls hl => ?_)
  refine lv_aload_n S.1 S.2.1 dL_law_905 rfl (lv_at hl 3 rfl) ?_
  refine lv_aload_n S.1 S.2.1 dL_law_906 rfl (lv_at hl 1 rfl) ?_
  refine lv_iload S.1 S.2.1 dL_law_907 (lv_at hl 5 rfl) ?_
  refine lv_iconst (v := nI 1) S.1 S.2.1 dL_law_909 (by decide) ?_
  refine lv_iadd S.1 S.2.1 dL_law_910 ?_
  refine l_ld S F hs (k := k) (j := 1) (by omega) hL (by omega) dL_law_911 ?_
  refine l_c9 (rest := []) S F hs hl.1 (metX9_value l D cI h ad (xs (4 * k + 1)) σ b9 σ' e9) (cwL_119 S.2.2.2.2 ⟨Nat.le_of_ble_eq_true rfl, Nat.le_of_ble_eq_true rfl⟩) rfl dL_law_912 rfl (Nat.le_of_ble_eq_true rfl) ⟨hfit.1, hfit.2⟩ (fun H locs hs => ?_)
  refine lv_istore (lv' := [(6, .int b9), (5, .int r), (0, .ref b), (1, .ref (a 0 0)), (2, .ref h), (3, .ref ao), (4, .int (nI (4 * k)))]) S.1 S.2.1 dL_law_915 hl (by decide) rfl (fun ls hl => ?_)
  refine lv_aload_n S.1 S.2.1 dL_law_917 rfl (lv_at hl 4 rfl) ?_
  refine l_c9 (rest := []) S F hs hl.1 (metX9_thrown l D cI h ad σ' (σ' 7 0) rfl) (cwL_82 S.2.2.2.2 ⟨Nat.le_of_ble_eq_true rfl, Nat.le_of_ble_eq_true rfl⟩) rfl dL_law_918 rfl (Nat.le_of_ble_eq_true rfl) ⟨hfit.1, hfit.2⟩ (fun H locs hs => ?_)
  refine lv_iload S.1 S.2.1 dL_law_921 (lv_at hl 1 rfl) ?_
  refine lv_icmp_eq (tgt := 928) S.1 S.2.1 dL_law_923 (by decide) (fun _ => ?_) (fun hn => absurd hr9 hn)
  refine lv_iload S.1 S.2.1 dL_law_928 (lv_at hl 1 rfl) ?_
  refine lv_if_ne (tgt := 945) S.1 S.2.1 dL_law_930 (by decide) (fun hz9 => ?_) (fun hz9 => ?_)
  · skip
    refine lv_goto (tgt := 1391) S.1 S.2.1 dL_law_945 (by decide) ?_
    exact kk H locs ls χ1 σ' f1 hRel (lv_sub hl [2, 3, 4, 5, 6] rfl) hs
  · skip
    refine lv_aload_n S.1 S.2.1 dL_law_933 rfl (lv_at hl 5 rfl) ?_
    refine lv_iconst (v := nI 0) S.1 S.2.1 dL_law_934 (by decide) ?_
    refine l_lald S F hs dL_law_935 ?_
    refine lv_iload S.1 S.2.1 dL_law_936 (lv_at hl 0 rfl) ?_
    refine lv_i2l S.1 S.2.1 dL_law_938 rfl ?_
    refine W.lcmp S.1 S.2.1 dL_law_939 ?_
    rw [hf0 hz9, l_cmp0]
    refine lv_if_eq (tgt := 945) S.1 S.2.1 dL_law_940 (by decide) (fun _ => ?_) (fun hn => absurd rfl hn)
    refine lv_goto (tgt := 1391) S.1 S.2.1 dL_law_945 (by decide) ?_
    exact kk H locs ls χ1 σ' f1 hRel (lv_sub hl [2, 3, 4, 5, 6] rfl) hs
set_option maxHeartbeats 4000000 in
set_option maxRecDepth 100000 in
theorem lop_cost {p : Program} {l : Launch} {e : Env} {s : State} {m : MethodId} {args : Array Value} {below : List Frame} {meth : Method} {c : Code} {H : Heap} {locs : List Loc} {cells slots : Nat} {Q : State → Prop} {ls : Array Slot} {D : va_G} {cI cB cM cL : ClassId} {ad6 : Nat → Nat} {a : Nat → Nat → Nat} {A : Nat → Prop} {h : Nat} {ad : Nat → Nat} {ao : Nat} {cI2 : ClassId} {b L : Nat} {xs : Nat → Int32} {χ : cSt} {σ : zSt} {f : Nat → Int64} {Rel : zSt → cSt → Prop} (hfl : l.stackTraces = false) (S : CallFix p m c code 9 s args WA RL) (F : lFx D cI cB cM cL ad6 a A h ad ao cI2 b L xs s) {k : Nat} (hk : 4 * k + 3 < L) (hL : L ≤ 2048) (hl : lv_has ls 9 [(0, .ref b), (1, .ref (a 0 0)), (2, .ref h), (3, .ref ao), (4, .int (nI (4 * k)))]) (hs : lS D cI cB cM cL ad6 a A h ad ao s χ σ f H locs) (hfit : cells + 8 ≤ room_1.cells ∧ slots + 48 ≤ room_1.slots) (hop : opT Rel (wk (nI 1) 0 0) χ (fX8_cost (xs (4 * k + 1)) (xs (4 * k + 2)) (lz (xs (4 * k + 3))) χ) (fX9_cost (xs (4 * k + 1)) (xs (4 * k + 2)) (lz (xs (4 * k + 3))) σ)) (kk : ∀ (H1 : Heap) (locs1 : List Loc) (ls1 : Array Slot) (χ1 : cSt) (σ1 : zSt) (f1 : Nat → Int64), Rel σ1 χ1 → lv_has ls1 9 [(0, .ref b), (1, .ref (a 0 0)), (2, .ref h), (3, .ref ao), (4, .int (nI (4 * k)))] → lS D cI cB cM cL ad6 a A h ad ao s χ1 σ1 f1 H1 locs1 → W p l e room_1 s m args below meth c H1 locs1 (cells + 8) (slots + 48) Q (F0 m 1391 ls1 [])) : W p l e room_1 s m args below meth c H locs cells slots Q (F0 m 948 ls []) := by
  obtain ⟨res, b9, σ', e8, e9, hop⟩ := hop
  have hw := lq_hw hop
  refine lv_aload_n S.1 S.2.1 dL_law_948 rfl (lv_at hl 1 rfl) ?_
  refine lv_aload_n S.1 S.2.1 dL_law_949 rfl (lv_at hl 0 rfl) ?_
  refine lv_iload S.1 S.2.1 dL_law_950 (lv_at hl 4 rfl) ?_
  refine lv_iconst (v := nI 1) S.1 S.2.1 dL_law_952 (by decide) ?_
  refine lv_iadd S.1 S.2.1 dL_law_953 ?_
  refine l_ld S F hs (k := k) (j := 1) (by omega) hL (by omega) dL_law_954 ?_
  refine lv_aload_n S.1 S.2.1 dL_law_955 rfl (lv_at hl 0 rfl) ?_
  refine lv_iload S.1 S.2.1 dL_law_956 (lv_at hl 4 rfl) ?_
  refine lv_iconst (v := nI 2) S.1 S.2.1 dL_law_958 (by decide) ?_
  refine lv_iadd S.1 S.2.1 dL_law_959 ?_
  refine l_ld S F hs (k := k) (j := 2) (by omega) hL (by omega) dL_law_960 ?_
  refine lv_aload_n S.1 S.2.1 dL_law_961 rfl (lv_at hl 0 rfl) ?_
  refine lv_iload S.1 S.2.1 dL_law_962 (lv_at hl 4 rfl) ?_
  refine lv_iconst (v := nI 3) S.1 S.2.1 dL_law_964 (by decide) ?_
  refine lv_iadd S.1 S.2.1 dL_law_965 ?_
  refine l_ld S F hs (k := k) (j := 3) (by omega) hL (by omega) dL_law_966 ?_
  refine lv_if_eq (tgt := 974) S.1 S.2.1 dL_law_967 (by decide) (fun hz => ?_) (fun hz => ?_)
  · rw [show lz (xs (4 * k + 3)) = nI 0 from if_pos hz] at e8 e9
    refine lv_iconst (v := nI 0) S.1 S.2.1 dL_law_974 (by decide) ?_
    refine lv_aload_n S.1 S.2.1 dL_law_975 rfl (lv_at hl 3 rfl) ?_
    refine l_cw (rest := []) S F hs hl.1 (metL_cost l hfl D cI cB cM cL ad6 a A ao F.2.2.2.2.2.2.2.1 (xs (4 * k + 1)) (xs (4 * k + 2)) (nI 0) χ f res e8 hw) (cwL_120 S.2.2.2.2 ⟨Nat.le_of_ble_eq_true rfl, Nat.le_of_ble_eq_true rfl⟩) rfl dL_law_976 rfl (Nat.le_of_ble_eq_true rfl) hfit (fun H locs r χ1 f1 hO hs => ?_)
    obtain ⟨hr9, hRel, hf0⟩ := lq_sum hO hop
    refine lv_istore (lv' := [(5, .int r), (0, .ref b), (1, .ref (a 0 0)), (2, .ref h), (3, .ref ao), (4, .int (nI (4 * k)))]) S.1 S.2.1 dL_law_979 hl (by decide) rfl (fun ls hl => ?_)
    refine lv_aload_n S.1 S.2.1 dL_law_981 rfl (lv_at hl 3 rfl) ?_
    refine lv_aload_n S.1 S.2.1 dL_law_982 rfl (lv_at hl 1 rfl) ?_
    refine lv_iload S.1 S.2.1 dL_law_983 (lv_at hl 5 rfl) ?_
    refine lv_iconst (v := nI 1) S.1 S.2.1 dL_law_985 (by decide) ?_
    refine lv_iadd S.1 S.2.1 dL_law_986 ?_
    refine l_ld S F hs (k := k) (j := 1) (by omega) hL (by omega) dL_law_987 ?_
    refine lv_aload_n S.1 S.2.1 dL_law_988 rfl (lv_at hl 1 rfl) ?_
    refine lv_iload S.1 S.2.1 dL_law_989 (lv_at hl 5 rfl) ?_
    refine lv_iconst (v := nI 2) S.1 S.2.1 dL_law_991 (by decide) ?_
    refine lv_iadd S.1 S.2.1 dL_law_992 ?_
    refine l_ld S F hs (k := k) (j := 2) (by omega) hL (by omega) dL_law_993 ?_
    refine lv_aload_n S.1 S.2.1 dL_law_994 rfl (lv_at hl 1 rfl) ?_
    refine lv_iload S.1 S.2.1 dL_law_995 (lv_at hl 5 rfl) ?_
    refine lv_iconst (v := nI 3) S.1 S.2.1 dL_law_997 (by decide) ?_
    refine lv_iadd S.1 S.2.1 dL_law_998 ?_
    refine l_ld S F hs (k := k) (j := 3) (by omega) hL (by omega) dL_law_999 ?_
    refine lv_if_eq (tgt := 1007) S.1 S.2.1 dL_law_1000 (by decide) (fun _ => ?_) (fun h => absurd hz h)
    refine lv_iconst (v := nI 0) S.1 S.2.1 dL_law_1007 (by decide) ?_
    refine l_c9 (rest := []) S F hs hl.1 (metX9_cost l D cI h ad (xs (4 * k + 1)) (xs (4 * k + 2)) (nI 0) σ b9 σ' e9) (cwL_123 S.2.2.2.2 ⟨Nat.le_of_ble_eq_true rfl, Nat.le_of_ble_eq_true rfl⟩) rfl dL_law_1008 rfl (Nat.le_of_ble_eq_true rfl) ⟨hfit.1, hfit.2⟩ (fun H locs hs => ?_)
    refine lv_istore (lv' := [(6, .int b9), (5, .int r), (0, .ref b), (1, .ref (a 0 0)), (2, .ref h), (3, .ref ao), (4, .int (nI (4 * k)))]) S.1 S.2.1 dL_law_1011 hl (by decide) rfl (fun ls hl => ?_)
    refine lv_aload_n S.1 S.2.1 dL_law_1013 rfl (lv_at hl 4 rfl) ?_
    refine l_c9 (rest := []) S F hs hl.1 (metX9_thrown l D cI h ad σ' (σ' 7 0) rfl) (cwL_82 S.2.2.2.2 ⟨Nat.le_of_ble_eq_true rfl, Nat.le_of_ble_eq_true rfl⟩) rfl dL_law_1014 rfl (Nat.le_of_ble_eq_true rfl) ⟨hfit.1, hfit.2⟩ (fun H locs hs => ?_)
    refine lv_iload S.1 S.2.1 dL_law_1017 (lv_at hl 1 rfl) ?_
    refine lv_icmp_eq (tgt := 1024) S.1 S.2.1 dL_law_1019 (by decide) (fun _ => ?_) (fun hn => absurd hr9 hn)
    refine lv_iload S.1 S.2.1 dL_law_1024 (lv_at hl 1 rfl) ?_
    refine lv_if_ne (tgt := 1041) S.1 S.2.1 dL_law_1026 (by decide) (fun hz9 => ?_) (fun hz9 => ?_)
    · skip
      refine lv_goto (tgt := 1391) S.1 S.2.1 dL_law_1041 (by decide) ?_
      exact kk H locs ls χ1 σ' f1 hRel (lv_sub hl [2, 3, 4, 5, 6] rfl) hs
    · skip
      refine lv_aload_n S.1 S.2.1 dL_law_1029 rfl (lv_at hl 5 rfl) ?_
      refine lv_iconst (v := nI 0) S.1 S.2.1 dL_law_1030 (by decide) ?_
      refine l_lald S F hs dL_law_1031 ?_
      refine lv_iload S.1 S.2.1 dL_law_1032 (lv_at hl 0 rfl) ?_
      refine lv_i2l S.1 S.2.1 dL_law_1034 rfl ?_
      refine W.lcmp S.1 S.2.1 dL_law_1035 ?_
      rw [hf0 hz9, l_cmp0]
      refine lv_if_eq (tgt := 1041) S.1 S.2.1 dL_law_1036 (by decide) (fun _ => ?_) (fun hn => absurd rfl hn)
      refine lv_goto (tgt := 1391) S.1 S.2.1 dL_law_1041 (by decide) ?_
      exact kk H locs ls χ1 σ' f1 hRel (lv_sub hl [2, 3, 4, 5, 6] rfl) hs
  · rw [show lz (xs (4 * k + 3)) = nI 1 from if_neg hz] at e8 e9
    refine lv_iconst (v := nI 1) S.1 S.2.1 dL_law_970 (by decide) ?_
    refine lv_goto (tgt := 975) S.1 S.2.1 dL_law_971 (by decide) ?_
    refine lv_aload_n S.1 S.2.1 dL_law_975 rfl (lv_at hl 3 rfl) ?_
    refine l_cw (rest := []) S F hs hl.1 (metL_cost l hfl D cI cB cM cL ad6 a A ao F.2.2.2.2.2.2.2.1 (xs (4 * k + 1)) (xs (4 * k + 2)) (nI 1) χ f res e8 hw) (cwL_120 S.2.2.2.2 ⟨Nat.le_of_ble_eq_true rfl, Nat.le_of_ble_eq_true rfl⟩) rfl dL_law_976 rfl (Nat.le_of_ble_eq_true rfl) hfit (fun H locs r χ1 f1 hO hs => ?_)
    obtain ⟨hr9, hRel, hf0⟩ := lq_sum hO hop
    refine lv_istore (lv' := [(5, .int r), (0, .ref b), (1, .ref (a 0 0)), (2, .ref h), (3, .ref ao), (4, .int (nI (4 * k)))]) S.1 S.2.1 dL_law_979 hl (by decide) rfl (fun ls hl => ?_)
    refine lv_aload_n S.1 S.2.1 dL_law_981 rfl (lv_at hl 3 rfl) ?_
    refine lv_aload_n S.1 S.2.1 dL_law_982 rfl (lv_at hl 1 rfl) ?_
    refine lv_iload S.1 S.2.1 dL_law_983 (lv_at hl 5 rfl) ?_
    refine lv_iconst (v := nI 1) S.1 S.2.1 dL_law_985 (by decide) ?_
    refine lv_iadd S.1 S.2.1 dL_law_986 ?_
    refine l_ld S F hs (k := k) (j := 1) (by omega) hL (by omega) dL_law_987 ?_
    refine lv_aload_n S.1 S.2.1 dL_law_988 rfl (lv_at hl 1 rfl) ?_
    refine lv_iload S.1 S.2.1 dL_law_989 (lv_at hl 5 rfl) ?_
    refine lv_iconst (v := nI 2) S.1 S.2.1 dL_law_991 (by decide) ?_
    refine lv_iadd S.1 S.2.1 dL_law_992 ?_
    refine l_ld S F hs (k := k) (j := 2) (by omega) hL (by omega) dL_law_993 ?_
    refine lv_aload_n S.1 S.2.1 dL_law_994 rfl (lv_at hl 1 rfl) ?_
    refine lv_iload S.1 S.2.1 dL_law_995 (lv_at hl 5 rfl) ?_
    refine lv_iconst (v := nI 3) S.1 S.2.1 dL_law_997 (by decide) ?_
    refine lv_iadd S.1 S.2.1 dL_law_998 ?_
    refine l_ld S F hs (k := k) (j := 3) (by omega) hL (by omega) dL_law_999 ?_
    refine lv_if_eq (tgt := 1007) S.1 S.2.1 dL_law_1000 (by decide) (fun h => absurd h hz) (fun _ => ?_)
    refine lv_iconst (v := nI 1) S.1 S.2.1 dL_law_1003 (by decide) ?_
    refine lv_goto (tgt := 1008) S.1 S.2.1 dL_law_1004 (by decide) ?_
    refine l_c9 (rest := []) S F hs hl.1 (metX9_cost l D cI h ad (xs (4 * k + 1)) (xs (4 * k + 2)) (nI 1) σ b9 σ' e9) (cwL_123 S.2.2.2.2 ⟨Nat.le_of_ble_eq_true rfl, Nat.le_of_ble_eq_true rfl⟩) rfl dL_law_1008 rfl (Nat.le_of_ble_eq_true rfl) ⟨hfit.1, hfit.2⟩ (fun H locs hs => ?_)
    refine lv_istore (lv' := [(6, .int b9), (5, .int r), (0, .ref b), (1, .ref (a 0 0)), (2, .ref h), (3, .ref ao), (4, .int (nI (4 * k)))]) S.1 S.2.1 dL_law_1011 hl (by decide) rfl (fun ls hl => ?_)
    refine lv_aload_n S.1 S.2.1 dL_law_1013 rfl (lv_at hl 4 rfl) ?_
    refine l_c9 (rest := []) S F hs hl.1 (metX9_thrown l D cI h ad σ' (σ' 7 0) rfl) (cwL_82 S.2.2.2.2 ⟨Nat.le_of_ble_eq_true rfl, Nat.le_of_ble_eq_true rfl⟩) rfl dL_law_1014 rfl (Nat.le_of_ble_eq_true rfl) ⟨hfit.1, hfit.2⟩ (fun H locs hs => ?_)
    refine lv_iload S.1 S.2.1 dL_law_1017 (lv_at hl 1 rfl) ?_
    refine lv_icmp_eq (tgt := 1024) S.1 S.2.1 dL_law_1019 (by decide) (fun _ => ?_) (fun hn => absurd hr9 hn)
    refine lv_iload S.1 S.2.1 dL_law_1024 (lv_at hl 1 rfl) ?_
    refine lv_if_ne (tgt := 1041) S.1 S.2.1 dL_law_1026 (by decide) (fun hz9 => ?_) (fun hz9 => ?_)
    · skip
      refine lv_goto (tgt := 1391) S.1 S.2.1 dL_law_1041 (by decide) ?_
      exact kk H locs ls χ1 σ' f1 hRel (lv_sub hl [2, 3, 4, 5, 6] rfl) hs
    · skip
      refine lv_aload_n S.1 S.2.1 dL_law_1029 rfl (lv_at hl 5 rfl) ?_
      refine lv_iconst (v := nI 0) S.1 S.2.1 dL_law_1030 (by decide) ?_
      refine l_lald S F hs dL_law_1031 ?_
      refine lv_iload S.1 S.2.1 dL_law_1032 (lv_at hl 0 rfl) ?_
      refine lv_i2l S.1 S.2.1 dL_law_1034 rfl ?_
      refine W.lcmp S.1 S.2.1 dL_law_1035 ?_
      rw [hf0 hz9, l_cmp0]
      refine lv_if_eq (tgt := 1041) S.1 S.2.1 dL_law_1036 (by decide) (fun _ => ?_) (fun hn => absurd rfl hn)
      refine lv_goto (tgt := 1391) S.1 S.2.1 dL_law_1041 (by decide) ?_
      exact kk H locs ls χ1 σ' f1 hRel (lv_sub hl [2, 3, 4, 5, 6] rfl) hs
set_option maxHeartbeats 4000000 in
set_option maxRecDepth 100000 in
theorem lop_nextTorn {p : Program} {l : Launch} {e : Env} {s : State} {m : MethodId} {args : Array Value} {below : List Frame} {meth : Method} {c : Code} {H : Heap} {locs : List Loc} {cells slots : Nat} {Q : State → Prop} {ls : Array Slot} {D : va_G} {cI cB cM cL : ClassId} {ad6 : Nat → Nat} {a : Nat → Nat → Nat} {A : Nat → Prop} {h : Nat} {ad : Nat → Nat} {ao : Nat} {cI2 : ClassId} {b L : Nat} {xs : Nat → Int32} {χ : cSt} {σ : zSt} {f : Nat → Int64} {Rel : zSt → cSt → Prop} (hfl : l.stackTraces = false) (S : CallFix p m c code 9 s args WA RL) (F : lFx D cI cB cM cL ad6 a A h ad ao cI2 b L xs s) {k : Nat} (hk : 4 * k + 3 < L) (hL : L ≤ 2048) (hl : lv_has ls 9 [(0, .ref b), (1, .ref (a 0 0)), (2, .ref h), (3, .ref ao), (4, .int (nI (4 * k)))]) (hs : lS D cI cB cM cL ad6 a A h ad ao s χ σ f H locs) (hfit : cells + 8 ≤ room_1.cells ∧ slots + 48 ≤ room_1.slots) (hop : opV Rel χ (fX8_nextTorn χ) (fX9_nextTorn σ)) (kk : ∀ (H1 : Heap) (locs1 : List Loc) (ls1 : Array Slot) (χ1 : cSt) (σ1 : zSt) (f1 : Nat → Int64), Rel σ1 χ1 → lv_has ls1 9 [(0, .ref b), (1, .ref (a 0 0)), (2, .ref h), (3, .ref ao), (4, .int (nI (4 * k)))] → lS D cI cB cM cL ad6 a A h ad ao s χ1 σ1 f1 H1 locs1 → W p l e room_1 s m args below meth c H1 locs1 (cells + 8) (slots + 48) Q (F0 m 1391 ls1 [])) : W p l e room_1 s m args below meth c H locs cells slots Q (F0 m 1044 ls []) := by
  obtain ⟨b9, σ', e8, e9, hop⟩ := hop
  refine lv_aload_n S.1 S.2.1 dL_law_1044 rfl (lv_at hl 1 rfl) ?_
  refine l_c8 (rest := []) S F hs hl.1 (metX8_nextTorn l D cI cB cM ad6 a A  χ b9  e8) (cwL_124 S.2.2.2.2 ⟨Nat.le_of_ble_eq_true rfl, Nat.le_of_ble_eq_true rfl⟩) rfl dL_law_1045 rfl (Nat.le_of_ble_eq_true rfl) ⟨by omega, by omega⟩ (fun H locs hs => ?_)
  refine lv_aload_n S.1 S.2.1 dL_law_1048 rfl (lv_at hl 2 rfl) ?_
  refine l_c9 (rest := [.int b9]) S F hs hl.1 (metX9_nextTorn l D cI h ad  σ b9 σ' e9) (cwL_127 S.2.2.2.2 ⟨Nat.le_of_ble_eq_true rfl, Nat.le_of_ble_eq_true rfl⟩) rfl dL_law_1049 rfl (Nat.le_of_ble_eq_true rfl) ⟨by omega, by omega⟩ (fun H locs hs => ?_)
  refine lv_icmp_eq (tgt := 1391) S.1 S.2.1 dL_law_1052 (by decide) (fun _ => ?_) (fun hn => absurd rfl hn)
  exact W.widen (by omega) (by omega) (kk H locs ls χ σ' f hop (lv_sub hl [0, 1, 2, 3, 4] rfl) hs)
set_option maxHeartbeats 4000000 in
set_option maxRecDepth 100000 in
theorem lop_nextDropped {p : Program} {l : Launch} {e : Env} {s : State} {m : MethodId} {args : Array Value} {below : List Frame} {meth : Method} {c : Code} {H : Heap} {locs : List Loc} {cells slots : Nat} {Q : State → Prop} {ls : Array Slot} {D : va_G} {cI cB cM cL : ClassId} {ad6 : Nat → Nat} {a : Nat → Nat → Nat} {A : Nat → Prop} {h : Nat} {ad : Nat → Nat} {ao : Nat} {cI2 : ClassId} {b L : Nat} {xs : Nat → Int32} {χ : cSt} {σ : zSt} {f : Nat → Int64} {Rel : zSt → cSt → Prop} (hfl : l.stackTraces = false) (S : CallFix p m c code 9 s args WA RL) (F : lFx D cI cB cM cL ad6 a A h ad ao cI2 b L xs s) {k : Nat} (hk : 4 * k + 3 < L) (hL : L ≤ 2048) (hl : lv_has ls 9 [(0, .ref b), (1, .ref (a 0 0)), (2, .ref h), (3, .ref ao), (4, .int (nI (4 * k)))]) (hs : lS D cI cB cM cL ad6 a A h ad ao s χ σ f H locs) (hfit : cells + 8 ≤ room_1.cells ∧ slots + 48 ≤ room_1.slots) (hop : opT Rel (wk (nI 1) 0 0) χ (fX8_nextDropped (xs (4 * k + 1)) χ) (fX9_nextDropped (xs (4 * k + 1)) σ)) (kk : ∀ (H1 : Heap) (locs1 : List Loc) (ls1 : Array Slot) (χ1 : cSt) (σ1 : zSt) (f1 : Nat → Int64), Rel σ1 χ1 → lv_has ls1 9 [(0, .ref b), (1, .ref (a 0 0)), (2, .ref h), (3, .ref ao), (4, .int (nI (4 * k)))] → lS D cI cB cM cL ad6 a A h ad ao s χ1 σ1 f1 H1 locs1 → W p l e room_1 s m args below meth c H1 locs1 (cells + 8) (slots + 48) Q (F0 m 1391 ls1 [])) : W p l e room_1 s m args below meth c H locs cells slots Q (F0 m 1057 ls []) := by
  obtain ⟨res, b9, σ', e8, e9, hop⟩ := hop
  have hw := lq_hw hop
  refine lv_aload_n S.1 S.2.1 dL_law_1057 rfl (lv_at hl 1 rfl) ?_
  refine lv_aload_n S.1 S.2.1 dL_law_1058 rfl (lv_at hl 0 rfl) ?_
  refine lv_iload S.1 S.2.1 dL_law_1059 (lv_at hl 4 rfl) ?_
  refine lv_iconst (v := nI 1) S.1 S.2.1 dL_law_1061 (by decide) ?_
  refine lv_iadd S.1 S.2.1 dL_law_1062 ?_
  refine l_ld S F hs (k := k) (j := 1) (by omega) hL (by omega) dL_law_1063 ?_
  refine lv_aload_n S.1 S.2.1 dL_law_1064 rfl (lv_at hl 3 rfl) ?_
  refine l_cw (rest := []) S F hs hl.1 (metL_nextDropped l hfl D cI cB cM cL ad6 a A ao F.2.2.2.2.2.2.2.1 (xs (4 * k + 1)) χ f res e8 hw) (cwL_128 S.2.2.2.2 ⟨Nat.le_of_ble_eq_true rfl, Nat.le_of_ble_eq_true rfl⟩) rfl dL_law_1065 rfl (Nat.le_of_ble_eq_true rfl) hfit (fun H locs r χ1 f1 hO hs => ?_)
  obtain ⟨hr9, hRel, hf0⟩ := lq_sum hO hop
  refine lv_istore (lv' := [(5, .int r), (0, .ref b), (1, .ref (a 0 0)), (2, .ref h), (3, .ref ao), (4, .int (nI (4 * k)))]) S.1 S.2.1 dL_law_1068 hl (by decide) rfl (fun ls hl => ?_)
  refine lv_aload_n S.1 S.2.1 dL_law_1070 rfl (lv_at hl 3 rfl) ?_
  refine lv_aload_n S.1 S.2.1 dL_law_1071 rfl (lv_at hl 1 rfl) ?_
  refine lv_iload S.1 S.2.1 dL_law_1072 (lv_at hl 5 rfl) ?_
  refine lv_iconst (v := nI 1) S.1 S.2.1 dL_law_1074 (by decide) ?_
  refine lv_iadd S.1 S.2.1 dL_law_1075 ?_
  refine l_ld S F hs (k := k) (j := 1) (by omega) hL (by omega) dL_law_1076 ?_
  refine l_c9 (rest := []) S F hs hl.1 (metX9_nextDropped l D cI h ad (xs (4 * k + 1)) σ b9 σ' e9) (cwL_130 S.2.2.2.2 ⟨Nat.le_of_ble_eq_true rfl, Nat.le_of_ble_eq_true rfl⟩) rfl dL_law_1077 rfl (Nat.le_of_ble_eq_true rfl) ⟨hfit.1, hfit.2⟩ (fun H locs hs => ?_)
  refine lv_istore (lv' := [(6, .int b9), (5, .int r), (0, .ref b), (1, .ref (a 0 0)), (2, .ref h), (3, .ref ao), (4, .int (nI (4 * k)))]) S.1 S.2.1 dL_law_1080 hl (by decide) rfl (fun ls hl => ?_)
  refine lv_aload_n S.1 S.2.1 dL_law_1082 rfl (lv_at hl 4 rfl) ?_
  refine l_c9 (rest := []) S F hs hl.1 (metX9_thrown l D cI h ad σ' (σ' 7 0) rfl) (cwL_82 S.2.2.2.2 ⟨Nat.le_of_ble_eq_true rfl, Nat.le_of_ble_eq_true rfl⟩) rfl dL_law_1083 rfl (Nat.le_of_ble_eq_true rfl) ⟨hfit.1, hfit.2⟩ (fun H locs hs => ?_)
  refine lv_iload S.1 S.2.1 dL_law_1086 (lv_at hl 1 rfl) ?_
  refine lv_icmp_eq (tgt := 1093) S.1 S.2.1 dL_law_1088 (by decide) (fun _ => ?_) (fun hn => absurd hr9 hn)
  refine lv_iload S.1 S.2.1 dL_law_1093 (lv_at hl 1 rfl) ?_
  refine lv_if_ne (tgt := 1110) S.1 S.2.1 dL_law_1095 (by decide) (fun hz9 => ?_) (fun hz9 => ?_)
  · skip
    refine lv_goto (tgt := 1391) S.1 S.2.1 dL_law_1110 (by decide) ?_
    exact kk H locs ls χ1 σ' f1 hRel (lv_sub hl [2, 3, 4, 5, 6] rfl) hs
  · skip
    refine lv_aload_n S.1 S.2.1 dL_law_1098 rfl (lv_at hl 5 rfl) ?_
    refine lv_iconst (v := nI 0) S.1 S.2.1 dL_law_1099 (by decide) ?_
    refine l_lald S F hs dL_law_1100 ?_
    refine lv_iload S.1 S.2.1 dL_law_1101 (lv_at hl 0 rfl) ?_
    refine lv_i2l S.1 S.2.1 dL_law_1103 rfl ?_
    refine W.lcmp S.1 S.2.1 dL_law_1104 ?_
    rw [hf0 hz9, l_cmp0]
    refine lv_if_eq (tgt := 1110) S.1 S.2.1 dL_law_1105 (by decide) (fun _ => ?_) (fun hn => absurd rfl hn)
    refine lv_goto (tgt := 1391) S.1 S.2.1 dL_law_1110 (by decide) ?_
    exact kk H locs ls χ1 σ' f1 hRel (lv_sub hl [2, 3, 4, 5, 6] rfl) hs
set_option maxHeartbeats 4000000 in
set_option maxRecDepth 100000 in
theorem lop_ticksToServe {p : Program} {l : Launch} {e : Env} {s : State} {m : MethodId} {args : Array Value} {below : List Frame} {meth : Method} {c : Code} {H : Heap} {locs : List Loc} {cells slots : Nat} {Q : State → Prop} {ls : Array Slot} {D : va_G} {cI cB cM cL : ClassId} {ad6 : Nat → Nat} {a : Nat → Nat → Nat} {A : Nat → Prop} {h : Nat} {ad : Nat → Nat} {ao : Nat} {cI2 : ClassId} {b L : Nat} {xs : Nat → Int32} {χ : cSt} {σ : zSt} {f : Nat → Int64} {Rel : zSt → cSt → Prop} (hfl : l.stackTraces = false) (S : CallFix p m c code 9 s args WA RL) (F : lFx D cI cB cM cL ad6 a A h ad ao cI2 b L xs s) {k : Nat} (hk : 4 * k + 3 < L) (hL : L ≤ 2048) (hl : lv_has ls 9 [(0, .ref b), (1, .ref (a 0 0)), (2, .ref h), (3, .ref ao), (4, .int (nI (4 * k)))]) (hs : lS D cI cB cM cL ad6 a A h ad ao s χ σ f H locs) (hfit : cells + 8 ≤ room_1.cells ∧ slots + 48 ≤ room_1.slots) (hop : opP Rel (fX8_ticksToServe χ) (fX9_ticksToServe σ)) (kk : ∀ (H1 : Heap) (locs1 : List Loc) (ls1 : Array Slot) (χ1 : cSt) (σ1 : zSt) (f1 : Nat → Int64), Rel σ1 χ1 → lv_has ls1 9 [(0, .ref b), (1, .ref (a 0 0)), (2, .ref h), (3, .ref ao), (4, .int (nI (4 * k)))] → lS D cI cB cM cL ad6 a A h ad ao s χ1 σ1 f1 H1 locs1 → W p l e room_1 s m args below meth c H1 locs1 (cells + 8) (slots + 48) Q (F0 m 1391 ls1 [])) : W p l e room_1 s m args below meth c H locs cells slots Q (F0 m 1113 ls []) := by
  obtain ⟨b9, χ9, σ', e8, e9, hop⟩ := hop
  refine lv_aload_n S.1 S.2.1 dL_law_1113 rfl (lv_at hl 1 rfl) ?_
  refine l_c8 (rest := []) S F hs hl.1 (metX8_ticksToServe l D cI cB cM ad6 a A  χ b9 χ9 e8) (cwL_131 S.2.2.2.2 ⟨Nat.le_of_ble_eq_true rfl, Nat.le_of_ble_eq_true rfl⟩) rfl dL_law_1114 rfl (Nat.le_of_ble_eq_true rfl) ⟨by omega, by omega⟩ (fun H locs hs => ?_)
  refine lv_aload_n S.1 S.2.1 dL_law_1117 rfl (lv_at hl 2 rfl) ?_
  refine l_c9 (rest := [.int b9]) S F hs hl.1 (metX9_ticksToServe l D cI h ad  σ b9 σ' e9) (cwL_134 S.2.2.2.2 ⟨Nat.le_of_ble_eq_true rfl, Nat.le_of_ble_eq_true rfl⟩) rfl dL_law_1118 rfl (Nat.le_of_ble_eq_true rfl) ⟨by omega, by omega⟩ (fun H locs hs => ?_)
  refine lv_icmp_eq (tgt := 1391) S.1 S.2.1 dL_law_1121 (by decide) (fun _ => ?_) (fun hn => absurd rfl hn)
  exact W.widen (by omega) (by omega) (kk H locs ls χ9 σ' f hop (lv_sub hl [0, 1, 2, 3, 4] rfl) hs)
set_option maxHeartbeats 4000000 in
set_option maxRecDepth 100000 in
theorem lop_cheapest {p : Program} {l : Launch} {e : Env} {s : State} {m : MethodId} {args : Array Value} {below : List Frame} {meth : Method} {c : Code} {H : Heap} {locs : List Loc} {cells slots : Nat} {Q : State → Prop} {ls : Array Slot} {D : va_G} {cI cB cM cL : ClassId} {ad6 : Nat → Nat} {a : Nat → Nat → Nat} {A : Nat → Prop} {h : Nat} {ad : Nat → Nat} {ao : Nat} {cI2 : ClassId} {b L : Nat} {xs : Nat → Int32} {χ : cSt} {σ : zSt} {f : Nat → Int64} {Rel : zSt → cSt → Prop} (hfl : l.stackTraces = false) (S : CallFix p m c code 9 s args WA RL) (F : lFx D cI cB cM cL ad6 a A h ad ao cI2 b L xs s) {k : Nat} (hk : 4 * k + 3 < L) (hL : L ≤ 2048) (hl : lv_has ls 9 [(0, .ref b), (1, .ref (a 0 0)), (2, .ref h), (3, .ref ao), (4, .int (nI (4 * k)))]) (hs : lS D cI cB cM cL ad6 a A h ad ao s χ σ f H locs) (hfit : cells + 8 ≤ room_1.cells ∧ slots + 48 ≤ room_1.slots) (hop : opT Rel (wk (nI 1) 0 0) χ (fX8_cheapest (xs (4 * k + 1)) (lz (xs (4 * k + 2))) χ) (fX9_cheapest (xs (4 * k + 1)) (lz (xs (4 * k + 2))) σ)) (kk : ∀ (H1 : Heap) (locs1 : List Loc) (ls1 : Array Slot) (χ1 : cSt) (σ1 : zSt) (f1 : Nat → Int64), Rel σ1 χ1 → lv_has ls1 9 [(0, .ref b), (1, .ref (a 0 0)), (2, .ref h), (3, .ref ao), (4, .int (nI (4 * k)))] → lS D cI cB cM cL ad6 a A h ad ao s χ1 σ1 f1 H1 locs1 → W p l e room_1 s m args below meth c H1 locs1 (cells + 8) (slots + 48) Q (F0 m 1391 ls1 [])) : W p l e room_1 s m args below meth c H locs cells slots Q (F0 m 1126 ls []) := by
  obtain ⟨res, b9, σ', e8, e9, hop⟩ := hop
  have hw := lq_hw hop
  refine lv_aload_n S.1 S.2.1 dL_law_1126 rfl (lv_at hl 1 rfl) ?_
  refine lv_aload_n S.1 S.2.1 dL_law_1127 rfl (lv_at hl 0 rfl) ?_
  refine lv_iload S.1 S.2.1 dL_law_1128 (lv_at hl 4 rfl) ?_
  refine lv_iconst (v := nI 1) S.1 S.2.1 dL_law_1130 (by decide) ?_
  refine lv_iadd S.1 S.2.1 dL_law_1131 ?_
  refine l_ld S F hs (k := k) (j := 1) (by omega) hL (by omega) dL_law_1132 ?_
  refine lv_aload_n S.1 S.2.1 dL_law_1133 rfl (lv_at hl 0 rfl) ?_
  refine lv_iload S.1 S.2.1 dL_law_1134 (lv_at hl 4 rfl) ?_
  refine lv_iconst (v := nI 2) S.1 S.2.1 dL_law_1136 (by decide) ?_
  refine lv_iadd S.1 S.2.1 dL_law_1137 ?_
  refine l_ld S F hs (k := k) (j := 2) (by omega) hL (by omega) dL_law_1138 ?_
  refine lv_if_eq (tgt := 1146) S.1 S.2.1 dL_law_1139 (by decide) (fun hz => ?_) (fun hz => ?_)
  · rw [show lz (xs (4 * k + 2)) = nI 0 from if_pos hz] at e8 e9
    refine lv_iconst (v := nI 0) S.1 S.2.1 dL_law_1146 (by decide) ?_
    refine lv_aload_n S.1 S.2.1 dL_law_1147 rfl (lv_at hl 3 rfl) ?_
    refine l_cw (rest := []) S F hs hl.1 (metL_cheapest l hfl D cI cB cM cL ad6 a A ao F.2.2.2.2.2.2.2.1 (xs (4 * k + 1)) (nI 0) χ f res e8 hw) (cwL_135 S.2.2.2.2 ⟨Nat.le_of_ble_eq_true rfl, Nat.le_of_ble_eq_true rfl⟩) rfl dL_law_1148 rfl (Nat.le_of_ble_eq_true rfl) hfit (fun H locs r χ1 f1 hO hs => ?_)
    obtain ⟨hr9, hRel, hf0⟩ := lq_sum hO hop
    refine lv_istore (lv' := [(5, .int r), (0, .ref b), (1, .ref (a 0 0)), (2, .ref h), (3, .ref ao), (4, .int (nI (4 * k)))]) S.1 S.2.1 dL_law_1151 hl (by decide) rfl (fun ls hl => ?_)
    refine lv_aload_n S.1 S.2.1 dL_law_1153 rfl (lv_at hl 3 rfl) ?_
    refine lv_aload_n S.1 S.2.1 dL_law_1154 rfl (lv_at hl 1 rfl) ?_
    refine lv_iload S.1 S.2.1 dL_law_1155 (lv_at hl 5 rfl) ?_
    refine lv_iconst (v := nI 1) S.1 S.2.1 dL_law_1157 (by decide) ?_
    refine lv_iadd S.1 S.2.1 dL_law_1158 ?_
    refine l_ld S F hs (k := k) (j := 1) (by omega) hL (by omega) dL_law_1159 ?_
    refine lv_aload_n S.1 S.2.1 dL_law_1160 rfl (lv_at hl 1 rfl) ?_
    refine lv_iload S.1 S.2.1 dL_law_1161 (lv_at hl 5 rfl) ?_
    refine lv_iconst (v := nI 2) S.1 S.2.1 dL_law_1163 (by decide) ?_
    refine lv_iadd S.1 S.2.1 dL_law_1164 ?_
    refine l_ld S F hs (k := k) (j := 2) (by omega) hL (by omega) dL_law_1165 ?_
    refine lv_if_eq (tgt := 1173) S.1 S.2.1 dL_law_1166 (by decide) (fun _ => ?_) (fun h => absurd hz h)
    refine lv_iconst (v := nI 0) S.1 S.2.1 dL_law_1173 (by decide) ?_
    refine l_c9 (rest := []) S F hs hl.1 (metX9_cheapest l D cI h ad (xs (4 * k + 1)) (nI 0) σ b9 σ' e9) (cwL_138 S.2.2.2.2 ⟨Nat.le_of_ble_eq_true rfl, Nat.le_of_ble_eq_true rfl⟩) rfl dL_law_1174 rfl (Nat.le_of_ble_eq_true rfl) ⟨hfit.1, hfit.2⟩ (fun H locs hs => ?_)
    refine lv_istore (lv' := [(6, .int b9), (5, .int r), (0, .ref b), (1, .ref (a 0 0)), (2, .ref h), (3, .ref ao), (4, .int (nI (4 * k)))]) S.1 S.2.1 dL_law_1177 hl (by decide) rfl (fun ls hl => ?_)
    refine lv_aload_n S.1 S.2.1 dL_law_1179 rfl (lv_at hl 4 rfl) ?_
    refine l_c9 (rest := []) S F hs hl.1 (metX9_thrown l D cI h ad σ' (σ' 7 0) rfl) (cwL_82 S.2.2.2.2 ⟨Nat.le_of_ble_eq_true rfl, Nat.le_of_ble_eq_true rfl⟩) rfl dL_law_1180 rfl (Nat.le_of_ble_eq_true rfl) ⟨hfit.1, hfit.2⟩ (fun H locs hs => ?_)
    refine lv_iload S.1 S.2.1 dL_law_1183 (lv_at hl 1 rfl) ?_
    refine lv_icmp_eq (tgt := 1190) S.1 S.2.1 dL_law_1185 (by decide) (fun _ => ?_) (fun hn => absurd hr9 hn)
    refine lv_iload S.1 S.2.1 dL_law_1190 (lv_at hl 1 rfl) ?_
    refine lv_if_ne (tgt := 1207) S.1 S.2.1 dL_law_1192 (by decide) (fun hz9 => ?_) (fun hz9 => ?_)
    · skip
      refine lv_goto (tgt := 1391) S.1 S.2.1 dL_law_1207 (by decide) ?_
      exact kk H locs ls χ1 σ' f1 hRel (lv_sub hl [2, 3, 4, 5, 6] rfl) hs
    · skip
      refine lv_aload_n S.1 S.2.1 dL_law_1195 rfl (lv_at hl 5 rfl) ?_
      refine lv_iconst (v := nI 0) S.1 S.2.1 dL_law_1196 (by decide) ?_
      refine l_lald S F hs dL_law_1197 ?_
      refine lv_iload S.1 S.2.1 dL_law_1198 (lv_at hl 0 rfl) ?_
      refine lv_i2l S.1 S.2.1 dL_law_1200 rfl ?_
      refine W.lcmp S.1 S.2.1 dL_law_1201 ?_
      rw [hf0 hz9, l_cmp0]
      refine lv_if_eq (tgt := 1207) S.1 S.2.1 dL_law_1202 (by decide) (fun _ => ?_) (fun hn => absurd rfl hn)
      refine lv_goto (tgt := 1391) S.1 S.2.1 dL_law_1207 (by decide) ?_
      exact kk H locs ls χ1 σ' f1 hRel (lv_sub hl [2, 3, 4, 5, 6] rfl) hs
  · rw [show lz (xs (4 * k + 2)) = nI 1 from if_neg hz] at e8 e9
    refine lv_iconst (v := nI 1) S.1 S.2.1 dL_law_1142 (by decide) ?_
    refine lv_goto (tgt := 1147) S.1 S.2.1 dL_law_1143 (by decide) ?_
    refine lv_aload_n S.1 S.2.1 dL_law_1147 rfl (lv_at hl 3 rfl) ?_
    refine l_cw (rest := []) S F hs hl.1 (metL_cheapest l hfl D cI cB cM cL ad6 a A ao F.2.2.2.2.2.2.2.1 (xs (4 * k + 1)) (nI 1) χ f res e8 hw) (cwL_135 S.2.2.2.2 ⟨Nat.le_of_ble_eq_true rfl, Nat.le_of_ble_eq_true rfl⟩) rfl dL_law_1148 rfl (Nat.le_of_ble_eq_true rfl) hfit (fun H locs r χ1 f1 hO hs => ?_)
    obtain ⟨hr9, hRel, hf0⟩ := lq_sum hO hop
    refine lv_istore (lv' := [(5, .int r), (0, .ref b), (1, .ref (a 0 0)), (2, .ref h), (3, .ref ao), (4, .int (nI (4 * k)))]) S.1 S.2.1 dL_law_1151 hl (by decide) rfl (fun ls hl => ?_)
    refine lv_aload_n S.1 S.2.1 dL_law_1153 rfl (lv_at hl 3 rfl) ?_
    refine lv_aload_n S.1 S.2.1 dL_law_1154 rfl (lv_at hl 1 rfl) ?_
    refine lv_iload S.1 S.2.1 dL_law_1155 (lv_at hl 5 rfl) ?_
    refine lv_iconst (v := nI 1) S.1 S.2.1 dL_law_1157 (by decide) ?_
    refine lv_iadd S.1 S.2.1 dL_law_1158 ?_
    refine l_ld S F hs (k := k) (j := 1) (by omega) hL (by omega) dL_law_1159 ?_
    refine lv_aload_n S.1 S.2.1 dL_law_1160 rfl (lv_at hl 1 rfl) ?_
    refine lv_iload S.1 S.2.1 dL_law_1161 (lv_at hl 5 rfl) ?_
    refine lv_iconst (v := nI 2) S.1 S.2.1 dL_law_1163 (by decide) ?_
    refine lv_iadd S.1 S.2.1 dL_law_1164 ?_
    refine l_ld S F hs (k := k) (j := 2) (by omega) hL (by omega) dL_law_1165 ?_
    refine lv_if_eq (tgt := 1173) S.1 S.2.1 dL_law_1166 (by decide) (fun h => absurd h hz) (fun _ => ?_)
    refine lv_iconst (v := nI 1) S.1 S.2.1 dL_law_1169 (by decide) ?_
    refine lv_goto (tgt := 1174) S.1 S.2.1 dL_law_1170 (by decide) ?_
    refine l_c9 (rest := []) S F hs hl.1 (metX9_cheapest l D cI h ad (xs (4 * k + 1)) (nI 1) σ b9 σ' e9) (cwL_138 S.2.2.2.2 ⟨Nat.le_of_ble_eq_true rfl, Nat.le_of_ble_eq_true rfl⟩) rfl dL_law_1174 rfl (Nat.le_of_ble_eq_true rfl) ⟨hfit.1, hfit.2⟩ (fun H locs hs => ?_)
    refine lv_istore (lv' := [(6, .int b9), (5, .int r), (0, .ref b), (1, .ref (a 0 0)), (2, .ref h), (3, .ref ao), (4, .int (nI (4 * k)))]) S.1 S.2.1 dL_law_1177 hl (by decide) rfl (fun ls hl => ?_)
    refine lv_aload_n S.1 S.2.1 dL_law_1179 rfl (lv_at hl 4 rfl) ?_
    refine l_c9 (rest := []) S F hs hl.1 (metX9_thrown l D cI h ad σ' (σ' 7 0) rfl) (cwL_82 S.2.2.2.2 ⟨Nat.le_of_ble_eq_true rfl, Nat.le_of_ble_eq_true rfl⟩) rfl dL_law_1180 rfl (Nat.le_of_ble_eq_true rfl) ⟨hfit.1, hfit.2⟩ (fun H locs hs => ?_)
    refine lv_iload S.1 S.2.1 dL_law_1183 (lv_at hl 1 rfl) ?_
    refine lv_icmp_eq (tgt := 1190) S.1 S.2.1 dL_law_1185 (by decide) (fun _ => ?_) (fun hn => absurd hr9 hn)
    refine lv_iload S.1 S.2.1 dL_law_1190 (lv_at hl 1 rfl) ?_
    refine lv_if_ne (tgt := 1207) S.1 S.2.1 dL_law_1192 (by decide) (fun hz9 => ?_) (fun hz9 => ?_)
    · skip
      refine lv_goto (tgt := 1391) S.1 S.2.1 dL_law_1207 (by decide) ?_
      exact kk H locs ls χ1 σ' f1 hRel (lv_sub hl [2, 3, 4, 5, 6] rfl) hs
    · skip
      refine lv_aload_n S.1 S.2.1 dL_law_1195 rfl (lv_at hl 5 rfl) ?_
      refine lv_iconst (v := nI 0) S.1 S.2.1 dL_law_1196 (by decide) ?_
      refine l_lald S F hs dL_law_1197 ?_
      refine lv_iload S.1 S.2.1 dL_law_1198 (lv_at hl 0 rfl) ?_
      refine lv_i2l S.1 S.2.1 dL_law_1200 rfl ?_
      refine W.lcmp S.1 S.2.1 dL_law_1201 ?_
      rw [hf0 hz9, l_cmp0]
      refine lv_if_eq (tgt := 1207) S.1 S.2.1 dL_law_1202 (by decide) (fun _ => ?_) (fun hn => absurd rfl hn)
      refine lv_goto (tgt := 1391) S.1 S.2.1 dL_law_1207 (by decide) ?_
      exact kk H locs ls χ1 σ' f1 hRel (lv_sub hl [2, 3, 4, 5, 6] rfl) hs
set_option maxHeartbeats 4000000 in
set_option maxRecDepth 100000 in
theorem lop_append {p : Program} {l : Launch} {e : Env} {s : State} {m : MethodId} {args : Array Value} {below : List Frame} {meth : Method} {c : Code} {H : Heap} {locs : List Loc} {cells slots : Nat} {Q : State → Prop} {ls : Array Slot} {D : va_G} {cI cB cM cL : ClassId} {ad6 : Nat → Nat} {a : Nat → Nat → Nat} {A : Nat → Prop} {h : Nat} {ad : Nat → Nat} {ao : Nat} {cI2 : ClassId} {b L : Nat} {xs : Nat → Int32} {χ : cSt} {σ : zSt} {f : Nat → Int64} {Rel : zSt → cSt → Prop} (hfl : l.stackTraces = false) (S : CallFix p m c code 9 s args WA RL) (F : lFx D cI cB cM cL ad6 a A h ad ao cI2 b L xs s) {k : Nat} (hk : 4 * k + 3 < L) (hL : L ≤ 2048) (hl : lv_has ls 9 [(0, .ref b), (1, .ref (a 0 0)), (2, .ref h), (3, .ref ao), (4, .int (nI (4 * k)))]) (hs : lS D cI cB cM cL ad6 a A h ad ao s χ σ f H locs) (hfit : cells + 8 ≤ room_1.cells ∧ slots + 48 ≤ room_1.slots) (hop : opT Rel (wk 0 (nI 1) (nI 2)) χ (fX8_append (xs (4 * k + 1)) χ) (fX9_append (xs (4 * k + 1)) σ)) (kk : ∀ (H1 : Heap) (locs1 : List Loc) (ls1 : Array Slot) (χ1 : cSt) (σ1 : zSt) (f1 : Nat → Int64), Rel σ1 χ1 → lv_has ls1 9 [(0, .ref b), (1, .ref (a 0 0)), (2, .ref h), (3, .ref ao), (4, .int (nI (4 * k)))] → lS D cI cB cM cL ad6 a A h ad ao s χ1 σ1 f1 H1 locs1 → W p l e room_1 s m args below meth c H1 locs1 (cells + 8) (slots + 48) Q (F0 m 1391 ls1 [])) : W p l e room_1 s m args below meth c H locs cells slots Q (F0 m 1251 ls []) := by
  obtain ⟨res, b9, σ', e8, e9, hop⟩ := hop
  have hw := lq_hw hop
  refine lv_aload_n S.1 S.2.1 dL_law_1251 rfl (lv_at hl 1 rfl) ?_
  refine lv_aload_n S.1 S.2.1 dL_law_1252 rfl (lv_at hl 0 rfl) ?_
  refine lv_iload S.1 S.2.1 dL_law_1253 (lv_at hl 4 rfl) ?_
  refine lv_iconst (v := nI 1) S.1 S.2.1 dL_law_1255 (by decide) ?_
  refine lv_iadd S.1 S.2.1 dL_law_1256 ?_
  refine l_ld S F hs (k := k) (j := 1) (by omega) hL (by omega) dL_law_1257 ?_
  refine lv_aload_n S.1 S.2.1 dL_law_1258 rfl (lv_at hl 3 rfl) ?_
  refine l_cw (rest := []) S F hs hl.1 (metL_append l hfl D cI cB cM cL ad6 a A ao F.2.2.2.2.2.2.2.1 (xs (4 * k + 1)) χ f res e8 hw) (cwL_144 S.2.2.2.2 ⟨Nat.le_of_ble_eq_true rfl, Nat.le_of_ble_eq_true rfl⟩) rfl dL_law_1259 rfl (Nat.le_of_ble_eq_true rfl) hfit (fun H locs r χ1 f1 hO hs => ?_)
  obtain ⟨hr9, hRel, hf0⟩ := lq_sum hO hop
  refine lv_istore (lv' := [(5, .int r), (0, .ref b), (1, .ref (a 0 0)), (2, .ref h), (3, .ref ao), (4, .int (nI (4 * k)))]) S.1 S.2.1 dL_law_1262 hl (by decide) rfl (fun ls hl => ?_)
  refine lv_aload_n S.1 S.2.1 dL_law_1264 rfl (lv_at hl 3 rfl) ?_
  refine lv_aload_n S.1 S.2.1 dL_law_1265 rfl (lv_at hl 1 rfl) ?_
  refine lv_iload S.1 S.2.1 dL_law_1266 (lv_at hl 5 rfl) ?_
  refine lv_iconst (v := nI 1) S.1 S.2.1 dL_law_1268 (by decide) ?_
  refine lv_iadd S.1 S.2.1 dL_law_1269 ?_
  refine l_ld S F hs (k := k) (j := 1) (by omega) hL (by omega) dL_law_1270 ?_
  refine l_c9 (rest := []) S F hs hl.1 (metX9_append l D cI h ad (xs (4 * k + 1)) σ b9 σ' e9) (cwL_146 S.2.2.2.2 ⟨Nat.le_of_ble_eq_true rfl, Nat.le_of_ble_eq_true rfl⟩) rfl dL_law_1271 rfl (Nat.le_of_ble_eq_true rfl) ⟨hfit.1, hfit.2⟩ (fun H locs hs => ?_)
  refine lv_istore (lv' := [(6, .int b9), (5, .int r), (0, .ref b), (1, .ref (a 0 0)), (2, .ref h), (3, .ref ao), (4, .int (nI (4 * k)))]) S.1 S.2.1 dL_law_1274 hl (by decide) rfl (fun ls hl => ?_)
  refine lv_aload_n S.1 S.2.1 dL_law_1276 rfl (lv_at hl 4 rfl) ?_
  refine l_c9 (rest := []) S F hs hl.1 (metX9_thrown l D cI h ad σ' (σ' 7 0) rfl) (cwL_82 S.2.2.2.2 ⟨Nat.le_of_ble_eq_true rfl, Nat.le_of_ble_eq_true rfl⟩) rfl dL_law_1277 rfl (Nat.le_of_ble_eq_true rfl) ⟨hfit.1, hfit.2⟩ (fun H locs hs => ?_)
  refine lv_iload S.1 S.2.1 dL_law_1280 (lv_at hl 1 rfl) ?_
  refine lv_icmp_eq (tgt := 1287) S.1 S.2.1 dL_law_1282 (by decide) (fun _ => ?_) (fun hn => absurd hr9 hn)
  refine lv_iload S.1 S.2.1 dL_law_1287 (lv_at hl 1 rfl) ?_
  refine lv_if_ne (tgt := 1304) S.1 S.2.1 dL_law_1289 (by decide) (fun hz9 => ?_) (fun hz9 => ?_)
  · skip
    refine lv_goto (tgt := 1391) S.1 S.2.1 dL_law_1304 (by decide) ?_
    exact kk H locs ls χ1 σ' f1 hRel (lv_sub hl [2, 3, 4, 5, 6] rfl) hs
  · skip
    refine lv_aload_n S.1 S.2.1 dL_law_1292 rfl (lv_at hl 5 rfl) ?_
    refine lv_iconst (v := nI 0) S.1 S.2.1 dL_law_1293 (by decide) ?_
    refine l_lald S F hs dL_law_1294 ?_
    refine lv_iload S.1 S.2.1 dL_law_1295 (lv_at hl 0 rfl) ?_
    refine lv_i2l S.1 S.2.1 dL_law_1297 rfl ?_
    refine W.lcmp S.1 S.2.1 dL_law_1298 ?_
    rw [hf0 hz9, l_cmp0]
    refine lv_if_eq (tgt := 1304) S.1 S.2.1 dL_law_1299 (by decide) (fun _ => ?_) (fun hn => absurd rfl hn)
    refine lv_goto (tgt := 1391) S.1 S.2.1 dL_law_1304 (by decide) ?_
    exact kk H locs ls χ1 σ' f1 hRel (lv_sub hl [2, 3, 4, 5, 6] rfl) hs
set_option maxHeartbeats 4000000 in
set_option maxRecDepth 100000 in
theorem lop_clearText {p : Program} {l : Launch} {e : Env} {s : State} {m : MethodId} {args : Array Value} {below : List Frame} {meth : Method} {c : Code} {H : Heap} {locs : List Loc} {cells slots : Nat} {Q : State → Prop} {ls : Array Slot} {D : va_G} {cI cB cM cL : ClassId} {ad6 : Nat → Nat} {a : Nat → Nat → Nat} {A : Nat → Prop} {h : Nat} {ad : Nat → Nat} {ao : Nat} {cI2 : ClassId} {b L : Nat} {xs : Nat → Int32} {χ : cSt} {σ : zSt} {f : Nat → Int64} {Rel : zSt → cSt → Prop} (hfl : l.stackTraces = false) (S : CallFix p m c code 9 s args WA RL) (F : lFx D cI cB cM cL ad6 a A h ad ao cI2 b L xs s) {k : Nat} (hk : 4 * k + 3 < L) (hL : L ≤ 2048) (hl : lv_has ls 9 [(0, .ref b), (1, .ref (a 0 0)), (2, .ref h), (3, .ref ao), (4, .int (nI (4 * k)))]) (hs : lS D cI cB cM cL ad6 a A h ad ao s χ σ f H locs) (hfit : cells + 8 ≤ room_1.cells ∧ slots + 48 ≤ room_1.slots) (hop : opP Rel (fX8_clearText χ) (fX9_clearText σ)) (kk : ∀ (H1 : Heap) (locs1 : List Loc) (ls1 : Array Slot) (χ1 : cSt) (σ1 : zSt) (f1 : Nat → Int64), Rel σ1 χ1 → lv_has ls1 9 [(0, .ref b), (1, .ref (a 0 0)), (2, .ref h), (3, .ref ao), (4, .int (nI (4 * k)))] → lS D cI cB cM cL ad6 a A h ad ao s χ1 σ1 f1 H1 locs1 → W p l e room_1 s m args below meth c H1 locs1 (cells + 8) (slots + 48) Q (F0 m 1391 ls1 [])) : W p l e room_1 s m args below meth c H locs cells slots Q (F0 m 1307 ls []) := by
  obtain ⟨b9, χ9, σ', e8, e9, hop⟩ := hop
  refine lv_aload_n S.1 S.2.1 dL_law_1307 rfl (lv_at hl 1 rfl) ?_
  refine l_c8 (rest := []) S F hs hl.1 (metX8_clearText l D cI cB cM ad6 a A  χ b9 χ9 e8) (cwL_147 S.2.2.2.2 ⟨Nat.le_of_ble_eq_true rfl, Nat.le_of_ble_eq_true rfl⟩) rfl dL_law_1308 rfl (Nat.le_of_ble_eq_true rfl) ⟨by omega, by omega⟩ (fun H locs hs => ?_)
  refine lv_aload_n S.1 S.2.1 dL_law_1311 rfl (lv_at hl 2 rfl) ?_
  refine l_c9 (rest := [.int b9]) S F hs hl.1 (metX9_clearText l D cI h ad  σ b9 σ' e9) (cwL_150 S.2.2.2.2 ⟨Nat.le_of_ble_eq_true rfl, Nat.le_of_ble_eq_true rfl⟩) rfl dL_law_1312 rfl (Nat.le_of_ble_eq_true rfl) ⟨by omega, by omega⟩ (fun H locs hs => ?_)
  refine lv_icmp_eq (tgt := 1391) S.1 S.2.1 dL_law_1315 (by decide) (fun _ => ?_) (fun hn => absurd rfl hn)
  exact W.widen (by omega) (by omega) (kk H locs ls χ9 σ' f hop (lv_sub hl [0, 1, 2, 3, 4] rfl) hs)
set_option maxHeartbeats 4000000 in
set_option maxRecDepth 100000 in
theorem lop_carryOut {p : Program} {l : Launch} {e : Env} {s : State} {m : MethodId} {args : Array Value} {below : List Frame} {meth : Method} {c : Code} {H : Heap} {locs : List Loc} {cells slots : Nat} {Q : State → Prop} {ls : Array Slot} {D : va_G} {cI cB cM cL : ClassId} {ad6 : Nat → Nat} {a : Nat → Nat → Nat} {A : Nat → Prop} {h : Nat} {ad : Nat → Nat} {ao : Nat} {cI2 : ClassId} {b L : Nat} {xs : Nat → Int32} {χ : cSt} {σ : zSt} {f : Nat → Int64} {Rel : zSt → cSt → Prop} (hfl : l.stackTraces = false) (S : CallFix p m c code 9 s args WA RL) (F : lFx D cI cB cM cL ad6 a A h ad ao cI2 b L xs s) {k : Nat} (hk : 4 * k + 3 < L) (hL : L ≤ 2048) (hl : lv_has ls 9 [(0, .ref b), (1, .ref (a 0 0)), (2, .ref h), (3, .ref ao), (4, .int (nI (4 * k)))]) (hs : lS D cI cB cM cL ad6 a A h ad ao s χ σ f H locs) (hfit : cells + 8 ≤ room_1.cells ∧ slots + 48 ≤ room_1.slots) (hop : opP Rel (fX8_carryOut χ) (fX9_carryOut σ)) (kk : ∀ (H1 : Heap) (locs1 : List Loc) (ls1 : Array Slot) (χ1 : cSt) (σ1 : zSt) (f1 : Nat → Int64), Rel σ1 χ1 → lv_has ls1 9 [(0, .ref b), (1, .ref (a 0 0)), (2, .ref h), (3, .ref ao), (4, .int (nI (4 * k)))] → lS D cI cB cM cL ad6 a A h ad ao s χ1 σ1 f1 H1 locs1 → W p l e room_1 s m args below meth c H1 locs1 (cells + 8) (slots + 48) Q (F0 m 1391 ls1 [])) : W p l e room_1 s m args below meth c H locs cells slots Q (F0 m 1320 ls []) := by
  obtain ⟨b9, χ9, σ', e8, e9, hop⟩ := hop
  refine lv_aload_n S.1 S.2.1 dL_law_1320 rfl (lv_at hl 1 rfl) ?_
  refine l_c8 (rest := []) S F hs hl.1 (metX8_carryOut l D cI cB cM ad6 a A  χ b9 χ9 e8) (cwL_151 S.2.2.2.2 ⟨Nat.le_of_ble_eq_true rfl, Nat.le_of_ble_eq_true rfl⟩) rfl dL_law_1321 rfl (Nat.le_of_ble_eq_true rfl) ⟨by omega, by omega⟩ (fun H locs hs => ?_)
  refine lv_aload_n S.1 S.2.1 dL_law_1324 rfl (lv_at hl 2 rfl) ?_
  refine l_c9 (rest := [.int b9]) S F hs hl.1 (metX9_carryOut l D cI h ad  σ b9 σ' e9) (cwL_154 S.2.2.2.2 ⟨Nat.le_of_ble_eq_true rfl, Nat.le_of_ble_eq_true rfl⟩) rfl dL_law_1325 rfl (Nat.le_of_ble_eq_true rfl) ⟨by omega, by omega⟩ (fun H locs hs => ?_)
  refine lv_icmp_eq (tgt := 1391) S.1 S.2.1 dL_law_1328 (by decide) (fun _ => ?_) (fun hn => absurd rfl hn)
  exact W.widen (by omega) (by omega) (kk H locs ls χ9 σ' f hop (lv_sub hl [0, 1, 2, 3, 4] rfl) hs)
set_option maxHeartbeats 4000000 in
set_option maxRecDepth 100000 in
theorem lop_undo {p : Program} {l : Launch} {e : Env} {s : State} {m : MethodId} {args : Array Value} {below : List Frame} {meth : Method} {c : Code} {H : Heap} {locs : List Loc} {cells slots : Nat} {Q : State → Prop} {ls : Array Slot} {D : va_G} {cI cB cM cL : ClassId} {ad6 : Nat → Nat} {a : Nat → Nat → Nat} {A : Nat → Prop} {h : Nat} {ad : Nat → Nat} {ao : Nat} {cI2 : ClassId} {b L : Nat} {xs : Nat → Int32} {χ : cSt} {σ : zSt} {f : Nat → Int64} {Rel : zSt → cSt → Prop} (hfl : l.stackTraces = false) (S : CallFix p m c code 9 s args WA RL) (F : lFx D cI cB cM cL ad6 a A h ad ao cI2 b L xs s) {k : Nat} (hk : 4 * k + 3 < L) (hL : L ≤ 2048) (hl : lv_has ls 9 [(0, .ref b), (1, .ref (a 0 0)), (2, .ref h), (3, .ref ao), (4, .int (nI (4 * k)))]) (hs : lS D cI cB cM cL ad6 a A h ad ao s χ σ f H locs) (hfit : cells + 8 ≤ room_1.cells ∧ slots + 48 ≤ room_1.slots) (hop : opT Rel (wk 0 0 (nI 1)) χ (fX8_undo  χ) (fX9_undo  σ)) (kk : ∀ (H1 : Heap) (locs1 : List Loc) (ls1 : Array Slot) (χ1 : cSt) (σ1 : zSt) (f1 : Nat → Int64), Rel σ1 χ1 → lv_has ls1 9 [(0, .ref b), (1, .ref (a 0 0)), (2, .ref h), (3, .ref ao), (4, .int (nI (4 * k)))] → lS D cI cB cM cL ad6 a A h ad ao s χ1 σ1 f1 H1 locs1 → W p l e room_1 s m args below meth c H1 locs1 (cells + 8) (slots + 48) Q (F0 m 1391 ls1 [])) : W p l e room_1 s m args below meth c H locs cells slots Q (F0 m 1333 ls []) := by
  obtain ⟨res, b9, σ', e8, e9, hop⟩ := hop
  have hw := lq_hw hop
  refine lv_aload_n S.1 S.2.1 dL_law_1333 rfl (lv_at hl 1 rfl) ?_
  refine lv_aload_n S.1 S.2.1 dL_law_1334 rfl (lv_at hl 3 rfl) ?_
  refine l_cw (rest := []) S F hs hl.1 (metL_undo l hfl D cI cB cM cL ad6 a A ao F.2.2.2.2.2.2.2.1  χ f res e8 hw) (cwL_155 S.2.2.2.2 ⟨Nat.le_of_ble_eq_true rfl, Nat.le_of_ble_eq_true rfl⟩) rfl dL_law_1335 rfl (Nat.le_of_ble_eq_true rfl) hfit (fun H locs r χ1 f1 hO hs => ?_)
  obtain ⟨hr9, hRel, hf0⟩ := lq_sum hO hop
  refine lv_istore (lv' := [(5, .int r), (0, .ref b), (1, .ref (a 0 0)), (2, .ref h), (3, .ref ao), (4, .int (nI (4 * k)))]) S.1 S.2.1 dL_law_1338 hl (by decide) rfl (fun ls hl => ?_)
  refine lv_aload_n S.1 S.2.1 dL_law_1340 rfl (lv_at hl 3 rfl) ?_
  refine l_c9 (rest := []) S F hs hl.1 (metX9_undo l D cI h ad  σ b9 σ' e9) (cwL_158 S.2.2.2.2 ⟨Nat.le_of_ble_eq_true rfl, Nat.le_of_ble_eq_true rfl⟩) rfl dL_law_1341 rfl (Nat.le_of_ble_eq_true rfl) ⟨hfit.1, hfit.2⟩ (fun H locs hs => ?_)
  refine lv_istore (lv' := [(6, .int b9), (5, .int r), (0, .ref b), (1, .ref (a 0 0)), (2, .ref h), (3, .ref ao), (4, .int (nI (4 * k)))]) S.1 S.2.1 dL_law_1344 hl (by decide) rfl (fun ls hl => ?_)
  refine lv_aload_n S.1 S.2.1 dL_law_1346 rfl (lv_at hl 4 rfl) ?_
  refine l_c9 (rest := []) S F hs hl.1 (metX9_thrown l D cI h ad σ' (σ' 7 0) rfl) (cwL_82 S.2.2.2.2 ⟨Nat.le_of_ble_eq_true rfl, Nat.le_of_ble_eq_true rfl⟩) rfl dL_law_1347 rfl (Nat.le_of_ble_eq_true rfl) ⟨hfit.1, hfit.2⟩ (fun H locs hs => ?_)
  refine lv_iload S.1 S.2.1 dL_law_1350 (lv_at hl 1 rfl) ?_
  refine lv_icmp_eq (tgt := 1357) S.1 S.2.1 dL_law_1352 (by decide) (fun _ => ?_) (fun hn => absurd hr9 hn)
  refine lv_iload S.1 S.2.1 dL_law_1357 (lv_at hl 1 rfl) ?_
  refine lv_if_ne (tgt := 1374) S.1 S.2.1 dL_law_1359 (by decide) (fun hz9 => ?_) (fun hz9 => ?_)
  · skip
    refine lv_goto (tgt := 1391) S.1 S.2.1 dL_law_1374 (by decide) ?_
    exact kk H locs ls χ1 σ' f1 hRel (lv_sub hl [2, 3, 4, 5, 6] rfl) hs
  · skip
    refine lv_aload_n S.1 S.2.1 dL_law_1362 rfl (lv_at hl 5 rfl) ?_
    refine lv_iconst (v := nI 0) S.1 S.2.1 dL_law_1363 (by decide) ?_
    refine l_lald S F hs dL_law_1364 ?_
    refine lv_iload S.1 S.2.1 dL_law_1365 (lv_at hl 0 rfl) ?_
    refine lv_i2l S.1 S.2.1 dL_law_1367 rfl ?_
    refine W.lcmp S.1 S.2.1 dL_law_1368 ?_
    rw [hf0 hz9, l_cmp0]
    refine lv_if_eq (tgt := 1374) S.1 S.2.1 dL_law_1369 (by decide) (fun _ => ?_) (fun hn => absurd rfl hn)
    refine lv_goto (tgt := 1391) S.1 S.2.1 dL_law_1374 (by decide) ?_
    exact kk H locs ls χ1 σ' f1 hRel (lv_sub hl [2, 3, 4, 5, 6] rfl) hs
set_option maxHeartbeats 4000000 in
set_option maxRecDepth 100000 in
theorem lop_digest {p : Program} {l : Launch} {e : Env} {s : State} {m : MethodId} {args : Array Value} {below : List Frame} {meth : Method} {c : Code} {H : Heap} {locs : List Loc} {cells slots : Nat} {Q : State → Prop} {ls : Array Slot} {D : va_G} {cI cB cM cL : ClassId} {ad6 : Nat → Nat} {a : Nat → Nat → Nat} {A : Nat → Prop} {h : Nat} {ad : Nat → Nat} {ao : Nat} {cI2 : ClassId} {b L : Nat} {xs : Nat → Int32} {χ : cSt} {σ : zSt} {f : Nat → Int64} {Rel : zSt → cSt → Prop} (hfl : l.stackTraces = false) (S : CallFix p m c code 9 s args WA RL) (F : lFx D cI cB cM cL ad6 a A h ad ao cI2 b L xs s) {k : Nat} (hk : 4 * k + 3 < L) (hL : L ≤ 2048) (hl : lv_has ls 9 [(0, .ref b), (1, .ref (a 0 0)), (2, .ref h), (3, .ref ao), (4, .int (nI (4 * k)))]) (hs : lS D cI cB cM cL ad6 a A h ad ao s χ σ f H locs) (hfit : cells + 8 ≤ room_1.cells ∧ slots + 48 ≤ room_1.slots) (hop : opV Rel χ (fX8_digest χ) (fX9_digest σ)) (kk : ∀ (H1 : Heap) (locs1 : List Loc) (ls1 : Array Slot) (χ1 : cSt) (σ1 : zSt) (f1 : Nat → Int64), Rel σ1 χ1 → lv_has ls1 9 [(0, .ref b), (1, .ref (a 0 0)), (2, .ref h), (3, .ref ao), (4, .int (nI (4 * k)))] → lS D cI cB cM cL ad6 a A h ad ao s χ1 σ1 f1 H1 locs1 → W p l e room_1 s m args below meth c H1 locs1 (cells + 8) (slots + 48) Q (F0 m 1391 ls1 [])) : W p l e room_1 s m args below meth c H locs cells slots Q (F0 m 1377 ls []) := by
  obtain ⟨b9, σ', e8, e9, hop⟩ := hop
  refine lv_aload_n S.1 S.2.1 dL_law_1377 rfl (lv_at hl 1 rfl) ?_
  refine l_c8l (rest := []) S F hs hl.1 (metX8_digest l D cI cB cM ad6 a A  χ b9  e8) (cwL_159 S.2.2.2.2 ⟨Nat.le_of_ble_eq_true rfl, Nat.le_of_ble_eq_true rfl⟩) rfl dL_law_1378 rfl (Nat.le_of_ble_eq_true rfl) ⟨by omega, by omega⟩ (fun H locs hs => ?_)
  refine lv_aload_n S.1 S.2.1 dL_law_1381 rfl (lv_at hl 2 rfl) ?_
  refine l_c9l (rest := [.long b9]) S F hs hl.1 (metX9_digest l D cI h ad  σ b9 σ' e9) (cwL_163 S.2.2.2.2 ⟨Nat.le_of_ble_eq_true rfl, Nat.le_of_ble_eq_true rfl⟩) rfl dL_law_1382 rfl (Nat.le_of_ble_eq_true rfl) ⟨by omega, by omega⟩ (fun H locs hs => ?_)
  refine W.lcmp S.1 S.2.1 dL_law_1385 ?_
  rw [l_cmp0]
  refine lv_if_eq (tgt := 1391) S.1 S.2.1 dL_law_1386 (by decide) (fun _ => ?_) (fun hn => absurd rfl hn)
  exact W.widen (by omega) (by omega) (kk H locs ls χ σ' f hop (lv_sub hl [0, 1, 2, 3, 4] rfl) hs)
set_option maxHeartbeats 4000000 in
set_option maxRecDepth 100000 in
theorem lop_hitRate {p : Program} {l : Launch} {e : Env} {s : State} {m : MethodId} {args : Array Value} {below : List Frame} {meth : Method} {c : Code} {H : Heap} {locs : List Loc} {cells slots : Nat} {Q : State → Prop} {ls : Array Slot} {D : va_G} {cI cB cM cL : ClassId} {ad6 : Nat → Nat} {a : Nat → Nat → Nat} {A : Nat → Prop} {h : Nat} {ad : Nat → Nat} {ao : Nat} {cI2 : ClassId} {b L : Nat} {xs : Nat → Int32} {χ : cSt} {σ : zSt} {f : Nat → Int64} {d0 : Drawn} {Rel : zSt → cSt → Prop} (hd0 : s.drawn.sameBut d0 lw_cs) (S0 : CallFix p m c code 9 s args WA RL) (F0' : lFx D cI cB cM cL ad6 a A h ad ao cI2 b L xs s) {k : Nat} (hl : lv_has ls 9 [(0, .ref b), (1, .ref (a 0 0)), (2, .ref h), (3, .ref ao), (4, .int (nI (4 * k)))]) (hs : lS D cI cB cM cL ad6 a A h ad ao (s.setDrawn d0) χ σ f H locs) (hfit : cells + 8 ≤ room_1.cells ∧ slots + 48 ≤ room_1.slots) (h6 : σ 0 6 = χ 0 23 0) (h7 : σ 0 7 = χ 0 24 0) (hRel : Rel (z_up σ 7 (fun _ => nI 0)) χ)
    (kk : ∀ (d1 : Drawn), s.drawn.sameBut d1 lw_cs → ∀ (H1 : Heap) (locs1 : List Loc) (ls1 : Array Slot) (χ1 : cSt) (σ1 : zSt) (f1 : Nat → Int64), Rel σ1 χ1 → lv_has ls1 9 [(0, .ref b), (1, .ref (a 0 0)), (2, .ref h), (3, .ref ao), (4, .int (nI (4 * k)))] → lS D cI cB cM cL ad6 a A h ad ao (s.setDrawn d1) χ1 σ1 f1 H1 locs1 → W p l e room_1 (s.setDrawn d1) m args below meth c H1 locs1 (cells + 8) (slots + 48) Q (F0 m 1391 ls1 [])) : W p l e room_1 (s.setDrawn d0) m args below meth c H locs cells slots Q (F0 m 1210 ls []) := by
  have F := F0'.drawn d0
  have S := S_drawn S0 d0
  have hU := l_F F hs
  have hrec := l_rec F hs
  obtain ⟨hK, hF, hY, hX, hA, hMA, hao, hAo, hMn, hMo, hmd, -⟩ := F
  obtain ⟨G, hP, hD, hPm, hS⟩ := hs
  refine lv_aload_n S.1 S.2.1 dL_law_1210 rfl (lv_at hl 1 rfl) ?_
  refine va_calldD hd0 (va_runV_D (As := []) (rest := []) S (metX8_hitRate l D cI cB cM ad6 a A χ) (cwL_139 S.2.2.2.2 ⟨Nat.le_of_ble_eq_true rfl, Nat.le_of_ble_eq_true rfl⟩) ⟨qPc_blind _ _ _ _ _ _ _ _ _, hrec, fun U hH hW => ⟨rfl, ⟨G, by rw [hH]; exact (lw_P.mp hP).1, hD, (va_K.moved hW.alike hK).sub [0, 1, 2] rfl⟩, (hU U hH hW).1⟩⟩ rfl rfl hl.1 rfl (lv_room (Nat.le_of_ble_eq_true rfl)) dL_law_1211 ⟨by omega, by omega⟩) hS (fun q _ h => hA q h) (fun q h => hA q h) (fun p8 u t H1 locs1 ht hvm hp8 hB hz1 hk1 hS d1 hd1 => ?_)
  obtain ⟨G1, hP1, hD1, -⟩ := hB
  rw [ht] at hP1
  have hPw : va_P D vwCl (wL cI cB cM cL ad6 a G1 ao χ f) H1 := lw_P.mpr ⟨hP1, l_out (lw_P.mp hP).2 hk1 hAo⟩
  have hPm1 := l_keepM hPm hk1 hMn
  have S := S_drawn S0 d1
  refine lv_dstore (lv' := [(5, .double p8), (0, .ref b), (1, .ref (a 0 0)), (2, .ref h), (3, .ref ao), (4, .int (nI (4 * k)))]) S.1 S.2.1 dL_law_1214 hl (by decide) rfl (fun ls hl => ?_)
  refine lv_aload_n S.1 S.2.1 dL_law_1216 rfl (lv_at hl 3 rfl) ?_
  refine va_calldD hd1 (va_runV_D (As := []) (rest := []) S (metX9_hitRate l D cI h ad σ) (cwL_143 S.2.2.2.2 ⟨Nat.le_of_ble_eq_true rfl, Nat.le_of_ble_eq_true rfl⟩) ⟨mPc_blind _ _ _ _ _ _, va_recv hK hPm1 (ci := 8) (q0 := 0) rfl rfl, fun U hH hW => ⟨rfl, by rw [hH]; exact hPm1, (va_K.moved hW.alike hK).sub [0] rfl, mD_of hmd⟩⟩ rfl rfl hl.1 rfl (lv_room (Nat.le_of_ble_eq_true rfl)) dL_law_1217 ⟨by omega, by omega⟩) hS (fun q _ h => hMA q h) (fun q h => hMA q h) (fun q9 u t H2 locs2 ht hvm hq9 hB hz2 hk2 hS d2 hd2 => ?_)
  obtain ⟨hP2, -, -⟩ := hB
  rw [ht] at hP2
  rw [h6, h7] at hq9
  have hs2 : lS D cI cB cM cL ad6 a A h ad ao (s.setDrawn d2) χ (z_up σ 7 (fun _ => nI 0)) f H2 locs2 := ⟨G1, l_keepL hPw hD1 hk2 (fun q hq hm => hMn q hm hq) hMo, hD1, hP2, hS⟩
  have S := S_drawn S0 d2
  refine lv_dstore (lv' := [(7, .double q9), (5, .double p8), (0, .ref b), (1, .ref (a 0 0)), (2, .ref h), (3, .ref ao), (4, .int (nI (4 * k)))]) S.1 S.2.1 dL_law_1220 hl (by decide) rfl (fun ls hl => ?_)
  refine lv_dload S.1 S.2.1 dL_law_1222 (lv_at hl 1 rfl) ?_
  refine lv_dload S.1 S.2.1 dL_law_1224 (lv_at hl 0 rfl) ?_
  refine lv_dcmp S.1 S.2.1 dL_law_1226 ?_
  have K : W p l e room_1 (s.setDrawn d2) m args below meth c H2 locs2 cells slots Q (F0 m 1248 ls []) := by
    refine lv_goto (tgt := 1391) S.1 S.2.1 dL_law_1248 (by decide) ?_
    exact W.widen (by omega) (by omega) (kk d2 hd2 H2 locs2 ls χ _ f hRel (lv_sub hl [2, 3, 4, 5, 6] rfl) hs2)
  refine lv_if_eq (tgt := 1248) S.1 S.2.1 dL_law_1227 (by decide) (fun _ => K) (fun hn => ?_)
  rcases lq_hr hp8 hq9 with h0 | ⟨h1, h2⟩
  · exact absurd h0 hn
  · refine lv_dload S.1 S.2.1 dL_law_1230 (lv_at hl 1 rfl) ?_
    refine lv_dload S.1 S.2.1 dL_law_1232 (lv_at hl 1 rfl) ?_
    refine lv_dcmp S.1 S.2.1 dL_law_1234 ?_
    refine lv_if_eq (tgt := 1246) S.1 S.2.1 dL_law_1235 (by decide) (fun h0 => absurd h0 h1) (fun _ => ?_)
    refine lv_dload S.1 S.2.1 dL_law_1238 (lv_at hl 0 rfl) ?_
    refine lv_dload S.1 S.2.1 dL_law_1240 (lv_at hl 0 rfl) ?_
    refine lv_dcmp S.1 S.2.1 dL_law_1242 ?_
    exact lv_if_ne (tgt := 1248) S.1 S.2.1 dL_law_1243 (by decide) (fun _ => K) (fun h0 => absurd h0 h2)
