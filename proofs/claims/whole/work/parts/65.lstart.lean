/-! the law's loop and its start, for any relation of the two states that the calls keep (by wip/tools/lstart.py) -/
def lo_begin (Rel : zSt → cSt → Prop) : Prop := ∀ (σ : zSt) (χ : cSt), Rel σ χ → ∀ a0 a1 a2 : Int32, opT Rel (wk 0 (nI 1) 0) χ (fX8_begin a0 a1 a2 χ) (fX9_begin a0 a1 a2 σ)
def lo_read (Rel : zSt → cSt → Prop) : Prop := ∀ (σ : zSt) (χ : cSt), Rel σ χ → ∀ a0 a1 : Int32, opT Rel (wk (nI 1) 0 (nI 2)) χ (fX8_read a0 a1 χ) (fX9_read a0 a1 σ)
def lo_write (Rel : zSt → cSt → Prop) : Prop := ∀ (σ : zSt) (χ : cSt), Rel σ χ → ∀ a0 a1 a2 : Int32, opT Rel (wk (nI 1) (nI 2) (nI 3)) χ (fX8_write a0 a1 a2 χ) (fX9_write a0 a1 a2 σ)
def lo_takeBack (Rel : zSt → cSt → Prop) : Prop := ∀ (σ : zSt) (χ : cSt), Rel σ χ → ∀ a0 : Int32, opT Rel (wk (nI 1) 0 (nI 2)) χ (fX8_takeBack a0 χ) (fX9_takeBack a0 σ)
def lo_pass (Rel : zSt → cSt → Prop) : Prop := ∀ (σ : zSt) (χ : cSt), Rel σ χ → ∀ a0 : Int32, opT Rel (wk 0 (nI 1) (nI 2)) χ (fX8_pass a0 χ) (fX9_pass a0 σ)
def lo_drop (Rel : zSt → cSt → Prop) : Prop := ∀ (σ : zSt) (χ : cSt), Rel σ χ → ∀ a0 a1 : Int32, opT Rel (wk (nI 1) 0 (nI 2)) χ (fX8_drop a0 a1 χ) (fX9_drop a0 a1 σ)
def lo_tear (Rel : zSt → cSt → Prop) : Prop := ∀ (σ : zSt) (χ : cSt), Rel σ χ → ∀ a0 : Int32, opT Rel (wk (nI 1) 0 (nI 2)) χ (fX8_tear a0 χ) (fX9_tear a0 σ)
def lo_copy (Rel : zSt → cSt → Prop) : Prop := ∀ (σ : zSt) (χ : cSt), Rel σ χ → ∀ a0 a1 a2 : Int32, opT Rel (wk (nI 1) (nI 2) 0) χ (fX8_copy a0 a1 a2 χ) (fX9_copy a0 a1 a2 σ)
def lo_line (Rel : zSt → cSt → Prop) : Prop := ∀ (σ : zSt) (χ : cSt), Rel σ χ → ∀ a0 a1 : Int32, opT Rel (wk (nI 1) (nI 2) 0) χ (fX8_line a0 a1 χ) (fX9_line a0 a1 σ)
def lo_pending (Rel : zSt → cSt → Prop) : Prop := ∀ (σ : zSt) (χ : cSt), Rel σ χ → ∀ a0 a1 : Int32, opT Rel (wk (nI 1) (nI 2) 0) χ (fX8_pending a0 a1 χ) (fX9_pending a0 a1 σ)
def lo_entry (Rel : zSt → cSt → Prop) : Prop := ∀ (σ : zSt) (χ : cSt), Rel σ χ → ∀ a0 a1 : Int32, opT Rel (wk (nI 1) (nI 2) 0) χ (fX8_entry a0 a1 χ) (fX9_entry a0 a1 σ)
def lo_value (Rel : zSt → cSt → Prop) : Prop := ∀ (σ : zSt) (χ : cSt), Rel σ χ → ∀ a0 : Int32, opT Rel (wk 0 (nI 1) 0) χ (fX8_value a0 χ) (fX9_value a0 σ)
def lo_cost (Rel : zSt → cSt → Prop) : Prop := ∀ (σ : zSt) (χ : cSt), Rel σ χ → ∀ a0 a1 a2 : Int32, opT Rel (wk (nI 1) 0 0) χ (fX8_cost a0 a1 (lz a2) χ) (fX9_cost a0 a1 (lz a2) σ)
def lo_nextTorn (Rel : zSt → cSt → Prop) : Prop := ∀ (σ : zSt) (χ : cSt), Rel σ χ → opV Rel χ (fX8_nextTorn χ) (fX9_nextTorn σ)
def lo_nextDropped (Rel : zSt → cSt → Prop) : Prop := ∀ (σ : zSt) (χ : cSt), Rel σ χ → ∀ a0 : Int32, opT Rel (wk (nI 1) 0 0) χ (fX8_nextDropped a0 χ) (fX9_nextDropped a0 σ)
def lo_ticksToServe (Rel : zSt → cSt → Prop) : Prop := ∀ (σ : zSt) (χ : cSt), Rel σ χ → opP Rel (fX8_ticksToServe χ) (fX9_ticksToServe σ)
def lo_cheapest (Rel : zSt → cSt → Prop) : Prop := ∀ (σ : zSt) (χ : cSt), Rel σ χ → ∀ a0 a1 : Int32, opT Rel (wk (nI 1) 0 0) χ (fX8_cheapest a0 (lz a1) χ) (fX9_cheapest a0 (lz a1) σ)
def lo_hitRate (Rel : zSt → cSt → Prop) : Prop := ∀ (σ : zSt) (χ : cSt), Rel σ χ → σ 0 6 = χ 0 23 0 ∧ σ 0 7 = χ 0 24 0 ∧ Rel (z_up σ 7 (fun _ => nI 0)) χ
def lo_append (Rel : zSt → cSt → Prop) : Prop := ∀ (σ : zSt) (χ : cSt), Rel σ χ → ∀ a0 : Int32, opT Rel (wk 0 (nI 1) (nI 2)) χ (fX8_append a0 χ) (fX9_append a0 σ)
def lo_clearText (Rel : zSt → cSt → Prop) : Prop := ∀ (σ : zSt) (χ : cSt), Rel σ χ → opP Rel (fX8_clearText χ) (fX9_clearText σ)
def lo_carryOut (Rel : zSt → cSt → Prop) : Prop := ∀ (σ : zSt) (χ : cSt), Rel σ χ → opP Rel (fX8_carryOut χ) (fX9_carryOut σ)
def lo_undo (Rel : zSt → cSt → Prop) : Prop := ∀ (σ : zSt) (χ : cSt), Rel σ χ → opT Rel (wk 0 0 (nI 1)) χ (fX8_undo  χ) (fX9_undo  σ)
def lo_digest (Rel : zSt → cSt → Prop) : Prop := ∀ (σ : zSt) (χ : cSt), Rel σ χ → opV Rel χ (fX8_digest χ) (fX9_digest σ)
def lOps (Rel : zSt → cSt → Prop) : Prop := lo_begin Rel ∧ lo_read Rel ∧ lo_write Rel ∧ lo_takeBack Rel ∧ lo_pass Rel ∧ lo_drop Rel ∧ lo_tear Rel ∧ lo_copy Rel ∧ lo_line Rel ∧ lo_pending Rel ∧ lo_entry Rel ∧ lo_value Rel ∧ lo_cost Rel ∧ lo_nextTorn Rel ∧ lo_nextDropped Rel ∧ lo_ticksToServe Rel ∧ lo_cheapest Rel ∧ lo_hitRate Rel ∧ lo_append Rel ∧ lo_clearText Rel ∧ lo_carryOut Rel ∧ lo_undo Rel ∧ lo_digest Rel
theorem l_gt {L k : Nat} (hL : L ≤ 2048) (hk : 4 * k ≤ 2052) : (Int32.ofNat L - nI 4 < nI (4 * k)) ↔ L < 4 * k + 4 := by
  have e1 : (Int32.ofNat L - nI 4).toInt = (L : Int) - 4 := by
    rw [Int32.toInt_sub, show (Int32.ofNat L).toInt = (L : Int) from nI_toInt (n := L) (by omega), nI_toInt (by omega)]
    show Int.bmod ((L : Int) - 4) (2 ^ 32) = _
    rw [Int.bmod_eq_of_le (by omega) (by omega)]
  rw [Int32.lt_iff_toInt_lt, e1, nI_toInt (by omega)]
  omega
theorem l_and (x : Int32) : ∃ j, j < 32 ∧ x &&& nI 31 = nI j := by
  refine ⟨(x &&& nI 31).toBitVec.toNat, ?_, ?_⟩
  · rw [Int32.toBitVec_and, BitVec.toNat_and]
    exact Nat.lt_of_le_of_lt Nat.and_le_right (by decide)
  · apply Int32.toBitVec_inj.mp
    show _ = BitVec.ofNat 32 _
    simp
theorem l_arr {args : Array Value} {s : State} {ty : FieldType} (hp : ty = .int ∨ ty = .byte ∨ ty = .long) (h : (Cond.arrayClass ty).before args s = true) : ∃ cA, ArrOfT s cA ty ∧ va_RA s cA ty := by
  obtain ⟨c, k, comp, h1, h2, h3⟩ := Cond.arrayClass_spec h
  refine ⟨c, fun n z => ⟨(fun k h => by cases h), k, h2, comp, h3⟩, ?_⟩
  rcases hp with rfl | rfl | rfl <;> exact h1
theorem l_arrq {s : State} {C : String} (h : va_AO C s) : ∃ cA, ArrOfT s cA (.object C) ∧ va_RA s cA (.object C) := by
  obtain ⟨comp, c, k, h1, h2, h3, h4, h5⟩ := Cond.arrayOver_spec h
  exact ⟨c, fun n z => ⟨(fun k h => by cases h), k, h3, comp, h4⟩, k, comp, h3, h4, h1, h5⟩
theorem l_str {args : Array Value} {s : State} {own tx : String} {k : Nat} (h : (Cond.stringRef own k tx).before args s = true) : ∃ sa, vk_R own k tx sa s := by
  have hcur : ∃ cur, s.vm.findClass own = some cur := by
    have h1 := h
    simp only [Cond.before, Cond.holds, Cond.value] at h1
    cases hc : s.vm.findClass own with
    | none => simp [hc] at h1
    | some cur => exact ⟨cur, rfl⟩
  obtain ⟨cur, hcur⟩ := hcur
  obtain ⟨k, cf, i, a, hk, hcf, hcp, -, hr, hev⟩ := Cond.stringRef_spec hcur h
  exact ⟨a, vk_R.of h hev⟩
theorem us_36 : Cond.instantiable RX0 5 ∈ WA := z_in0 _ (List.mem_of_getElem? (i := 36) (by decide +kernel))
theorem us_40 : Cond.instantiable RX1 7 ∈ WA := z_in0 _ (List.mem_of_getElem? (i := 40) (by decide +kernel))
theorem us_19 : Cond.instantiable RX2 2 ∈ WA := z_in0 _ (List.mem_of_getElem? (i := 19) (by decide +kernel))
theorem us_48 : Cond.instantiable RX3 2 ∈ WA := z_in0 _ (List.mem_of_getElem? (i := 48) (by decide +kernel))
theorem us_14 : Cond.instantiable RX4 14 ∈ WA := z_in0 _ (List.mem_of_getElem? (i := 14) (by decide +kernel))
theorem us_26 : Cond.instantiable RX5 11 ∈ WA := z_in0 _ (List.mem_of_getElem? (i := 26) (by decide +kernel))
theorem us_44 : Cond.instantiable RX7 3 ∈ WA := z_in0 _ (List.mem_of_getElem? (i := 44) (by decide +kernel))
theorem us_1 : Cond.instantiable RX8 6 ∈ WA := z_in0 _ (List.mem_of_getElem? (i := 1) (by decide +kernel))
theorem us_4 : Cond.instantiable RX9 9 ∈ WA := z_in0 _ (List.mem_of_getElem? (i := 4) (by decide +kernel))
theorem us_32 : Cond.arrayClass .int ∈ WA := z_in0 _ (List.mem_of_getElem? (i := 32) (by decide +kernel))
theorem us_22 : Cond.arrayClass .byte ∈ WA := z_in0 _ (List.mem_of_getElem? (i := 22) (by decide +kernel))
theorem us_0 : Cond.classLink RL 8 RX8 ∈ WA := z_in0 _ (List.mem_of_getElem? (i := 0) (by decide +kernel))
theorem us_2 : Cond.initialized RX8 ∈ WA := z_in0 _ (List.mem_of_getElem? (i := 2) (by decide +kernel))
theorem us_3 : Cond.classLink RL 73 RX9 ∈ WA := z_in0 _ (List.mem_of_getElem? (i := 3) (by decide +kernel))
theorem us_5 : Cond.initialized RX9 ∈ WA := z_in0 _ (List.mem_of_getElem? (i := 5) (by decide +kernel))
theorem us_9 : Cond.code yX8_init cX8_init 1 none ∈ WA := z_in0 _ (List.mem_of_getElem? (i := 9) (by decide +kernel))
theorem us_7 : Cond.methodLink RL 72 yX8_init ∈ WA := z_in0 _ (List.mem_of_getElem? (i := 7) (by decide +kernel))
theorem us_8 : Cond.instanceMethod yX8_init ∈ WA := z_in0 _ (List.mem_of_getElem? (i := 8) (by decide +kernel))
theorem us_127 : Cond.code yX9_init cX9_init 1 none ∈ WA := z_in0 _ (List.mem_of_getElem? (i := 127) (by decide +kernel))
theorem us_125 : Cond.methodLink RL 75 yX9_init ∈ WA := z_in0 _ (List.mem_of_getElem? (i := 125) (by decide +kernel))
theorem us_126 : Cond.instanceMethod yX9_init ∈ WA := z_in0 _ (List.mem_of_getElem? (i := 126) (by decide +kernel))
theorem us_6 : Cond.arrayClass .long ∈ WA := z_in0 _ (List.mem_of_getElem? (i := 6) (by decide +kernel))
theorem qFw_in : ∀ w ∈ qFw, w ∈ lw_tbl := by decide +kernel
/-! THE CLAIM OUT OF ONE WALK OF THE LAW'S BODY. Your part is whole_start (and what it stands on); all else here is the same for every law, but numbers. -/
def R_law : String := "CacheDiaryLaw"
def lw_Pr (b : Addr) (xs : List Int32) (args : Array Value) (s : State) : Prop := args = #[.ref b] ∧ s.IntsAt b xs ∧ xs.length ≤ 2048 ∧ (Jvm.Cond.and given_1 narrow_1).before args s = true
/-- what a walk over the start with the record d0 says of its end, said of the start itself -/
theorem lw_closed {s t : State} {o : Outcome} {d0 : Drawn} {L : List Loc} {k n : Nat} (hd0 : s.drawn.sameBut d0 lw_cs) (hv : ∃ v, o = .returned v) (hW : (s.setDrawn d0).WarmedH t.vm) (hs : (s.setDrawn d0).sameButNew ({ t with vm := s.vm } : State) L k n) : State.butDraws s t lw_cs (fun t1 => Framed s o t1 L k n) := by
  have h2 : t.drawn = d0 := congrArg State.drawn hs.1
  refine ⟨⟨hv, hW, State.sameButNew.setDrawn hs s.drawn⟩, ?_, by decide⟩
  rw [h2]
  exact hd0
def lw_Q (_ : Array Value) (s : State) (o : Outcome) (t : State) : Prop := o = .returned (some (.int 1)) ∧ State.butDraws s t lw_cs (fun t1 => Framed s o t1 [] 601024 7293034)
def lw_Z (below : List Frame) (a : Array Value) (s : State) : State → Prop := fun t => ∃ o, t.status = .running ∧ Ended t below o ∧ lw_Q a s o t
/-- the law's own end, with 1 on the stack, nothing written that was there before, its room as the claim has it; d0: the record of draws at this point (at the entry s.drawn: begin with 'refine W.base ?_' and 'have hd0 := Drawn.sameBut.refl s.drawn lw_cs') -/
theorem lw_ret {p : Program} {l : Launch} {e : Env} {s : State} {m : MethodId} {below : List Frame} {meth : Method} {c : Code} {b : Nat} {d0 : Drawn} (hd0 : s.drawn.sameBut d0 lw_cs) (hx : p.tables.exec = Jvm.exec) (hb : c.code = code) (hr : meth.sig.returnType = ret) (hlocks : meth.locks = false) {pc : Nat} {H : Heap} {ls : Array Slot} (hdg : decode code pc = .ok (.ireturn, 1)) : W p l e room_1 (s.setDrawn d0) m #[Value.ref b] below meth c H [] 601024 7293034 (lw_Z below #[Value.ref b] s) (F0 m pc ls [.int 1]) := by
  intro T hT X
  obtain ⟨fs, hret, hrun, hended, hW, hframe⟩ := X.leave (v := some (.int 1)) (hlocks := hlocks) (fun h => by rw [hr] at h; cases h)
  have hmeth' : T.vm.method? m = some meth := X.method'
  refine ⟨T.setFrames fs, ?_, .returned (some (.int 1)), hrun, hended, rfl, lw_closed hd0 ⟨_, rfl⟩ hW hframe⟩
  jvm_step X.here [X.here.top, hx, hb, hdg, hmeth', hr, ret, narrow_b1]
  (try refine ⟨rfl, ?_⟩); (try refine ⟨rfl, ?_⟩)
  first | (intro acts; rw [hret _ acts rfl rfl rfl]) | rw [hret _ _ rfl rfl rfl]
  exact Steps.refl _
/-- what holds at the law's entry: the machine, the code, the tables' words (any of lw_tbl by 'hts w (by decide +kernel)'), the script of L ints xs at the cell b, what the Statement gives of the start (any of its parts by flat_of_before) -/
def lw_At (p : Program) (s : State) (m : MethodId) (meth : Method) (c : Code) (b L : Nat) (xs : Nat → Int32) : Prop :=
  p.tables.exec = Jvm.exec ∧ c.code = code ∧ meth.sig.returnType = ret ∧ c.maxLocals = 9 ∧ s.vm.findClass R_law = some m.cls ∧ (∀ w ∈ lw_tbl, w.before #[Value.ref b] s = true) ∧ va_X b L xs s s.heap ∧ b < s.heap.size ∧ meth.locks = false ∧ (Jvm.Cond.and given_1 narrow_1).before #[Value.ref b] s = true
set_option maxHeartbeats 4000000 in
set_option maxRecDepth 100000 in
theorem law_loop {p : Program} {l : Launch} {e : Env} {s : State} {m : MethodId} {below : List Frame} {meth : Method} {c : Code} {D : va_G} {cI cB cM cL : ClassId} {ad6 : Nat → Nat} {a : Nat → Nat → Nat} {A : Nat → Prop} {h : Nat} {ad : Nat → Nat} {ao : Nat} {b L : Nat} {xs : Nat → Int32} {Rel : zSt → cSt → Prop} (hops : lOps Rel) (hfl : l.stackTraces = false) (S0 : CallFix p m c code 9 s #[Value.ref b] WA RL) (F0' : lFx D cI cB cM cL ad6 a A h ad ao cI b L xs s) (hL : L ≤ 2048) (hr : meth.sig.returnType = ret) (hk9 : meth.locks = false) : ∀ (n k : Nat), L < 4 * (k + n) → 4 * k ≤ 2052 → ∀ (d0 : Drawn), s.drawn.sameBut d0 lw_cs → ∀ (χ : cSt) (σ : zSt) (f : Nat → Int64) (H : Heap) (locs : List Loc) (ls : Array Slot), Rel σ χ → lv_has ls 9 [(0, .ref b), (1, .ref (a 0 0)), (2, .ref h), (3, .ref ao), (4, .int (nI (4 * k)))] → lS D cI cB cM cL ad6 a A h ad ao (s.setDrawn d0) χ σ f H locs → W p l e room_1 (s.setDrawn d0) m #[Value.ref b] below meth c H locs (111 + 8 * k) (8985 + 48 * k) (lw_Z below #[Value.ref b] s) (F0 m 23 ls []) := by
  intro n
  induction n with
  | zero =>
    intro k h1 h2 d0 hd0 χ σ f H locs ls hR hl hs
    have S := S_drawn S0 d0
    refine lv_iload S.1 S.2.1 dL_law_23 (lv_at hl 4 rfl) ?_
    refine lv_aload_n S.1 S.2.1 dL_law_25 rfl (lv_at hl 0 rfl) ?_
    have F := F0'.drawn d0
    have hS := hs.choose_spec.2.2.2
    refine va_slen S.1 S.2.1 F.2.2.2.1.1 F.2.2.2.1.2 (Nat.not_le.mpr F.2.2.2.1.2) hS dL_law_26 ?_
    refine lv_iconst (v := nI 4) S.1 S.2.1 dL_law_27 (by decide) ?_
    refine lv_isub S.1 S.2.1 dL_law_28 ?_
    refine lv_icmp_gt (tgt := 1397) S.1 S.2.1 dL_law_29 (by decide) (fun _ => ?_) (fun hn => absurd ((l_gt hL h2).mpr (by omega)) hn)
    refine lv_iconst (v := 1) S.1 S.2.1 dL_law_1397 (by decide) ?_
    refine va_forget (fun q hq => hS.2.2 q hq) ?_
    refine W.widen (k := 601024) (n := 7293034) (by omega) (by omega) ?_
    exact lw_ret hd0 S.1 S.2.1 hr hk9 dL_law_1398
  | succ n ih =>
    intro k h1 h2 d0 hd0 χ σ f H locs ls hR hl hs
    have S := S_drawn S0 d0
    have F := F0'.drawn d0
    refine lv_iload S.1 S.2.1 dL_law_23 (lv_at hl 4 rfl) ?_
    refine lv_aload_n S.1 S.2.1 dL_law_25 rfl (lv_at hl 0 rfl) ?_
    have hS := hs.choose_spec.2.2.2
    refine va_slen S.1 S.2.1 F.2.2.2.1.1 F.2.2.2.1.2 (Nat.not_le.mpr F.2.2.2.1.2) hS dL_law_26 ?_
    refine lv_iconst (v := nI 4) S.1 S.2.1 dL_law_27 (by decide) ?_
    refine lv_isub S.1 S.2.1 dL_law_28 ?_
    refine lv_icmp_gt (tgt := 1397) S.1 S.2.1 dL_law_29 (by decide) (fun _ => ?_) (fun hn => ?_)
    · refine lv_iconst (v := 1) S.1 S.2.1 dL_law_1397 (by decide) ?_
      refine va_forget (fun q hq => hS.2.2 q hq) ?_
      refine W.widen (k := 601024) (n := 7293034) (by omega) (by omega) ?_
      exact lw_ret hd0 S.1 S.2.1 hr hk9 dL_law_1398
    have h3 : 4 * k + 3 < L := by
      have := mt (l_gt hL h2).mpr hn
      omega
    refine lv_aload_n S.1 S.2.1 dL_law_32 rfl (lv_at hl 0 rfl) ?_
    refine lv_iload S.1 S.2.1 dL_law_33 (lv_at hl 4 rfl) ?_
    refine l_ld0 S F hs (k := k) (by omega) hL dL_law_35 ?_
    refine lv_bipush (v := nI 31) S.1 S.2.1 dL_law_36 (by decide) ?_
    refine lv_iand S.1 S.2.1 dL_law_38 ?_
    obtain ⟨j, hj, ej⟩ := l_and (xs (4 * k))
    rw [ej]
    have hfit : 111 + 8 * k + 8 ≤ room_1.cells ∧ 8985 + 48 * k + 48 ≤ room_1.slots := ⟨by show _ ≤ 601024; omega, by show _ ≤ 7293034; omega⟩
    have G : ∀ (d1 : Drawn), s.drawn.sameBut d1 lw_cs → ∀ (H1 : Heap) (locs1 : List Loc) (ls1 : Array Slot) (χ1 : cSt) (σ1 : zSt) (f1 : Nat → Int64), Rel σ1 χ1 → lv_has ls1 9 [(0, .ref b), (1, .ref (a 0 0)), (2, .ref h), (3, .ref ao), (4, .int (nI (4 * k)))] → lS D cI cB cM cL ad6 a A h ad ao (s.setDrawn d1) χ1 σ1 f1 H1 locs1 → W p l e room_1 (s.setDrawn d1) m #[Value.ref b] below meth c H1 locs1 (111 + 8 * k + 8) (8985 + 48 * k + 48) (lw_Z below #[Value.ref b] s) (F0 m 1391 ls1 []) := by
      intro d1 hd1 H1 locs1 ls1 χ1 σ1 f1 hR1 hl1 hs1
      have S1 := S_drawn S0 d1
      refine lv_iinc (v := nI (4 * (k + 1))) (lv' := [(4, .int (nI (4 * (k + 1)))), (0, .ref b), (1, .ref (a 0 0)), (2, .ref h), (3, .ref ao)]) S1.1 S1.2.1 dL_law_1391 hl1 (k := 4) rfl (by rw [show Int32.ofInt 4 = nI 4 by decide, nI_add]; rfl) (by decide) rfl (fun ls hl => ?_)
      refine lv_goto (tgt := 23) S1.1 S1.2.1 dL_law_1394 (by decide) ?_
      have e1 : 111 + 8 * k + 8 = 111 + 8 * (k + 1) := by omega
      have e2 : 8985 + 48 * k + 48 = 8985 + 48 * (k + 1) := by omega
      rw [e1, e2]
      exact ih (k + 1) (by omega) (by omega) d1 hd1 χ1 σ1 f1 H1 locs1 ls hR1 (lv_sub hl [1, 2, 3, 4, 0] rfl) hs1
    by_cases hj2 : j < 23
    · rcases (show j = 0 ∨ j = 1 ∨ j = 2 ∨ j = 3 ∨ j = 4 ∨ j = 5 ∨ j = 6 ∨ j = 7 ∨ j = 8 ∨ j = 9 ∨ j = 10 ∨ j = 11 ∨ j = 12 ∨ j = 13 ∨ j = 14 ∨ j = 15 ∨ j = 16 ∨ j = 17 ∨ j = 18 ∨ j = 19 ∨ j = 20 ∨ j = 21 ∨ j = 22 by omega) with rfl | rfl | rfl | rfl | rfl | rfl | rfl | rfl | rfl | rfl | rfl | rfl | rfl | rfl | rfl | rfl | rfl | rfl | rfl | rfl | rfl | rfl | rfl
      · refine lv_tableIn (off := 105) (tgt := 144) S.1 S.2.1 dL_law_39 (by decide) (by decide) (by decide) (by decide) ?_
        exact lop_begin hfl S F h3 hL hl hs hfit (hops.1 σ χ hR (xs (4 * k + 1)) (xs (4 * k + 2)) (xs (4 * k + 3))) (G d0 hd0)
      · refine lv_tableIn (off := 185) (tgt := 224) S.1 S.2.1 dL_law_39 (by decide) (by decide) (by decide) (by decide) ?_
        exact lop_read hfl S F h3 hL hl hs hfit (hops.2.1 σ χ hR (xs (4 * k + 1)) (xs (4 * k + 2))) (G d0 hd0)
      · refine lv_tableIn (off := 253) (tgt := 292) S.1 S.2.1 dL_law_39 (by decide) (by decide) (by decide) (by decide) ?_
        exact lop_write hfl S F h3 hL hl hs hfit (hops.2.2.1 σ χ hR (xs (4 * k + 1)) (xs (4 * k + 2)) (xs (4 * k + 3))) (G d0 hd0)
      · refine lv_tableIn (off := 333) (tgt := 372) S.1 S.2.1 dL_law_39 (by decide) (by decide) (by decide) (by decide) ?_
        exact lop_takeBack hfl S F h3 hL hl hs hfit (hops.2.2.2.1 σ χ hR (xs (4 * k + 1))) (G d0 hd0)
      · refine lv_tableIn (off := 389) (tgt := 428) S.1 S.2.1 dL_law_39 (by decide) (by decide) (by decide) (by decide) ?_
        exact lop_pass hfl S F h3 hL hl hs hfit (hops.2.2.2.2.1 σ χ hR (xs (4 * k + 1))) (G d0 hd0)
      · refine lv_tableIn (off := 445) (tgt := 484) S.1 S.2.1 dL_law_39 (by decide) (by decide) (by decide) (by decide) ?_
        exact lop_drop hfl S F h3 hL hl hs hfit (hops.2.2.2.2.2.1 σ χ hR (xs (4 * k + 1)) (xs (4 * k + 2))) (G d0 hd0)
      · refine lv_tableIn (off := 513) (tgt := 552) S.1 S.2.1 dL_law_39 (by decide) (by decide) (by decide) (by decide) ?_
        exact lop_tear hfl S F h3 hL hl hs hfit (hops.2.2.2.2.2.2.1 σ χ hR (xs (4 * k + 1))) (G d0 hd0)
      · refine lv_tableIn (off := 569) (tgt := 608) S.1 S.2.1 dL_law_39 (by decide) (by decide) (by decide) (by decide) ?_
        exact lop_copy hfl S F h3 hL hl hs hfit (hops.2.2.2.2.2.2.2.1 σ χ hR (xs (4 * k + 1)) (xs (4 * k + 2)) (xs (4 * k + 3))) (G d0 hd0)
      · refine lv_tableIn (off := 649) (tgt := 688) S.1 S.2.1 dL_law_39 (by decide) (by decide) (by decide) (by decide) ?_
        exact lop_line hfl S F h3 hL hl hs hfit (hops.2.2.2.2.2.2.2.2.1 σ χ hR (xs (4 * k + 1)) (xs (4 * k + 2))) (G d0 hd0)
      · refine lv_tableIn (off := 717) (tgt := 756) S.1 S.2.1 dL_law_39 (by decide) (by decide) (by decide) (by decide) ?_
        exact lop_pending hfl S F h3 hL hl hs hfit (hops.2.2.2.2.2.2.2.2.2.1 σ χ hR (xs (4 * k + 1)) (xs (4 * k + 2))) (G d0 hd0)
      · refine lv_tableIn (off := 785) (tgt := 824) S.1 S.2.1 dL_law_39 (by decide) (by decide) (by decide) (by decide) ?_
        exact lop_entry hfl S F h3 hL hl hs hfit (hops.2.2.2.2.2.2.2.2.2.2.1 σ χ hR (xs (4 * k + 1)) (xs (4 * k + 2))) (G d0 hd0)
      · refine lv_tableIn (off := 853) (tgt := 892) S.1 S.2.1 dL_law_39 (by decide) (by decide) (by decide) (by decide) ?_
        exact lop_value hfl S F h3 hL hl hs hfit (hops.2.2.2.2.2.2.2.2.2.2.2.1 σ χ hR (xs (4 * k + 1))) (G d0 hd0)
      · refine lv_tableIn (off := 909) (tgt := 948) S.1 S.2.1 dL_law_39 (by decide) (by decide) (by decide) (by decide) ?_
        exact lop_cost hfl S F h3 hL hl hs hfit (hops.2.2.2.2.2.2.2.2.2.2.2.2.1 σ χ hR (xs (4 * k + 1)) (xs (4 * k + 2)) (xs (4 * k + 3))) (G d0 hd0)
      · refine lv_tableIn (off := 1005) (tgt := 1044) S.1 S.2.1 dL_law_39 (by decide) (by decide) (by decide) (by decide) ?_
        exact lop_nextTorn hfl S F h3 hL hl hs hfit (hops.2.2.2.2.2.2.2.2.2.2.2.2.2.1 σ χ hR) (G d0 hd0)
      · refine lv_tableIn (off := 1018) (tgt := 1057) S.1 S.2.1 dL_law_39 (by decide) (by decide) (by decide) (by decide) ?_
        exact lop_nextDropped hfl S F h3 hL hl hs hfit (hops.2.2.2.2.2.2.2.2.2.2.2.2.2.2.1 σ χ hR (xs (4 * k + 1))) (G d0 hd0)
      · refine lv_tableIn (off := 1074) (tgt := 1113) S.1 S.2.1 dL_law_39 (by decide) (by decide) (by decide) (by decide) ?_
        exact lop_ticksToServe hfl S F h3 hL hl hs hfit (hops.2.2.2.2.2.2.2.2.2.2.2.2.2.2.2.1 σ χ hR) (G d0 hd0)
      · refine lv_tableIn (off := 1087) (tgt := 1126) S.1 S.2.1 dL_law_39 (by decide) (by decide) (by decide) (by decide) ?_
        exact lop_cheapest hfl S F h3 hL hl hs hfit (hops.2.2.2.2.2.2.2.2.2.2.2.2.2.2.2.2.1 σ χ hR (xs (4 * k + 1)) (xs (4 * k + 2))) (G d0 hd0)
      · refine lv_tableIn (off := 1171) (tgt := 1210) S.1 S.2.1 dL_law_39 (by decide) (by decide) (by decide) (by decide) ?_
        exact lop_hitRate hd0 S0 F0' hl hs hfit (hops.2.2.2.2.2.2.2.2.2.2.2.2.2.2.2.2.2.1 σ χ hR).1 (hops.2.2.2.2.2.2.2.2.2.2.2.2.2.2.2.2.2.1 σ χ hR).2.1 (hops.2.2.2.2.2.2.2.2.2.2.2.2.2.2.2.2.2.1 σ χ hR).2.2 G
      · refine lv_tableIn (off := 1212) (tgt := 1251) S.1 S.2.1 dL_law_39 (by decide) (by decide) (by decide) (by decide) ?_
        exact lop_append hfl S F h3 hL hl hs hfit (hops.2.2.2.2.2.2.2.2.2.2.2.2.2.2.2.2.2.2.1 σ χ hR (xs (4 * k + 1))) (G d0 hd0)
      · refine lv_tableIn (off := 1268) (tgt := 1307) S.1 S.2.1 dL_law_39 (by decide) (by decide) (by decide) (by decide) ?_
        exact lop_clearText hfl S F h3 hL hl hs hfit (hops.2.2.2.2.2.2.2.2.2.2.2.2.2.2.2.2.2.2.2.1 σ χ hR) (G d0 hd0)
      · refine lv_tableIn (off := 1281) (tgt := 1320) S.1 S.2.1 dL_law_39 (by decide) (by decide) (by decide) (by decide) ?_
        exact lop_carryOut hfl S F h3 hL hl hs hfit (hops.2.2.2.2.2.2.2.2.2.2.2.2.2.2.2.2.2.2.2.2.1 σ χ hR) (G d0 hd0)
      · refine lv_tableIn (off := 1294) (tgt := 1333) S.1 S.2.1 dL_law_39 (by decide) (by decide) (by decide) (by decide) ?_
        exact lop_undo hfl S F h3 hL hl hs hfit (hops.2.2.2.2.2.2.2.2.2.2.2.2.2.2.2.2.2.2.2.2.2.1 σ χ hR) (G d0 hd0)
      · refine lv_tableIn (off := 1338) (tgt := 1377) S.1 S.2.1 dL_law_39 (by decide) (by decide) (by decide) (by decide) ?_
        exact lop_digest hfl S F h3 hL hl hs hfit (hops.2.2.2.2.2.2.2.2.2.2.2.2.2.2.2.2.2.2.2.2.2.2 σ χ hR) (G d0 hd0)
    · refine lv_tableOut (tgt := 1391) S.1 S.2.1 dL_law_39 (Or.inr (by rw [nI_toInt (by omega)]; omega)) (by decide) ?_
      exact W.widen (by omega) (by omega) (G d0 hd0 H locs ls χ σ f hR hl hs)
