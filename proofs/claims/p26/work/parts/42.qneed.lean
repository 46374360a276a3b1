/-! the guards needIndex, needRange, needState where they return; more rows of the object's world (by wip/tools/rworld.py) -/
section QM
variable {p : Program} {l : Launch} {e : Env} {R : Room} {s : State} {m : MethodId} {args : Array Value} {below : List Frame} {meth : Method} {c : Code} {H : Heap} {locs : List Loc} {cells slots : Nat} {Q : State → Prop} {cc : ByteArray} {nL pc : Nat} {own : String} {ls : Array Slot} {rest st0 : List Value} {γ : Type} {res : γ} {D : va_G} {cI cB cM : ClassId} {ad6 : Nat → Nat} {a : Nat → Nat → Nat} {A : Nat → Prop} {σ : cSt}
theorem qrZ (S : CallFix p m c cc nL s args WA own) (K : qK D cI cB cM ad6 A s) (hr : meth.sig.returnType = some .boolean) (hk : meth.locks = false) (hs : qS D cI cB cM ad6 a A s σ H locs) {r r0 : Int32} {σ0 : cSt} (hf : ((z_bz r).bind fun r => some (r, σ)) = some (r0, σ0)) (hdg : decode cc pc = .ok (.ireturn, 1)) : W p l e R s m args below meth c H locs 0 0 (MQ below (qQi D cI cB cM ad6 a A r0 σ0) args s 0 0 A) (F0 m pc ls [.int r]) := by
  unfold z_bz at hf
  split at hf
  · rename_i hz
    cases hf
    obtain ⟨G, hP, hD, hS⟩ := hs
    exact W.zret S.1 S.2.1 hr (z_nar hz) (fun t ht hW => ⟨⟨r, (), rfl, rfl, G, by rw [ht]; exact hP, hD, va_K.moved hW.alike K.1⟩, hS.F ht⟩) hS.2.2 hdg (hlocks := hk)
  · simp at hf
theorem qcV {C : String} {b : Nat} (hrec : ∃ cellB : Cell, H[b]? = some cellB ∧ cellB.vm.isStatics = false ∧ s.vm.findClass C = some cellB.cls) {y : MethodName} {bytes : ByteArray} {maxL n index : Nat} {ret : Option FieldType} {rm : Room} {As : List Value} {X : Option (Int32 × cSt)} {k : Int32 → cSt → Option γ} (S : CallFix p m c cc nL s args WA own) (K : qK D cI cB cM ad6 A s) (hs : qS D cI cB cM ad6 a A s σ H locs) (hl : ls.size = nL) (hf : z_b2 X k = some res)
    (hM : ∀ r σ', X = some (r, σ') → Met l y (Cond.code y bytes maxL ret :: WA) rm (qPc D cI cB cM ad6 a A σ (.ref b :: As)) (qQi D cI cB cM ad6 a A r σ') 0 0 A)
    (cw : CallW R s args own C index y bytes maxL ret (Cond.code y bytes maxL ret :: WA) rm 0 0 n) (hn : As.length = n) (hdg : decode cc pc = .ok (.invokevirtual index, 3)) (hst : st0 = As.reverse ++ .ref b :: rest) (hroom : (rest.map fun v => v.category).sum ≤ 8) (hfit : cells + 0 ≤ R.cells ∧ slots + 0 ≤ R.slots)
    (kk : ∀ (r : Int32) (σ' : cSt) (H1 : Heap) (locs1 : List Loc), qS D cI cB cM ad6 a A s σ' H1 locs1 → k r σ' = some res → W p l e R s m args below meth c H1 locs1 cells slots Q (F0 m (pc + 3) ls (.int r :: rest))) : W p l e R s m args below meth c H locs cells slots Q (F0 m pc ls st0) := by
  obtain ⟨⟨r, σ'⟩, hX, hk⟩ := Option.bind_eq_some_iff.mp hf
  have hpre := qPre K hs (.ref b :: As)
  obtain ⟨G, hP, hD, hS⟩ := hs
  refine va_calli (va_runV (As := As) (rest := rest) S (hM r σ' hX) cw ⟨qPc_blind _ _ _ _ _ _ _ _ _, hrec, hpre⟩ rfl hn hl hst (lv_room hroom) hdg hfit) hS (fun q _ h => h) (fun q h => h) (fun r1 u t H1 locs1 ht hvm hw hB hz1 hk1 hS => ?_)
  obtain ⟨G1, hP1, hD1, hK1⟩ := hB
  rw [ht] at hP1
  subst hw
  exact kk _ σ' H1 locs1 ⟨G1, hP1, hD1, hS⟩ hk
theorem qcVS {y : MethodName} {bytes : ByteArray} {maxL n index : Nat} {ret : Option FieldType} {rm : Room} {As : List Value} {X : Option (Int32 × cSt)} {k : Int32 → cSt → Option γ} (S : CallFix p m c cc nL s args WA own) (K : qK D cI cB cM ad6 A s) (hs : qS D cI cB cM ad6 a A s σ H locs) (hl : ls.size = nL) (hf : z_b2 X k = some res)
    (hM : ∀ r σ', X = some (r, σ') → Met l y (Cond.code y bytes maxL ret :: WA) rm (qPc D cI cB cM ad6 a A σ As) (qQi D cI cB cM ad6 a A r σ') 0 0 A)
    (cw : CallB R s args own index y bytes maxL ret (Cond.code y bytes maxL ret :: WA) rm 0 0 n ∧ (Cond.static y).before args s = true) (hn : As.length = n) (hdg : decode cc pc = .ok (.invokestatic index, 3)) (hst : st0 = As.reverse ++ rest) (hroom : (rest.map fun v => v.category).sum ≤ 8) (hfit : cells + 0 ≤ R.cells ∧ slots + 0 ≤ R.slots)
    (kk : ∀ (r : Int32) (σ' : cSt) (H1 : Heap) (locs1 : List Loc), qS D cI cB cM ad6 a A s σ' H1 locs1 → k r σ' = some res → W p l e R s m args below meth c H1 locs1 cells slots Q (F0 m (pc + 3) ls (.int r :: rest))) : W p l e R s m args below meth c H locs cells slots Q (F0 m pc ls st0) := by
  obtain ⟨⟨r, σ'⟩, hX, hk⟩ := Option.bind_eq_some_iff.mp hf
  have hpre := qPre K hs As
  obtain ⟨G, hP, hD, hS⟩ := hs
  refine va_calli (va_runS (As := As) (rest := rest) S (hM r σ' hX) cw ⟨qPc_blind _ _ _ _ _ _ _ _ _, hpre⟩ rfl hn hl hst (lv_room hroom) hdg hfit) hS (fun q _ h => h) (fun q h => h) (fun r1 u t H1 locs1 ht hvm hw hB hz1 hk1 hS => ?_)
  obtain ⟨G1, hP1, hD1, hK1⟩ := hB
  rw [ht] at hP1
  subst hw
  exact kk _ σ' H1 locs1 ⟨G1, hP1, hD1, hS⟩ hk
theorem qcT {y : MethodName} {bytes : ByteArray} {maxL n index : Nat} {ret : Option FieldType} {rm : Room} {As : List Value} {X : Option Int32} {k : Int32 → Option γ} (S : CallFix p m c cc nL s args WA own) (K : qK D cI cB cM ad6 A s) (hs : qS D cI cB cM ad6 a A s σ H locs) (hl : ls.size = nL) (hf : X.bind k = some res)
    (hM : ∀ r, X = some r → Met l y (Cond.code y bytes maxL ret :: WA) rm (qPc D cI cB cM ad6 a A σ As) (qQi D cI cB cM ad6 a A r σ) 0 0 A)
    (cw : CallB R s args own index y bytes maxL ret (Cond.code y bytes maxL ret :: WA) rm 0 0 n ∧ (Cond.static y).before args s = true) (hn : As.length = n) (hdg : decode cc pc = .ok (.invokestatic index, 3)) (hst : st0 = As.reverse ++ rest) (hroom : (rest.map fun v => v.category).sum ≤ 8) (hfit : cells + 0 ≤ R.cells ∧ slots + 0 ≤ R.slots)
    (kk : ∀ (r : Int32) (H1 : Heap) (locs1 : List Loc), qS D cI cB cM ad6 a A s σ H1 locs1 → k r = some res → W p l e R s m args below meth c H1 locs1 cells slots Q (F0 m (pc + 3) ls (.int r :: rest))) : W p l e R s m args below meth c H locs cells slots Q (F0 m pc ls st0) := by
  obtain ⟨r, hX, hk⟩ := Option.bind_eq_some_iff.mp hf
  have hpre := qPre K hs As
  obtain ⟨G, hP, hD, hS⟩ := hs
  refine va_calli (va_runS (As := As) (rest := rest) S (hM r hX) cw ⟨qPc_blind _ _ _ _ _ _ _ _ _, hpre⟩ rfl hn hl hst (lv_room hroom) hdg hfit) hS (fun q _ h => h) (fun q h => h) (fun r1 u t H1 locs1 ht hvm hw hB hz1 hk1 hS => ?_)
  obtain ⟨G1, hP1, hD1, hK1⟩ := hB
  rw [ht] at hP1
  subst hw
  exact kk _ H1 locs1 ⟨G1, hP1, hD1, hS⟩ hk
theorem lc_eq (x y : Int64) : lg_cmp x y = 0 ↔ x = y := by
  by_cases h1 : y < x
  · have h2 : ¬ x = y := fun e => by rw [e] at h1; exact Int64.lt_irrefl h1
    simp [lg_cmp, h1, h2]
  · by_cases h2 : x = y
    · subst h2
      simp [lg_cmp]
    · simp [lg_cmp, h1, h2]
theorem qlc_ne (S : CallFix p m c cc nL s args WA own) {x y : Int64} {off : Int} {tgt : Nat} {A1 B1 : Option γ} (hf : (if x = y then A1 else B1) = some res) (hd1 : decode cc pc = .ok (.lcmp, 1)) (hd2 : decode cc (pc + 1) = .ok (.ifCond .ne off, 3)) (ht : ((pc + 1 : Nat) : Int) + off = (tgt : Int)) (kt : B1 = some res → W p l e R s m args below meth c H locs cells slots Q (F0 m tgt ls rest)) (kf : A1 = some res → W p l e R s m args below meth c H locs cells slots Q (F0 m (pc + 1 + 3) ls rest)) : W p l e R s m args below meth c H locs cells slots Q (F0 m pc ls (.long y :: .long x :: rest)) := by
  refine W.lcmp S.1 S.2.1 hd1 ?_
  refine lv_if_ne S.1 S.2.1 hd2 ht (fun h => kt ?_) (fun h => kf ?_)
  · rw [if_neg (fun e => h ((lc_eq x y).mpr e))] at hf
    exact hf
  · rw [if_pos ((lc_eq x y).mp h)] at hf
    exact hf
end QM
def rmX8_needIndex : Room := { frames := 0, cells := 0, slots := 0, locals := 0 }
set_option maxHeartbeats 4000000 in
set_option maxRecDepth 100000 in
theorem metX8_needIndex (l : Launch) (D : va_G) (cI cB cM : ClassId) (ad6 : Nat → Nat) (a : Nat → Nat → Nat) (A : Nat → Prop) (σ : cSt) (x y : Int32) (hn : ¬ (x < 0 ∨ y ≤ x)) : Met l yX8_needIndex (Cond.code yX8_needIndex cX8_needIndex 2 none :: WA) rmX8_needIndex (qPc D cI cB cM ad6 a A σ [.int x, .int y]) (qQv D cI cB cM ad6 a A σ) 0 0 A := by
  refine qMet (by decide) (Nat.le_of_ble_eq_true rfl) (fun p e s m args below meth c H locs ls S K hr hk hl hs => ?_)
  have hl : lv_has ls 2 [(0, .int x), (1, .int y)] := hl
  refine lv_iload_n S.1 S.2.1 dX8_needIndex_0 rfl (lv_at hl 0 rfl) ?_
  refine lv_if_lt (tgt := 9) S.1 S.2.1 dX8_needIndex_1 (by decide) (fun h1 => absurd (Or.inl h1) hn) (fun h1 => ?_)
  refine lv_iload_n S.1 S.2.1 dX8_needIndex_4 rfl (lv_at hl 0 rfl) ?_
  refine lv_iload_n S.1 S.2.1 dX8_needIndex_5 rfl (lv_at hl 1 rfl) ?_
  refine lv_icmp_lt (tgt := 19) S.1 S.2.1 dX8_needIndex_6 (by decide) (fun h2 => ?_) (fun h2 => absurd (Or.inr (Int32.not_lt.mp h2)) hn)
  exact qrV S K hr hk hs rfl dX8_needIndex_19
theorem un_0l : Cond.methodLink RX8 58 yX8_needIndex ∈ WA := z_in0 _ (List.mem_of_getElem? (i := 160) (by decide +kernel))
theorem un_0s : Cond.static yX8_needIndex ∈ WA := z_in0 _ (List.mem_of_getElem? (i := 161) (by decide +kernel))
theorem un_0n : Cond.initialized RX8 ∈ WA := z_in0 _ (List.mem_of_getElem? (i := 2) (by decide +kernel))
theorem un_0c : Cond.code yX8_needIndex cX8_needIndex 2 none ∈ WA := z_in0 _ (List.mem_of_getElem? (i := 162) (by decide +kernel))
theorem qm0 {p : Program} {l : Launch} {e : Env} {R : Room} {s : State} {m : MethodId} {args : Array Value} {below : List Frame} {meth : Method} {c : Code} {H : Heap} {locs : List Loc} {cells slots : Nat} {Q : State → Prop} {cc : ByteArray} {nL pc : Nat} {ls : Array Slot} {rest : List Value} {γ : Type} {res : γ} {D : va_G} {cI cB cM : ClassId} {ad6 : Nat → Nat} {a : Nat → Nat → Nat} {A : Nat → Prop} {σ : cSt} (S : CallFix p m c cc nL s args WA RX8) (K : qK D cI cB cM ad6 A s) (hs : qS D cI cB cM ad6 a A s σ H locs) (hl : ls.size = nL) {x y : Int32} {o1 : Option γ} (hf : (if x < 0 ∨ y ≤ x then none else o1) = some res) (hdg : decode cc pc = .ok (.invokestatic 58, 3))
    (hR : 1 ≤ R.frames ∧ 21 ≤ R.locals) (hroom : (rest.map fun v => v.category).sum ≤ 8) (hfit : cells + 0 ≤ R.cells ∧ slots + 0 ≤ R.slots)
    (kk : ∀ (H1 : Heap) (locs1 : List Loc), qS D cI cB cM ad6 a A s σ H1 locs1 → o1 = some res → W p l e R s m args below meth c H1 locs1 cells slots Q (F0 m (pc + 3) ls rest)) : W p l e R s m args below meth c H locs cells slots Q (F0 m pc ls (.int y :: .int x :: rest)) := by
  have hn : ¬ (x < 0 ∨ y ≤ x) := fun h => by rw [if_pos h] at hf; cases hf
  rw [if_neg hn] at hf
  have hpre := qPre K hs [.int x, .int y]
  obtain ⟨G, hP, hD, hS⟩ := hs
  have hR' : rmX8_needIndex.frames + 1 ≤ R.frames ∧ 8 + (2 + 11) + rmX8_needIndex.locals ≤ R.locals := ⟨hR.1, hR.2⟩
  refine va_callv (va_runS (As := [.int x, .int y]) (rest := rest) S (metX8_needIndex l D cI cB cM ad6 a A σ x y hn) (va_cwS 2 S.2.2.2.2 (z_goodS un_0l un_0s un_0n un_0c) rfl rfl rfl (by decide +kernel) hR') ⟨qPc_blind _ _ _ _ _ _ _ _ _, hpre⟩ rfl rfl hl rfl (lv_room hroom) hdg hfit) hS (fun q _ h => h) (fun q h => h) (fun u t H1 locs1 ht hvm hw hB hz1 hk1 hS => ?_)
  obtain ⟨G1, hP1, hD1, hK1⟩ := hB
  rw [ht] at hP1
  exact kk H1 locs1 ⟨G1, hP1, hD1, hS⟩ hf
def rmX8_needRange : Room := { frames := 0, cells := 0, slots := 0, locals := 0 }
set_option maxHeartbeats 4000000 in
set_option maxRecDepth 100000 in
theorem metX8_needRange (l : Launch) (D : va_G) (cI cB cM : ClassId) (ad6 : Nat → Nat) (a : Nat → Nat → Nat) (A : Nat → Prop) (σ : cSt) (x y z : Int32) (hn : ¬ (x < y ∨ z < x)) : Met l yX8_needRange (Cond.code yX8_needRange cX8_needRange 3 none :: WA) rmX8_needRange (qPc D cI cB cM ad6 a A σ [.int x, .int y, .int z]) (qQv D cI cB cM ad6 a A σ) 0 0 A := by
  refine qMet (by decide) (Nat.le_of_ble_eq_true rfl) (fun p e s m args below meth c H locs ls S K hr hk hl hs => ?_)
  have hl : lv_has ls 3 [(0, .int x), (1, .int y), (2, .int z)] := hl
  refine lv_iload_n S.1 S.2.1 dX8_needRange_0 rfl (lv_at hl 0 rfl) ?_
  refine lv_iload_n S.1 S.2.1 dX8_needRange_1 rfl (lv_at hl 1 rfl) ?_
  refine lv_icmp_lt (tgt := 10) S.1 S.2.1 dX8_needRange_2 (by decide) (fun h1 => absurd (Or.inl h1) hn) (fun h1 => ?_)
  refine lv_iload_n S.1 S.2.1 dX8_needRange_5 rfl (lv_at hl 0 rfl) ?_
  refine lv_iload_n S.1 S.2.1 dX8_needRange_6 rfl (lv_at hl 2 rfl) ?_
  refine lv_icmp_le (tgt := 20) S.1 S.2.1 dX8_needRange_7 (by decide) (fun h2 => ?_) (fun h2 => absurd (Or.inr (Int32.not_le.mp h2)) hn)
  exact qrV S K hr hk hs rfl dX8_needRange_20
theorem un_1l : Cond.methodLink RX8 45 yX8_needRange ∈ WA := z_in0 _ (List.mem_of_getElem? (i := 137) (by decide +kernel))
theorem un_1s : Cond.static yX8_needRange ∈ WA := z_in0 _ (List.mem_of_getElem? (i := 138) (by decide +kernel))
theorem un_1n : Cond.initialized RX8 ∈ WA := z_in0 _ (List.mem_of_getElem? (i := 2) (by decide +kernel))
theorem un_1c : Cond.code yX8_needRange cX8_needRange 3 none ∈ WA := z_in0 _ (List.mem_of_getElem? (i := 139) (by decide +kernel))
theorem qm1 {p : Program} {l : Launch} {e : Env} {R : Room} {s : State} {m : MethodId} {args : Array Value} {below : List Frame} {meth : Method} {c : Code} {H : Heap} {locs : List Loc} {cells slots : Nat} {Q : State → Prop} {cc : ByteArray} {nL pc : Nat} {ls : Array Slot} {rest : List Value} {γ : Type} {res : γ} {D : va_G} {cI cB cM : ClassId} {ad6 : Nat → Nat} {a : Nat → Nat → Nat} {A : Nat → Prop} {σ : cSt} (S : CallFix p m c cc nL s args WA RX8) (K : qK D cI cB cM ad6 A s) (hs : qS D cI cB cM ad6 a A s σ H locs) (hl : ls.size = nL) {x y z : Int32} {o1 : Option γ} (hf : (if x < y ∨ z < x then none else o1) = some res) (hdg : decode cc pc = .ok (.invokestatic 45, 3))
    (hR : 1 ≤ R.frames ∧ 22 ≤ R.locals) (hroom : (rest.map fun v => v.category).sum ≤ 8) (hfit : cells + 0 ≤ R.cells ∧ slots + 0 ≤ R.slots)
    (kk : ∀ (H1 : Heap) (locs1 : List Loc), qS D cI cB cM ad6 a A s σ H1 locs1 → o1 = some res → W p l e R s m args below meth c H1 locs1 cells slots Q (F0 m (pc + 3) ls rest)) : W p l e R s m args below meth c H locs cells slots Q (F0 m pc ls (.int z :: .int y :: .int x :: rest)) := by
  have hn : ¬ (x < y ∨ z < x) := fun h => by rw [if_pos h] at hf; cases hf
  rw [if_neg hn] at hf
  have hpre := qPre K hs [.int x, .int y, .int z]
  obtain ⟨G, hP, hD, hS⟩ := hs
  have hR' : rmX8_needRange.frames + 1 ≤ R.frames ∧ 8 + (3 + 11) + rmX8_needRange.locals ≤ R.locals := ⟨hR.1, hR.2⟩
  refine va_callv (va_runS (As := [.int x, .int y, .int z]) (rest := rest) S (metX8_needRange l D cI cB cM ad6 a A σ x y z hn) (va_cwS 3 S.2.2.2.2 (z_goodS un_1l un_1s un_1n un_1c) rfl rfl rfl (by decide +kernel) hR') ⟨qPc_blind _ _ _ _ _ _ _ _ _, hpre⟩ rfl rfl hl rfl (lv_room hroom) hdg hfit) hS (fun q _ h => h) (fun q h => h) (fun u t H1 locs1 ht hvm hw hB hz1 hk1 hS => ?_)
  obtain ⟨G1, hP1, hD1, hK1⟩ := hB
  rw [ht] at hP1
  exact kk H1 locs1 ⟨G1, hP1, hD1, hS⟩ hf
def rmX8_needState : Room := { frames := 0, cells := 0, slots := 0, locals := 0 }
set_option maxHeartbeats 4000000 in
set_option maxRecDepth 100000 in
theorem metX8_needState (l : Launch) (D : va_G) (cI cB cM : ClassId) (ad6 : Nat → Nat) (a : Nat → Nat → Nat) (A : Nat → Prop) (σ : cSt) (x : Int32) (hn : ¬ (x = 0)) : Met l yX8_needState (Cond.code yX8_needState cX8_needState 1 none :: WA) rmX8_needState (qPc D cI cB cM ad6 a A σ [.int x]) (qQv D cI cB cM ad6 a A σ) 0 0 A := by
  refine qMet (by decide) (Nat.le_of_ble_eq_true rfl) (fun p e s m args below meth c H locs ls S K hr hk hl hs => ?_)
  have hl : lv_has ls 1 [(0, .int x)] := hl
  refine lv_iload_n S.1 S.2.1 dX8_needState_0 rfl (lv_at hl 0 rfl) ?_
  refine lv_if_ne (tgt := 14) S.1 S.2.1 dX8_needState_1 (by decide) (fun h1 => ?_) (fun h1 => absurd h1 hn)
  exact qrV S K hr hk hs rfl dX8_needState_14
theorem un_2l : Cond.methodLink RX8 72 yX8_needState ∈ WA := z_in0 _ (List.mem_of_getElem? (i := 291) (by decide +kernel))
theorem un_2s : Cond.static yX8_needState ∈ WA := z_in0 _ (List.mem_of_getElem? (i := 292) (by decide +kernel))
theorem un_2n : Cond.initialized RX8 ∈ WA := z_in0 _ (List.mem_of_getElem? (i := 2) (by decide +kernel))
theorem un_2c : Cond.code yX8_needState cX8_needState 1 none ∈ WA := z_in0 _ (List.mem_of_getElem? (i := 293) (by decide +kernel))
theorem qm2 {p : Program} {l : Launch} {e : Env} {R : Room} {s : State} {m : MethodId} {args : Array Value} {below : List Frame} {meth : Method} {c : Code} {H : Heap} {locs : List Loc} {cells slots : Nat} {Q : State → Prop} {cc : ByteArray} {nL pc : Nat} {ls : Array Slot} {rest : List Value} {γ : Type} {res : γ} {D : va_G} {cI cB cM : ClassId} {ad6 : Nat → Nat} {a : Nat → Nat → Nat} {A : Nat → Prop} {σ : cSt} (S : CallFix p m c cc nL s args WA RX8) (K : qK D cI cB cM ad6 A s) (hs : qS D cI cB cM ad6 a A s σ H locs) (hl : ls.size = nL) {x : Int32} {o1 : Option γ} (hf : (if x = 0 then none else o1) = some res) (hdg : decode cc pc = .ok (.invokestatic 72, 3))
    (hR : 1 ≤ R.frames ∧ 20 ≤ R.locals) (hroom : (rest.map fun v => v.category).sum ≤ 8) (hfit : cells + 0 ≤ R.cells ∧ slots + 0 ≤ R.slots)
    (kk : ∀ (H1 : Heap) (locs1 : List Loc), qS D cI cB cM ad6 a A s σ H1 locs1 → o1 = some res → W p l e R s m args below meth c H1 locs1 cells slots Q (F0 m (pc + 3) ls rest)) : W p l e R s m args below meth c H locs cells slots Q (F0 m pc ls (.int x :: rest)) := by
  have hn : ¬ (x = 0) := fun h => by rw [if_pos h] at hf; cases hf
  rw [if_neg hn] at hf
  have hpre := qPre K hs [.int x]
  obtain ⟨G, hP, hD, hS⟩ := hs
  have hR' : rmX8_needState.frames + 1 ≤ R.frames ∧ 8 + (1 + 11) + rmX8_needState.locals ≤ R.locals := ⟨hR.1, hR.2⟩
  refine va_callv (va_runS (As := [.int x]) (rest := rest) S (metX8_needState l D cI cB cM ad6 a A σ x hn) (va_cwS 1 S.2.2.2.2 (z_goodS un_2l un_2s un_2n un_2c) rfl rfl rfl (by decide +kernel) hR') ⟨qPc_blind _ _ _ _ _ _ _ _ _, hpre⟩ rfl rfl hl rfl (lv_room hroom) hdg hfit) hS (fun q _ h => h) (fun q h => h) (fun u t H1 locs1 ht hvm hw hB hz1 hk1 hS => ?_)
  obtain ⟨G1, hP1, hD1, hK1⟩ := hB
  rw [ht] at hP1
  exact kk H1 locs1 ⟨G1, hP1, hD1, hS⟩ hf
