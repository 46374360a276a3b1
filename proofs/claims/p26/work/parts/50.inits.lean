/-! constructors (by wip/tools/inits.py) -/
def z0 : zSt := fun _ _ => 0
/-- what the constructors need of the tables beside the words -/
def xN (U : State) : Prop := va_AO "CacheDiary$Machine" U ∧ va_Nw (.methodLinkNest RX8 11 yX4_init "CacheDiary") U ∧ va_Nw (.methodLinkNest RX8 40 yX5_init "CacheDiary") U ∧ va_Nw (.methodLinkNest RX2 17 yX4_init "CacheDiary") U ∧ va_Nw (.methodLinkNest RX4 20 yX0_init "CacheDiary") U ∧ va_Nw (.methodLinkNest RX4 27 yX1_init "CacheDiary") U ∧ va_Nw (.methodLinkNest RX4 34 yX7_init "CacheDiary") U ∧ va_Nw (.methodLinkNest RX4 41 yX3_init "CacheDiary") U
theorem xN.warm {s U : State} (hW : s.WarmedH U.vm) (h : xN s) : xN U := ⟨va_AO.moved hW.alike h.1, va_Nw.warmM hW h.2.1, va_Nw.warmM hW h.2.2.1, va_Nw.warmM hW h.2.2.2.1, va_Nw.warmM hW h.2.2.2.2.1, va_Nw.warmM hW h.2.2.2.2.2.1, va_Nw.warmM hW h.2.2.2.2.2.2.1, va_Nw.warmM hW h.2.2.2.2.2.2.2⟩
theorem xN.same {u U : State} (hv : u.vm = U.vm) (h : xN u) : xN U := ⟨va_AO.moved (by rw [← hv]; exact Vm.Alike.refl u.vm) h.1, va_Nw.same rfl hv h.2.1, va_Nw.same rfl hv h.2.2.1, va_Nw.same rfl hv h.2.2.2.1, va_Nw.same rfl hv h.2.2.2.2.1, va_Nw.same rfl hv h.2.2.2.2.2.1, va_Nw.same rfl hv h.2.2.2.2.2.2.1, va_Nw.same rfl hv h.2.2.2.2.2.2.2⟩
theorem z_same {D : va_G} {cI cB cM cA : ClassId} {ty : FieldType} {s : State} (K2 : va_K D vwCl (tysQ cI cB cM ++ [(cA, ty)]) s) : (ty = .int → cA = cI) ∧ (ty = .byte → cA = cB) ∧ (ty = .object "CacheDiary$Machine" → cA = cM) := by
  have h3 := (K2.2 3 (cA, ty) rfl).2
  refine ⟨fun e => ?_, fun e => ?_, fun e => ?_⟩
  · subst e
    exact Option.some.inj (h3.symm.trans (K2.2 0 (cI, .int) rfl).2)
  · subst e
    exact Option.some.inj (h3.symm.trans (K2.2 1 (cB, .byte) rfl).2)
  · subst e
    obtain ⟨_, _, _, _, _, h4⟩ := h3
    obtain ⟨_, _, _, _, _, h5⟩ := (K2.2 2 (cM, .object "CacheDiary$Machine") rfl).2
    exact Option.some.inj (h4.symm.trans h5)
def wI_X0 (u : Nat → Nat) (cI : ClassId) : va_W := [(u 0, .inr (0, [.ref (u 1), .ref (u 2), .ref (u 3), .ref (u 4), .int 0])), (u 1, .inl (cI, 192, .inl (fun _ => 0))), (u 2, .inl (cI, 192, .inl (fun _ => 0))), (u 3, .inl (cI, 192, .inl (fun _ => 0))), (u 4, .inl (cI, 192, .inl (fun _ => 0)))]
theorem ui_49 : Cond.methodLink RX0 3 objectInit ∈ WA := z_in0 _ (List.mem_of_getElem? (i := 49) (by decide +kernel))
theorem ui_7 : Cond.instanceMethod objectInit ∈ WA := z_in0 _ (List.mem_of_getElem? (i := 7) (by decide +kernel))
theorem ui_8 : Cond.code objectInit ⟨#[0xb1]⟩ 1 none ∈ WA := z_in0 _ (List.mem_of_getElem? (i := 8) (by decide +kernel))
theorem ui_28 : Cond.arrayClass .int ∈ WA := z_in0 _ (List.mem_of_getElem? (i := 28) (by decide +kernel))
theorem ui_50 : Cond.fieldLink RX0 9 "CacheDiary$Copies" "kind" "[I" ∈ WA := z_in0 _ (List.mem_of_getElem? (i := 50) (by decide +kernel))
theorem ui_51 : Cond.fieldLink RX0 15 "CacheDiary$Copies" "value" "[I" ∈ WA := z_in0 _ (List.mem_of_getElem? (i := 51) (by decide +kernel))
theorem ui_52 : Cond.fieldLink RX0 18 "CacheDiary$Copies" "slot" "[I" ∈ WA := z_in0 _ (List.mem_of_getElem? (i := 52) (by decide +kernel))
theorem ui_53 : Cond.fieldLink RX0 21 "CacheDiary$Copies" "lastUse" "[I" ∈ WA := z_in0 _ (List.mem_of_getElem? (i := 53) (by decide +kernel))
def rmX0_init : Room := { frames := 1, cells := 4, slots := 768, locals := 12 }
def pc_X0_init (D : va_G) (cI cB cM : ClassId) (h sz : Nat) : Array Value → State → Prop := va_Pc [.ref h] (fun U => U.heap.size = sz ∧ va_P D vwCl [(h, .inr (0, [.null, .null, .null, .null, .int 0]))] U.heap ∧ va_K D vwCl (tysQ cI cB cM) U ∧ xN U ∧ va_D (fun _ => True) [(h, .inr (0, [.null, .null, .null, .null, .int 0]))])
theorem blind_X0_init (D : va_G) (cI cB cM : ClassId) (h sz : Nat) : FrameBlind (pc_X0_init D cI cB cM h sz) := fun b U g mk q => by
  obtain ⟨q0, q1, qP, qK, qN, qD⟩ := q
  exact ⟨q0, q1, qP, va_K.moved (u := U) (U := U.calling g mk b) (Vm.Alike.refl U.vm) qK, xN.same (u := U) (U := U.calling g mk b) rfl qN, qD⟩
set_option maxHeartbeats 4000000 in
set_option maxRecDepth 100000 in
theorem metX0_init (l : Launch) (D : va_G) (cI cB cM : ClassId) (h sz : Nat) : Met l yX0_init (Cond.code yX0_init cX0_init 1 none :: WA) rmX0_init (pc_X0_init D cI cB cM h sz) (va_Qv (fun u : Nat → Nat => u 0 = h) (fun u t => va_P D vwCl (wI_X0 u cI) t.heap ∧ va_K D vwCl (tysQ cI cB cM) t ∧ va_D (va_A [(h, .inr (0, [.null, .null, .null, .null, .int 0]))] sz) (wI_X0 u cI)) (va_A [(h, .inr (0, [.null, .null, .null, .null, .int 0]))] sz)) 4 768 (va_A [(h, .inr (0, [.null, .null, .null, .null, .int 0]))] sz) := by
  refine Met.ofW (cc := cX0_init) (maxL := 1) (ret := none) (by decide) rfl ?_
  intro p e s m args below meth c s₁ B hml hv
  obtain ⟨rfl, hsz, hP, K, hN, hD0⟩ := hv
  have hr := B.returns
  have hk := B.notSynchronized
  have hin : meth.name = "<init>" := (name_of_methodNamed B.named B.method).1
  have hts0 := atoms_spec (ws := Cond.code yX0_init cX0_init 1 none :: WA) B.pre
  have S : CallFix p m c cX0_init 1 s ([.ref h] : List Value).toArray WA RX0 := ⟨B.exec, B.bytes, hml, findClass_of_methodNamed B.named, fun w h => hts0 w (List.mem_cons_of_mem _ h)⟩
  subst hsz
  have hD := hD0.self (sz := s.heap.size)
  skip
  generalize hAe : va_A [(h, .inr (0, [.null, .null, .null, .null, .int 0]))] s.heap.size = A at hD ⊢
  have hA : ∀ q : Nat, s.heap.size ≤ q → A q := fun q h => by rw [← hAe]; exact Or.inr h
  have hS : va_S A s.heap s.heap [] := va_S.rf
  have hl := lv_entry ([.ref h]) (n := 1) (Nat.le_of_ble_eq_true rfl)
  rw [lg_entry_eq]
  generalize (lg_sl ([.ref h]) ++ List.replicate (1 - (lg_sl ([.ref h])).length) Slot.unset).toArray = ls at hl ⊢
  have hl : lv_has ls 1 [(0, .ref h)] := hl
  refine lv_aload_n S.1 S.2.1 dX0_init_0 rfl (lv_at hl 0 rfl) ?_
  refine W.objInit S.1 S.2.1 S.2.2.2.1 (S.2.2.2.2 _ ui_49) (S.2.2.2.2 _ ui_7) (S.2.2.2.2 _ ui_8) rfl (hl.1.trans S.2.2.1.symm) rfl dX0_init_1 (Nat.le_of_ble_eq_true rfl) (Nat.le_of_ble_eq_true rfl) ?_
  refine W.eq (g2 := F0 m 4 ls []) rfl ?_
  refine lv_aload_n S.1 S.2.1 dX0_init_4 rfl (lv_at hl 0 rfl) ?_
  refine lv_sipush (v := nI 192) S.1 S.2.1 dX0_init_5 (by decide) ?_
  refine va_newa (atype := .int) S.1 S.2.1 (S.2.2.2.2 _ ui_28) rfl K hP hD hS hA (a0 := (192, .inl (fun _ => 0))) (fun _ => rfl) (nI_pos (n := 192) (by omega)) (nI_clamp (n := 192) (by omega)) (by decide) (Nat.le_of_ble_eq_true rfl) (Nat.le_of_ble_eq_true rfl) dX0_init_8 (fun q1 cA H2 K2 hP hD hS => ?_)
  obtain rfl : cI = cA := ((z_same K2).1 rfl).symm
  have hP : va_P D vwCl [(h, .inr (0, [.null, .null, .null, .null, .int 0])), (q1, .inl (cI, 192, .inl (fun _ => 0)))] H2 := hP
  have hD : va_D A [(h, .inr (0, [.null, .null, .null, .null, .int 0])), (q1, .inl (cI, 192, .inl (fun _ => 0)))] := hD
  refine W.widen (k := 1) (n := 192) (by omega) (by omega) ?_
  refine va_putF (D := D) (ci := 0) (v := .ref q1) (ty := .array .int) (C := RX0) (T := TX0) (N := 5) S.1 S.2.1 S.2.2.2.2 inlX0 tyX0 tyX0_ok nmX0 S.2.2.2.1 K hP hD hS 0 rfl rfl 0 (by decide) (S.2.2.2.2 _ ui_50) (fun _ h9 => h9) rfl hin rfl (by decide +kernel) rfl rfl (Nat.le_of_ble_eq_true rfl) dX0_init_10 (fun H3 locs hP hD hS => ?_)
  have hP : va_P D vwCl [(h, .inr (0, [.ref q1, .null, .null, .null, .int 0])), (q1, .inl (cI, 192, .inl (fun _ => 0)))] H3 := hP
  have hD : va_D A [(h, .inr (0, [.ref q1, .null, .null, .null, .int 0])), (q1, .inl (cI, 192, .inl (fun _ => 0)))] := hD
  refine lv_aload_n S.1 S.2.1 dX0_init_13 rfl (lv_at hl 0 rfl) ?_
  refine lv_sipush (v := nI 192) S.1 S.2.1 dX0_init_14 (by decide) ?_
  refine va_newa (atype := .int) S.1 S.2.1 (S.2.2.2.2 _ ui_28) rfl K hP hD hS hA (a0 := (192, .inl (fun _ => 0))) (fun _ => rfl) (nI_pos (n := 192) (by omega)) (nI_clamp (n := 192) (by omega)) (by decide) (Nat.le_of_ble_eq_true rfl) (Nat.le_of_ble_eq_true rfl) dX0_init_17 (fun q4 cA H5 K2 hP hD hS => ?_)
  obtain rfl : cI = cA := ((z_same K2).1 rfl).symm
  have hP : va_P D vwCl [(h, .inr (0, [.ref q1, .null, .null, .null, .int 0])), (q1, .inl (cI, 192, .inl (fun _ => 0))), (q4, .inl (cI, 192, .inl (fun _ => 0)))] H5 := hP
  have hD : va_D A [(h, .inr (0, [.ref q1, .null, .null, .null, .int 0])), (q1, .inl (cI, 192, .inl (fun _ => 0))), (q4, .inl (cI, 192, .inl (fun _ => 0)))] := hD
  refine W.widen (k := 2) (n := 384) (by omega) (by omega) ?_
  refine va_putF (D := D) (ci := 0) (v := .ref q4) (ty := .array .int) (C := RX0) (T := TX0) (N := 5) S.1 S.2.1 S.2.2.2.2 inlX0 tyX0 tyX0_ok nmX0 S.2.2.2.1 K hP hD hS 0 rfl rfl 1 (by decide) (S.2.2.2.2 _ ui_51) (fun _ h9 => h9) rfl hin rfl (by decide +kernel) rfl rfl (Nat.le_of_ble_eq_true rfl) dX0_init_19 (fun H6 locs hP hD hS => ?_)
  have hP : va_P D vwCl [(h, .inr (0, [.ref q1, .ref q4, .null, .null, .int 0])), (q1, .inl (cI, 192, .inl (fun _ => 0))), (q4, .inl (cI, 192, .inl (fun _ => 0)))] H6 := hP
  have hD : va_D A [(h, .inr (0, [.ref q1, .ref q4, .null, .null, .int 0])), (q1, .inl (cI, 192, .inl (fun _ => 0))), (q4, .inl (cI, 192, .inl (fun _ => 0)))] := hD
  refine lv_aload_n S.1 S.2.1 dX0_init_22 rfl (lv_at hl 0 rfl) ?_
  refine lv_sipush (v := nI 192) S.1 S.2.1 dX0_init_23 (by decide) ?_
  refine va_newa (atype := .int) S.1 S.2.1 (S.2.2.2.2 _ ui_28) rfl K hP hD hS hA (a0 := (192, .inl (fun _ => 0))) (fun _ => rfl) (nI_pos (n := 192) (by omega)) (nI_clamp (n := 192) (by omega)) (by decide) (Nat.le_of_ble_eq_true rfl) (Nat.le_of_ble_eq_true rfl) dX0_init_26 (fun q7 cA H8 K2 hP hD hS => ?_)
  obtain rfl : cI = cA := ((z_same K2).1 rfl).symm
  have hP : va_P D vwCl [(h, .inr (0, [.ref q1, .ref q4, .null, .null, .int 0])), (q1, .inl (cI, 192, .inl (fun _ => 0))), (q4, .inl (cI, 192, .inl (fun _ => 0))), (q7, .inl (cI, 192, .inl (fun _ => 0)))] H8 := hP
  have hD : va_D A [(h, .inr (0, [.ref q1, .ref q4, .null, .null, .int 0])), (q1, .inl (cI, 192, .inl (fun _ => 0))), (q4, .inl (cI, 192, .inl (fun _ => 0))), (q7, .inl (cI, 192, .inl (fun _ => 0)))] := hD
  refine W.widen (k := 3) (n := 576) (by omega) (by omega) ?_
  refine va_putF (D := D) (ci := 0) (v := .ref q7) (ty := .array .int) (C := RX0) (T := TX0) (N := 5) S.1 S.2.1 S.2.2.2.2 inlX0 tyX0 tyX0_ok nmX0 S.2.2.2.1 K hP hD hS 0 rfl rfl 2 (by decide) (S.2.2.2.2 _ ui_52) (fun _ h9 => h9) rfl hin rfl (by decide +kernel) rfl rfl (Nat.le_of_ble_eq_true rfl) dX0_init_28 (fun H9 locs hP hD hS => ?_)
  have hP : va_P D vwCl [(h, .inr (0, [.ref q1, .ref q4, .ref q7, .null, .int 0])), (q1, .inl (cI, 192, .inl (fun _ => 0))), (q4, .inl (cI, 192, .inl (fun _ => 0))), (q7, .inl (cI, 192, .inl (fun _ => 0)))] H9 := hP
  have hD : va_D A [(h, .inr (0, [.ref q1, .ref q4, .ref q7, .null, .int 0])), (q1, .inl (cI, 192, .inl (fun _ => 0))), (q4, .inl (cI, 192, .inl (fun _ => 0))), (q7, .inl (cI, 192, .inl (fun _ => 0)))] := hD
  refine lv_aload_n S.1 S.2.1 dX0_init_31 rfl (lv_at hl 0 rfl) ?_
  refine lv_sipush (v := nI 192) S.1 S.2.1 dX0_init_32 (by decide) ?_
  refine va_newa (atype := .int) S.1 S.2.1 (S.2.2.2.2 _ ui_28) rfl K hP hD hS hA (a0 := (192, .inl (fun _ => 0))) (fun _ => rfl) (nI_pos (n := 192) (by omega)) (nI_clamp (n := 192) (by omega)) (by decide) (Nat.le_of_ble_eq_true rfl) (Nat.le_of_ble_eq_true rfl) dX0_init_35 (fun q10 cA H11 K2 hP hD hS => ?_)
  obtain rfl : cI = cA := ((z_same K2).1 rfl).symm
  have hP : va_P D vwCl [(h, .inr (0, [.ref q1, .ref q4, .ref q7, .null, .int 0])), (q1, .inl (cI, 192, .inl (fun _ => 0))), (q4, .inl (cI, 192, .inl (fun _ => 0))), (q7, .inl (cI, 192, .inl (fun _ => 0))), (q10, .inl (cI, 192, .inl (fun _ => 0)))] H11 := hP
  have hD : va_D A [(h, .inr (0, [.ref q1, .ref q4, .ref q7, .null, .int 0])), (q1, .inl (cI, 192, .inl (fun _ => 0))), (q4, .inl (cI, 192, .inl (fun _ => 0))), (q7, .inl (cI, 192, .inl (fun _ => 0))), (q10, .inl (cI, 192, .inl (fun _ => 0)))] := hD
  refine W.widen (k := 4) (n := 768) (by omega) (by omega) ?_
  refine va_putF (D := D) (ci := 0) (v := .ref q10) (ty := .array .int) (C := RX0) (T := TX0) (N := 5) S.1 S.2.1 S.2.2.2.2 inlX0 tyX0 tyX0_ok nmX0 S.2.2.2.1 K hP hD hS 0 rfl rfl 3 (by decide) (S.2.2.2.2 _ ui_53) (fun _ h9 => h9) rfl hin rfl (by decide +kernel) rfl rfl (Nat.le_of_ble_eq_true rfl) dX0_init_37 (fun H12 locs hP hD hS => ?_)
  have hP : va_P D vwCl [(h, .inr (0, [.ref q1, .ref q4, .ref q7, .ref q10, .int 0])), (q1, .inl (cI, 192, .inl (fun _ => 0))), (q4, .inl (cI, 192, .inl (fun _ => 0))), (q7, .inl (cI, 192, .inl (fun _ => 0))), (q10, .inl (cI, 192, .inl (fun _ => 0)))] H12 := hP
  have hD : va_D A [(h, .inr (0, [.ref q1, .ref q4, .ref q7, .ref q10, .int 0])), (q1, .inl (cI, 192, .inl (fun _ => 0))), (q4, .inl (cI, 192, .inl (fun _ => 0))), (q7, .inl (cI, 192, .inl (fun _ => 0))), (q10, .inl (cI, 192, .inl (fun _ => 0)))] := hD
  have hP9 := hP.sub (ws' := wI_X0 (fun k => [h, q1, q4, q7, q10].getD k 0) cI) [0, 1, 2, 3, 4] rfl
  have hD9 := hD.sub (ws' := wI_X0 (fun k => [h, q1, q4, q7, q10].getD k 0) cI) [0, 1, 2, 3, 4] (by decide) rfl
  refine W.widen (k := 4) (n := 768) (by omega) (by omega) ?_
  exact W.vret S.1 S.2.1 hr (fun t ht hW => ⟨⟨(fun k => [h, q1, q4, q7, q10].getD k 0), rfl, rfl, by rw [ht]; exact hP9, va_K.moved hW.alike K, hD9⟩, hS.F ht⟩) hS.2.2 dX0_init_40 (hlocks := hk)
def wI_X1 (u : Nat → Nat) (cI : ClassId) : va_W := [(u 0, .inr (1, [.ref (u 1), .int 0, .int 0, .int 0, .int 0, .int 0, .int 0])), (u 1, .inl (cI, 32, .inl (fun _ => 0)))]
theorem ui_56 : Cond.methodLink RX1 3 objectInit ∈ WA := z_in0 _ (List.mem_of_getElem? (i := 56) (by decide +kernel))
theorem ui_57 : Cond.fieldLink RX1 9 "CacheDiary$Diary" "lastUse" "[I" ∈ WA := z_in0 _ (List.mem_of_getElem? (i := 57) (by decide +kernel))
def rmX1_init : Room := { frames := 1, cells := 1, slots := 32, locals := 12 }
def pc_X1_init (D : va_G) (cI cB cM : ClassId) (h sz : Nat) : Array Value → State → Prop := va_Pc [.ref h] (fun U => U.heap.size = sz ∧ va_P D vwCl [(h, .inr (1, [.null, .int 0, .int 0, .int 0, .int 0, .int 0, .int 0]))] U.heap ∧ va_K D vwCl (tysQ cI cB cM) U ∧ xN U ∧ va_D (fun _ => True) [(h, .inr (1, [.null, .int 0, .int 0, .int 0, .int 0, .int 0, .int 0]))])
theorem blind_X1_init (D : va_G) (cI cB cM : ClassId) (h sz : Nat) : FrameBlind (pc_X1_init D cI cB cM h sz) := fun b U g mk q => by
  obtain ⟨q0, q1, qP, qK, qN, qD⟩ := q
  exact ⟨q0, q1, qP, va_K.moved (u := U) (U := U.calling g mk b) (Vm.Alike.refl U.vm) qK, xN.same (u := U) (U := U.calling g mk b) rfl qN, qD⟩
set_option maxHeartbeats 4000000 in
set_option maxRecDepth 100000 in
theorem metX1_init (l : Launch) (D : va_G) (cI cB cM : ClassId) (h sz : Nat) : Met l yX1_init (Cond.code yX1_init cX1_init 1 none :: WA) rmX1_init (pc_X1_init D cI cB cM h sz) (va_Qv (fun u : Nat → Nat => u 0 = h) (fun u t => va_P D vwCl (wI_X1 u cI) t.heap ∧ va_K D vwCl (tysQ cI cB cM) t ∧ va_D (va_A [(h, .inr (1, [.null, .int 0, .int 0, .int 0, .int 0, .int 0, .int 0]))] sz) (wI_X1 u cI)) (va_A [(h, .inr (1, [.null, .int 0, .int 0, .int 0, .int 0, .int 0, .int 0]))] sz)) 1 32 (va_A [(h, .inr (1, [.null, .int 0, .int 0, .int 0, .int 0, .int 0, .int 0]))] sz) := by
  refine Met.ofW (cc := cX1_init) (maxL := 1) (ret := none) (by decide) rfl ?_
  intro p e s m args below meth c s₁ B hml hv
  obtain ⟨rfl, hsz, hP, K, hN, hD0⟩ := hv
  have hr := B.returns
  have hk := B.notSynchronized
  have hin : meth.name = "<init>" := (name_of_methodNamed B.named B.method).1
  have hts0 := atoms_spec (ws := Cond.code yX1_init cX1_init 1 none :: WA) B.pre
  have S : CallFix p m c cX1_init 1 s ([.ref h] : List Value).toArray WA RX1 := ⟨B.exec, B.bytes, hml, findClass_of_methodNamed B.named, fun w h => hts0 w (List.mem_cons_of_mem _ h)⟩
  subst hsz
  have hD := hD0.self (sz := s.heap.size)
  skip
  generalize hAe : va_A [(h, .inr (1, [.null, .int 0, .int 0, .int 0, .int 0, .int 0, .int 0]))] s.heap.size = A at hD ⊢
  have hA : ∀ q : Nat, s.heap.size ≤ q → A q := fun q h => by rw [← hAe]; exact Or.inr h
  have hS : va_S A s.heap s.heap [] := va_S.rf
  have hl := lv_entry ([.ref h]) (n := 1) (Nat.le_of_ble_eq_true rfl)
  rw [lg_entry_eq]
  generalize (lg_sl ([.ref h]) ++ List.replicate (1 - (lg_sl ([.ref h])).length) Slot.unset).toArray = ls at hl ⊢
  have hl : lv_has ls 1 [(0, .ref h)] := hl
  refine lv_aload_n S.1 S.2.1 dX1_init_0 rfl (lv_at hl 0 rfl) ?_
  refine W.objInit S.1 S.2.1 S.2.2.2.1 (S.2.2.2.2 _ ui_56) (S.2.2.2.2 _ ui_7) (S.2.2.2.2 _ ui_8) rfl (hl.1.trans S.2.2.1.symm) rfl dX1_init_1 (Nat.le_of_ble_eq_true rfl) (Nat.le_of_ble_eq_true rfl) ?_
  refine W.eq (g2 := F0 m 4 ls []) rfl ?_
  refine lv_aload_n S.1 S.2.1 dX1_init_4 rfl (lv_at hl 0 rfl) ?_
  refine lv_bipush (v := nI 32) S.1 S.2.1 dX1_init_5 (by decide) ?_
  refine va_newa (atype := .int) S.1 S.2.1 (S.2.2.2.2 _ ui_28) rfl K hP hD hS hA (a0 := (32, .inl (fun _ => 0))) (fun _ => rfl) (nI_pos (n := 32) (by omega)) (nI_clamp (n := 32) (by omega)) (by decide) (Nat.le_of_ble_eq_true rfl) (Nat.le_of_ble_eq_true rfl) dX1_init_7 (fun q1 cA H2 K2 hP hD hS => ?_)
  obtain rfl : cI = cA := ((z_same K2).1 rfl).symm
  have hP : va_P D vwCl [(h, .inr (1, [.null, .int 0, .int 0, .int 0, .int 0, .int 0, .int 0])), (q1, .inl (cI, 32, .inl (fun _ => 0)))] H2 := hP
  have hD : va_D A [(h, .inr (1, [.null, .int 0, .int 0, .int 0, .int 0, .int 0, .int 0])), (q1, .inl (cI, 32, .inl (fun _ => 0)))] := hD
  refine W.widen (k := 1) (n := 32) (by omega) (by omega) ?_
  refine va_putF (D := D) (ci := 1) (v := .ref q1) (ty := .array .int) (C := RX1) (T := TX1) (N := 7) S.1 S.2.1 S.2.2.2.2 inlX1 tyX1 tyX1_ok nmX1 S.2.2.2.1 K hP hD hS 0 rfl rfl 0 (by decide) (S.2.2.2.2 _ ui_57) (fun _ h9 => h9) rfl hin rfl (by decide +kernel) rfl rfl (Nat.le_of_ble_eq_true rfl) dX1_init_9 (fun H3 locs hP hD hS => ?_)
  have hP : va_P D vwCl [(h, .inr (1, [.ref q1, .int 0, .int 0, .int 0, .int 0, .int 0, .int 0])), (q1, .inl (cI, 32, .inl (fun _ => 0)))] H3 := hP
  have hD : va_D A [(h, .inr (1, [.ref q1, .int 0, .int 0, .int 0, .int 0, .int 0, .int 0])), (q1, .inl (cI, 32, .inl (fun _ => 0)))] := hD
  have hP9 := hP.sub (ws' := wI_X1 (fun k => [h, q1].getD k 0) cI) [0, 1] rfl
  have hD9 := hD.sub (ws' := wI_X1 (fun k => [h, q1].getD k 0) cI) [0, 1] (by decide) rfl
  refine W.widen (k := 1) (n := 32) (by omega) (by omega) ?_
  exact W.vret S.1 S.2.1 hr (fun t ht hW => ⟨⟨(fun k => [h, q1].getD k 0), rfl, rfl, by rw [ht]; exact hP9, va_K.moved hW.alike K, hD9⟩, hS.F ht⟩) hS.2.2 dX1_init_12 (hlocks := hk)
def wI_X7 (u : Nat → Nat) (cI : ClassId) : va_W := [(u 0, .inr (6, [.ref (u 1), .ref (u 2), .ref (u 3)])), (u 1, .inl (cI, 6, .inl (fun _ => 0))), (u 2, .inl (cI, 6, .inl (fun _ => 0))), (u 3, .inl (cI, 6, .inl (fun _ => 0)))]
theorem ui_60 : Cond.methodLink RX7 3 objectInit ∈ WA := z_in0 _ (List.mem_of_getElem? (i := 60) (by decide +kernel))
theorem ui_61 : Cond.fieldLink RX7 9 "CacheDiary$Requests" "line" "[I" ∈ WA := z_in0 _ (List.mem_of_getElem? (i := 61) (by decide +kernel))
theorem ui_62 : Cond.fieldLink RX7 15 "CacheDiary$Requests" "value" "[I" ∈ WA := z_in0 _ (List.mem_of_getElem? (i := 62) (by decide +kernel))
theorem ui_63 : Cond.fieldLink RX7 18 "CacheDiary$Requests" "putOff" "[I" ∈ WA := z_in0 _ (List.mem_of_getElem? (i := 63) (by decide +kernel))
def rmX7_init : Room := { frames := 1, cells := 3, slots := 18, locals := 12 }
def pc_X7_init (D : va_G) (cI cB cM : ClassId) (h sz : Nat) : Array Value → State → Prop := va_Pc [.ref h] (fun U => U.heap.size = sz ∧ va_P D vwCl [(h, .inr (6, [.null, .null, .null]))] U.heap ∧ va_K D vwCl (tysQ cI cB cM) U ∧ xN U ∧ va_D (fun _ => True) [(h, .inr (6, [.null, .null, .null]))])
theorem blind_X7_init (D : va_G) (cI cB cM : ClassId) (h sz : Nat) : FrameBlind (pc_X7_init D cI cB cM h sz) := fun b U g mk q => by
  obtain ⟨q0, q1, qP, qK, qN, qD⟩ := q
  exact ⟨q0, q1, qP, va_K.moved (u := U) (U := U.calling g mk b) (Vm.Alike.refl U.vm) qK, xN.same (u := U) (U := U.calling g mk b) rfl qN, qD⟩
set_option maxHeartbeats 4000000 in
set_option maxRecDepth 100000 in
theorem metX7_init (l : Launch) (D : va_G) (cI cB cM : ClassId) (h sz : Nat) : Met l yX7_init (Cond.code yX7_init cX7_init 1 none :: WA) rmX7_init (pc_X7_init D cI cB cM h sz) (va_Qv (fun u : Nat → Nat => u 0 = h) (fun u t => va_P D vwCl (wI_X7 u cI) t.heap ∧ va_K D vwCl (tysQ cI cB cM) t ∧ va_D (va_A [(h, .inr (6, [.null, .null, .null]))] sz) (wI_X7 u cI)) (va_A [(h, .inr (6, [.null, .null, .null]))] sz)) 3 18 (va_A [(h, .inr (6, [.null, .null, .null]))] sz) := by
  refine Met.ofW (cc := cX7_init) (maxL := 1) (ret := none) (by decide) rfl ?_
  intro p e s m args below meth c s₁ B hml hv
  obtain ⟨rfl, hsz, hP, K, hN, hD0⟩ := hv
  have hr := B.returns
  have hk := B.notSynchronized
  have hin : meth.name = "<init>" := (name_of_methodNamed B.named B.method).1
  have hts0 := atoms_spec (ws := Cond.code yX7_init cX7_init 1 none :: WA) B.pre
  have S : CallFix p m c cX7_init 1 s ([.ref h] : List Value).toArray WA RX7 := ⟨B.exec, B.bytes, hml, findClass_of_methodNamed B.named, fun w h => hts0 w (List.mem_cons_of_mem _ h)⟩
  subst hsz
  have hD := hD0.self (sz := s.heap.size)
  skip
  generalize hAe : va_A [(h, .inr (6, [.null, .null, .null]))] s.heap.size = A at hD ⊢
  have hA : ∀ q : Nat, s.heap.size ≤ q → A q := fun q h => by rw [← hAe]; exact Or.inr h
  have hS : va_S A s.heap s.heap [] := va_S.rf
  have hl := lv_entry ([.ref h]) (n := 1) (Nat.le_of_ble_eq_true rfl)
  rw [lg_entry_eq]
  generalize (lg_sl ([.ref h]) ++ List.replicate (1 - (lg_sl ([.ref h])).length) Slot.unset).toArray = ls at hl ⊢
  have hl : lv_has ls 1 [(0, .ref h)] := hl
  refine lv_aload_n S.1 S.2.1 dX7_init_0 rfl (lv_at hl 0 rfl) ?_
  refine W.objInit S.1 S.2.1 S.2.2.2.1 (S.2.2.2.2 _ ui_60) (S.2.2.2.2 _ ui_7) (S.2.2.2.2 _ ui_8) rfl (hl.1.trans S.2.2.1.symm) rfl dX7_init_1 (Nat.le_of_ble_eq_true rfl) (Nat.le_of_ble_eq_true rfl) ?_
  refine W.eq (g2 := F0 m 4 ls []) rfl ?_
  refine lv_aload_n S.1 S.2.1 dX7_init_4 rfl (lv_at hl 0 rfl) ?_
  refine lv_bipush (v := nI 6) S.1 S.2.1 dX7_init_5 (by decide) ?_
  refine va_newa (atype := .int) S.1 S.2.1 (S.2.2.2.2 _ ui_28) rfl K hP hD hS hA (a0 := (6, .inl (fun _ => 0))) (fun _ => rfl) (nI_pos (n := 6) (by omega)) (nI_clamp (n := 6) (by omega)) (by decide) (Nat.le_of_ble_eq_true rfl) (Nat.le_of_ble_eq_true rfl) dX7_init_7 (fun q1 cA H2 K2 hP hD hS => ?_)
  obtain rfl : cI = cA := ((z_same K2).1 rfl).symm
  have hP : va_P D vwCl [(h, .inr (6, [.null, .null, .null])), (q1, .inl (cI, 6, .inl (fun _ => 0)))] H2 := hP
  have hD : va_D A [(h, .inr (6, [.null, .null, .null])), (q1, .inl (cI, 6, .inl (fun _ => 0)))] := hD
  refine W.widen (k := 1) (n := 6) (by omega) (by omega) ?_
  refine va_putF (D := D) (ci := 6) (v := .ref q1) (ty := .array .int) (C := RX7) (T := TX7) (N := 3) S.1 S.2.1 S.2.2.2.2 inlX7 tyX7 tyX7_ok nmX7 S.2.2.2.1 K hP hD hS 0 rfl rfl 0 (by decide) (S.2.2.2.2 _ ui_61) (fun _ h9 => h9) rfl hin rfl (by decide +kernel) rfl rfl (Nat.le_of_ble_eq_true rfl) dX7_init_9 (fun H3 locs hP hD hS => ?_)
  have hP : va_P D vwCl [(h, .inr (6, [.ref q1, .null, .null])), (q1, .inl (cI, 6, .inl (fun _ => 0)))] H3 := hP
  have hD : va_D A [(h, .inr (6, [.ref q1, .null, .null])), (q1, .inl (cI, 6, .inl (fun _ => 0)))] := hD
  refine lv_aload_n S.1 S.2.1 dX7_init_12 rfl (lv_at hl 0 rfl) ?_
  refine lv_bipush (v := nI 6) S.1 S.2.1 dX7_init_13 (by decide) ?_
  refine va_newa (atype := .int) S.1 S.2.1 (S.2.2.2.2 _ ui_28) rfl K hP hD hS hA (a0 := (6, .inl (fun _ => 0))) (fun _ => rfl) (nI_pos (n := 6) (by omega)) (nI_clamp (n := 6) (by omega)) (by decide) (Nat.le_of_ble_eq_true rfl) (Nat.le_of_ble_eq_true rfl) dX7_init_15 (fun q4 cA H5 K2 hP hD hS => ?_)
  obtain rfl : cI = cA := ((z_same K2).1 rfl).symm
  have hP : va_P D vwCl [(h, .inr (6, [.ref q1, .null, .null])), (q1, .inl (cI, 6, .inl (fun _ => 0))), (q4, .inl (cI, 6, .inl (fun _ => 0)))] H5 := hP
  have hD : va_D A [(h, .inr (6, [.ref q1, .null, .null])), (q1, .inl (cI, 6, .inl (fun _ => 0))), (q4, .inl (cI, 6, .inl (fun _ => 0)))] := hD
  refine W.widen (k := 2) (n := 12) (by omega) (by omega) ?_
  refine va_putF (D := D) (ci := 6) (v := .ref q4) (ty := .array .int) (C := RX7) (T := TX7) (N := 3) S.1 S.2.1 S.2.2.2.2 inlX7 tyX7 tyX7_ok nmX7 S.2.2.2.1 K hP hD hS 0 rfl rfl 1 (by decide) (S.2.2.2.2 _ ui_62) (fun _ h9 => h9) rfl hin rfl (by decide +kernel) rfl rfl (Nat.le_of_ble_eq_true rfl) dX7_init_17 (fun H6 locs hP hD hS => ?_)
  have hP : va_P D vwCl [(h, .inr (6, [.ref q1, .ref q4, .null])), (q1, .inl (cI, 6, .inl (fun _ => 0))), (q4, .inl (cI, 6, .inl (fun _ => 0)))] H6 := hP
  have hD : va_D A [(h, .inr (6, [.ref q1, .ref q4, .null])), (q1, .inl (cI, 6, .inl (fun _ => 0))), (q4, .inl (cI, 6, .inl (fun _ => 0)))] := hD
  refine lv_aload_n S.1 S.2.1 dX7_init_20 rfl (lv_at hl 0 rfl) ?_
  refine lv_bipush (v := nI 6) S.1 S.2.1 dX7_init_21 (by decide) ?_
  refine va_newa (atype := .int) S.1 S.2.1 (S.2.2.2.2 _ ui_28) rfl K hP hD hS hA (a0 := (6, .inl (fun _ => 0))) (fun _ => rfl) (nI_pos (n := 6) (by omega)) (nI_clamp (n := 6) (by omega)) (by decide) (Nat.le_of_ble_eq_true rfl) (Nat.le_of_ble_eq_true rfl) dX7_init_23 (fun q7 cA H8 K2 hP hD hS => ?_)
  obtain rfl : cI = cA := ((z_same K2).1 rfl).symm
  have hP : va_P D vwCl [(h, .inr (6, [.ref q1, .ref q4, .null])), (q1, .inl (cI, 6, .inl (fun _ => 0))), (q4, .inl (cI, 6, .inl (fun _ => 0))), (q7, .inl (cI, 6, .inl (fun _ => 0)))] H8 := hP
  have hD : va_D A [(h, .inr (6, [.ref q1, .ref q4, .null])), (q1, .inl (cI, 6, .inl (fun _ => 0))), (q4, .inl (cI, 6, .inl (fun _ => 0))), (q7, .inl (cI, 6, .inl (fun _ => 0)))] := hD
  refine W.widen (k := 3) (n := 18) (by omega) (by omega) ?_
  refine va_putF (D := D) (ci := 6) (v := .ref q7) (ty := .array .int) (C := RX7) (T := TX7) (N := 3) S.1 S.2.1 S.2.2.2.2 inlX7 tyX7 tyX7_ok nmX7 S.2.2.2.1 K hP hD hS 0 rfl rfl 2 (by decide) (S.2.2.2.2 _ ui_63) (fun _ h9 => h9) rfl hin rfl (by decide +kernel) rfl rfl (Nat.le_of_ble_eq_true rfl) dX7_init_25 (fun H9 locs hP hD hS => ?_)
  have hP : va_P D vwCl [(h, .inr (6, [.ref q1, .ref q4, .ref q7])), (q1, .inl (cI, 6, .inl (fun _ => 0))), (q4, .inl (cI, 6, .inl (fun _ => 0))), (q7, .inl (cI, 6, .inl (fun _ => 0)))] H9 := hP
  have hD : va_D A [(h, .inr (6, [.ref q1, .ref q4, .ref q7])), (q1, .inl (cI, 6, .inl (fun _ => 0))), (q4, .inl (cI, 6, .inl (fun _ => 0))), (q7, .inl (cI, 6, .inl (fun _ => 0)))] := hD
  have hP9 := hP.sub (ws' := wI_X7 (fun k => [h, q1, q4, q7].getD k 0) cI) [0, 1, 2, 3] rfl
  have hD9 := hD.sub (ws' := wI_X7 (fun k => [h, q1, q4, q7].getD k 0) cI) [0, 1, 2, 3] (by decide) rfl
  refine W.widen (k := 3) (n := 18) (by omega) (by omega) ?_
  exact W.vret S.1 S.2.1 hr (fun t ht hW => ⟨⟨(fun k => [h, q1, q4, q7].getD k 0), rfl, rfl, by rw [ht]; exact hP9, va_K.moved hW.alike K, hD9⟩, hS.F ht⟩) hS.2.2 dX7_init_28 (hlocks := hk)
def wI_X3 (u : Nat → Nat) (cI : ClassId) : va_W := [(u 0, .inr (3, [.ref (u 1), .int 0])), (u 1, .inl (cI, 72, .inl (fun _ => 0)))]
theorem ui_66 : Cond.methodLink RX3 3 objectInit ∈ WA := z_in0 _ (List.mem_of_getElem? (i := 66) (by decide +kernel))
theorem ui_67 : Cond.fieldLink RX3 9 "CacheDiary$Log" "facts" "[I" ∈ WA := z_in0 _ (List.mem_of_getElem? (i := 67) (by decide +kernel))
def rmX3_init : Room := { frames := 1, cells := 1, slots := 72, locals := 12 }
def pc_X3_init (D : va_G) (cI cB cM : ClassId) (h sz : Nat) : Array Value → State → Prop := va_Pc [.ref h] (fun U => U.heap.size = sz ∧ va_P D vwCl [(h, .inr (3, [.null, .int 0]))] U.heap ∧ va_K D vwCl (tysQ cI cB cM) U ∧ xN U ∧ va_D (fun _ => True) [(h, .inr (3, [.null, .int 0]))])
theorem blind_X3_init (D : va_G) (cI cB cM : ClassId) (h sz : Nat) : FrameBlind (pc_X3_init D cI cB cM h sz) := fun b U g mk q => by
  obtain ⟨q0, q1, qP, qK, qN, qD⟩ := q
  exact ⟨q0, q1, qP, va_K.moved (u := U) (U := U.calling g mk b) (Vm.Alike.refl U.vm) qK, xN.same (u := U) (U := U.calling g mk b) rfl qN, qD⟩
set_option maxHeartbeats 4000000 in
set_option maxRecDepth 100000 in
theorem metX3_init (l : Launch) (D : va_G) (cI cB cM : ClassId) (h sz : Nat) : Met l yX3_init (Cond.code yX3_init cX3_init 1 none :: WA) rmX3_init (pc_X3_init D cI cB cM h sz) (va_Qv (fun u : Nat → Nat => u 0 = h) (fun u t => va_P D vwCl (wI_X3 u cI) t.heap ∧ va_K D vwCl (tysQ cI cB cM) t ∧ va_D (va_A [(h, .inr (3, [.null, .int 0]))] sz) (wI_X3 u cI)) (va_A [(h, .inr (3, [.null, .int 0]))] sz)) 1 72 (va_A [(h, .inr (3, [.null, .int 0]))] sz) := by
  refine Met.ofW (cc := cX3_init) (maxL := 1) (ret := none) (by decide) rfl ?_
  intro p e s m args below meth c s₁ B hml hv
  obtain ⟨rfl, hsz, hP, K, hN, hD0⟩ := hv
  have hr := B.returns
  have hk := B.notSynchronized
  have hin : meth.name = "<init>" := (name_of_methodNamed B.named B.method).1
  have hts0 := atoms_spec (ws := Cond.code yX3_init cX3_init 1 none :: WA) B.pre
  have S : CallFix p m c cX3_init 1 s ([.ref h] : List Value).toArray WA RX3 := ⟨B.exec, B.bytes, hml, findClass_of_methodNamed B.named, fun w h => hts0 w (List.mem_cons_of_mem _ h)⟩
  subst hsz
  have hD := hD0.self (sz := s.heap.size)
  skip
  generalize hAe : va_A [(h, .inr (3, [.null, .int 0]))] s.heap.size = A at hD ⊢
  have hA : ∀ q : Nat, s.heap.size ≤ q → A q := fun q h => by rw [← hAe]; exact Or.inr h
  have hS : va_S A s.heap s.heap [] := va_S.rf
  have hl := lv_entry ([.ref h]) (n := 1) (Nat.le_of_ble_eq_true rfl)
  rw [lg_entry_eq]
  generalize (lg_sl ([.ref h]) ++ List.replicate (1 - (lg_sl ([.ref h])).length) Slot.unset).toArray = ls at hl ⊢
  have hl : lv_has ls 1 [(0, .ref h)] := hl
  refine lv_aload_n S.1 S.2.1 dX3_init_0 rfl (lv_at hl 0 rfl) ?_
  refine W.objInit S.1 S.2.1 S.2.2.2.1 (S.2.2.2.2 _ ui_66) (S.2.2.2.2 _ ui_7) (S.2.2.2.2 _ ui_8) rfl (hl.1.trans S.2.2.1.symm) rfl dX3_init_1 (Nat.le_of_ble_eq_true rfl) (Nat.le_of_ble_eq_true rfl) ?_
  refine W.eq (g2 := F0 m 4 ls []) rfl ?_
  refine lv_aload_n S.1 S.2.1 dX3_init_4 rfl (lv_at hl 0 rfl) ?_
  refine lv_bipush (v := nI 72) S.1 S.2.1 dX3_init_5 (by decide) ?_
  refine va_newa (atype := .int) S.1 S.2.1 (S.2.2.2.2 _ ui_28) rfl K hP hD hS hA (a0 := (72, .inl (fun _ => 0))) (fun _ => rfl) (nI_pos (n := 72) (by omega)) (nI_clamp (n := 72) (by omega)) (by decide) (Nat.le_of_ble_eq_true rfl) (Nat.le_of_ble_eq_true rfl) dX3_init_7 (fun q1 cA H2 K2 hP hD hS => ?_)
  obtain rfl : cI = cA := ((z_same K2).1 rfl).symm
  have hP : va_P D vwCl [(h, .inr (3, [.null, .int 0])), (q1, .inl (cI, 72, .inl (fun _ => 0)))] H2 := hP
  have hD : va_D A [(h, .inr (3, [.null, .int 0])), (q1, .inl (cI, 72, .inl (fun _ => 0)))] := hD
  refine W.widen (k := 1) (n := 72) (by omega) (by omega) ?_
  refine va_putF (D := D) (ci := 3) (v := .ref q1) (ty := .array .int) (C := RX3) (T := TX3) (N := 2) S.1 S.2.1 S.2.2.2.2 inlX3 tyX3 tyX3_ok nmX3 S.2.2.2.1 K hP hD hS 0 rfl rfl 0 (by decide) (S.2.2.2.2 _ ui_67) (fun _ h9 => h9) rfl hin rfl (by decide +kernel) rfl rfl (Nat.le_of_ble_eq_true rfl) dX3_init_9 (fun H3 locs hP hD hS => ?_)
  have hP : va_P D vwCl [(h, .inr (3, [.ref q1, .int 0])), (q1, .inl (cI, 72, .inl (fun _ => 0)))] H3 := hP
  have hD : va_D A [(h, .inr (3, [.ref q1, .int 0])), (q1, .inl (cI, 72, .inl (fun _ => 0)))] := hD
  have hP9 := hP.sub (ws' := wI_X3 (fun k => [h, q1].getD k 0) cI) [0, 1] rfl
  have hD9 := hD.sub (ws' := wI_X3 (fun k => [h, q1].getD k 0) cI) [0, 1] (by decide) rfl
  refine W.widen (k := 1) (n := 72) (by omega) (by omega) ?_
  exact W.vret S.1 S.2.1 hr (fun t ht hW => ⟨⟨(fun k => [h, q1].getD k 0), rfl, rfl, by rw [ht]; exact hP9, va_K.moved hW.alike K, hD9⟩, hS.F ht⟩) hS.2.2 dX3_init_12 (hlocks := hk)
theorem ui_27 : Cond.methodLink RX4 3 objectInit ∈ WA := z_in0 _ (List.mem_of_getElem? (i := 27) (by decide +kernel))
theorem ui_29 : Cond.fieldLink RX4 9 "CacheDiary$Machine" "memory" "[I" ∈ WA := z_in0 _ (List.mem_of_getElem? (i := 29) (by decide +kernel))
theorem ui_30 : Cond.fieldLink RX4 15 "CacheDiary$Machine" "lastWritten" "[I" ∈ WA := z_in0 _ (List.mem_of_getElem? (i := 30) (by decide +kernel))
theorem ui_31 : Cond.classLink RX4 18 RX0 ∈ WA := z_in0 _ (List.mem_of_getElem? (i := 31) (by decide +kernel))
theorem ui_32 : Cond.instantiable RX0 5 ∈ WA := z_in0 _ (List.mem_of_getElem? (i := 32) (by decide +kernel))
theorem ui_33 : Cond.initialized RX0 ∈ WA := z_in0 _ (List.mem_of_getElem? (i := 33) (by decide +kernel))
theorem ui_48 : Cond.code yX0_init cX0_init 1 none ∈ WA := z_in0 _ (List.mem_of_getElem? (i := 48) (by decide +kernel))
theorem ui_47 : Cond.instanceMethod yX0_init ∈ WA := z_in0 _ (List.mem_of_getElem? (i := 47) (by decide +kernel))
theorem ui_34 : Cond.fieldLink RX4 21 "CacheDiary$Machine" "copies" "LCacheDiary$Copies;" ∈ WA := z_in0 _ (List.mem_of_getElem? (i := 34) (by decide +kernel))
theorem ui_35 : Cond.classLink RX4 25 RX1 ∈ WA := z_in0 _ (List.mem_of_getElem? (i := 35) (by decide +kernel))
theorem ui_36 : Cond.instantiable RX1 7 ∈ WA := z_in0 _ (List.mem_of_getElem? (i := 36) (by decide +kernel))
theorem ui_37 : Cond.initialized RX1 ∈ WA := z_in0 _ (List.mem_of_getElem? (i := 37) (by decide +kernel))
theorem ui_55 : Cond.code yX1_init cX1_init 1 none ∈ WA := z_in0 _ (List.mem_of_getElem? (i := 55) (by decide +kernel))
theorem ui_54 : Cond.instanceMethod yX1_init ∈ WA := z_in0 _ (List.mem_of_getElem? (i := 54) (by decide +kernel))
theorem ui_38 : Cond.fieldLink RX4 28 "CacheDiary$Machine" "diary" "LCacheDiary$Diary;" ∈ WA := z_in0 _ (List.mem_of_getElem? (i := 38) (by decide +kernel))
theorem ui_39 : Cond.classLink RX4 32 RX7 ∈ WA := z_in0 _ (List.mem_of_getElem? (i := 39) (by decide +kernel))
theorem ui_40 : Cond.instantiable RX7 3 ∈ WA := z_in0 _ (List.mem_of_getElem? (i := 40) (by decide +kernel))
theorem ui_41 : Cond.initialized RX7 ∈ WA := z_in0 _ (List.mem_of_getElem? (i := 41) (by decide +kernel))
theorem ui_59 : Cond.code yX7_init cX7_init 1 none ∈ WA := z_in0 _ (List.mem_of_getElem? (i := 59) (by decide +kernel))
theorem ui_58 : Cond.instanceMethod yX7_init ∈ WA := z_in0 _ (List.mem_of_getElem? (i := 58) (by decide +kernel))
theorem ui_42 : Cond.fieldLink RX4 35 "CacheDiary$Machine" "requests" "LCacheDiary$Requests;" ∈ WA := z_in0 _ (List.mem_of_getElem? (i := 42) (by decide +kernel))
theorem ui_43 : Cond.classLink RX4 39 RX3 ∈ WA := z_in0 _ (List.mem_of_getElem? (i := 43) (by decide +kernel))
theorem ui_44 : Cond.instantiable RX3 2 ∈ WA := z_in0 _ (List.mem_of_getElem? (i := 44) (by decide +kernel))
theorem ui_45 : Cond.initialized RX3 ∈ WA := z_in0 _ (List.mem_of_getElem? (i := 45) (by decide +kernel))
theorem ui_65 : Cond.code yX3_init cX3_init 1 none ∈ WA := z_in0 _ (List.mem_of_getElem? (i := 65) (by decide +kernel))
theorem ui_64 : Cond.instanceMethod yX3_init ∈ WA := z_in0 _ (List.mem_of_getElem? (i := 64) (by decide +kernel))
theorem ui_46 : Cond.fieldLink RX4 42 "CacheDiary$Machine" "log" "LCacheDiary$Log;" ∈ WA := z_in0 _ (List.mem_of_getElem? (i := 46) (by decide +kernel))
def rmX4_init : Room := { frames := 2, cells := 15, slots := 971, locals := 32 }
def pc_X4_init (D : va_G) (cI cB cM : ClassId) (h sz : Nat) : Array Value → State → Prop := va_Pc [.ref h] (fun U => U.heap.size = sz ∧ va_P D vwCl [(h, .inr (4, [.null, .null, .null, .null, .null, .null, .int 0, .int 0, .int 0, .int 0, .int 0, .int 0, .int 0, .int 0]))] U.heap ∧ va_K D vwCl (tysQ cI cB cM) U ∧ xN U ∧ va_D (fun _ => True) [(h, .inr (4, [.null, .null, .null, .null, .null, .null, .int 0, .int 0, .int 0, .int 0, .int 0, .int 0, .int 0, .int 0]))])
theorem blind_X4_init (D : va_G) (cI cB cM : ClassId) (h sz : Nat) : FrameBlind (pc_X4_init D cI cB cM h sz) := fun b U g mk q => by
  obtain ⟨q0, q1, qP, qK, qN, qD⟩ := q
  exact ⟨q0, q1, qP, va_K.moved (u := U) (U := U.calling g mk b) (Vm.Alike.refl U.vm) qK, xN.same (u := U) (U := U.calling g mk b) rfl qN, qD⟩
set_option maxHeartbeats 4000000 in
set_option maxRecDepth 100000 in
theorem metX4_init (l : Launch) (D : va_G) (cI cB cM : ClassId) (h sz : Nat) : Met l yX4_init (Cond.code yX4_init cX4_init 1 none :: WA) rmX4_init (pc_X4_init D cI cB cM h sz) (va_Qv (fun u : Nat → Nat => u 0 = h) (fun u t => va_P D vwCl (wG u cI z0) t.heap ∧ va_K D vwCl (tysQ cI cB cM) t ∧ va_D (va_A [(h, .inr (4, [.null, .null, .null, .null, .null, .null, .int 0, .int 0, .int 0, .int 0, .int 0, .int 0, .int 0, .int 0]))] sz) (wG u cI z0)) (va_A [(h, .inr (4, [.null, .null, .null, .null, .null, .null, .int 0, .int 0, .int 0, .int 0, .int 0, .int 0, .int 0, .int 0]))] sz)) 15 971 (va_A [(h, .inr (4, [.null, .null, .null, .null, .null, .null, .int 0, .int 0, .int 0, .int 0, .int 0, .int 0, .int 0, .int 0]))] sz) := by
  refine Met.ofW (cc := cX4_init) (maxL := 1) (ret := none) (by decide) rfl ?_
  intro p e s m args below meth c s₁ B hml hv
  obtain ⟨rfl, hsz, hP, K, hN, hD0⟩ := hv
  have hr := B.returns
  have hk := B.notSynchronized
  have hin : meth.name = "<init>" := (name_of_methodNamed B.named B.method).1
  have hts0 := atoms_spec (ws := Cond.code yX4_init cX4_init 1 none :: WA) B.pre
  have S : CallFix p m c cX4_init 1 s ([.ref h] : List Value).toArray WA RX4 := ⟨B.exec, B.bytes, hml, findClass_of_methodNamed B.named, fun w h => hts0 w (List.mem_cons_of_mem _ h)⟩
  subst hsz
  have hD := hD0.self (sz := s.heap.size)
  skip
  generalize hAe : va_A [(h, .inr (4, [.null, .null, .null, .null, .null, .null, .int 0, .int 0, .int 0, .int 0, .int 0, .int 0, .int 0, .int 0]))] s.heap.size = A at hD ⊢
  have hA : ∀ q : Nat, s.heap.size ≤ q → A q := fun q h => by rw [← hAe]; exact Or.inr h
  have hS : va_S A s.heap s.heap [] := va_S.rf
  have hl := lv_entry ([.ref h]) (n := 1) (Nat.le_of_ble_eq_true rfl)
  rw [lg_entry_eq]
  generalize (lg_sl ([.ref h]) ++ List.replicate (1 - (lg_sl ([.ref h])).length) Slot.unset).toArray = ls at hl ⊢
  have hl : lv_has ls 1 [(0, .ref h)] := hl
  refine lv_aload_n S.1 S.2.1 dX4_init_0 rfl (lv_at hl 0 rfl) ?_
  refine W.objInit S.1 S.2.1 S.2.2.2.1 (S.2.2.2.2 _ ui_27) (S.2.2.2.2 _ ui_7) (S.2.2.2.2 _ ui_8) rfl (hl.1.trans S.2.2.1.symm) rfl dX4_init_1 (Nat.le_of_ble_eq_true rfl) (Nat.le_of_ble_eq_true rfl) ?_
  refine W.eq (g2 := F0 m 4 ls []) rfl ?_
  refine lv_aload_n S.1 S.2.1 dX4_init_4 rfl (lv_at hl 0 rfl) ?_
  refine lv_bipush (v := nI 32) S.1 S.2.1 dX4_init_5 (by decide) ?_
  refine va_newa (atype := .int) S.1 S.2.1 (S.2.2.2.2 _ ui_28) rfl K hP hD hS hA (a0 := (32, .inl (fun _ => 0))) (fun _ => rfl) (nI_pos (n := 32) (by omega)) (nI_clamp (n := 32) (by omega)) (by decide) (Nat.le_of_ble_eq_true rfl) (Nat.le_of_ble_eq_true rfl) dX4_init_7 (fun q1 cA H2 K2 hP hD hS => ?_)
  obtain rfl : cI = cA := ((z_same K2).1 rfl).symm
  have hP : va_P D vwCl [(h, .inr (4, [.null, .null, .null, .null, .null, .null, .int 0, .int 0, .int 0, .int 0, .int 0, .int 0, .int 0, .int 0])), (q1, .inl (cI, 32, .inl (fun _ => 0)))] H2 := hP
  have hD : va_D A [(h, .inr (4, [.null, .null, .null, .null, .null, .null, .int 0, .int 0, .int 0, .int 0, .int 0, .int 0, .int 0, .int 0])), (q1, .inl (cI, 32, .inl (fun _ => 0)))] := hD
  refine W.widen (k := 1) (n := 32) (by omega) (by omega) ?_
  refine va_putF (D := D) (ci := 4) (v := .ref q1) (ty := .array .int) (C := RX4) (T := TX4) (N := 14) S.1 S.2.1 S.2.2.2.2 inlX4 tyX4 tyX4_ok nmX4 S.2.2.2.1 K hP hD hS 0 rfl rfl 0 (by decide) (S.2.2.2.2 _ ui_29) (fun _ h9 => h9) rfl hin rfl (by decide +kernel) rfl rfl (Nat.le_of_ble_eq_true rfl) dX4_init_9 (fun H3 locs hP hD hS => ?_)
  have hP : va_P D vwCl [(h, .inr (4, [.ref q1, .null, .null, .null, .null, .null, .int 0, .int 0, .int 0, .int 0, .int 0, .int 0, .int 0, .int 0])), (q1, .inl (cI, 32, .inl (fun _ => 0)))] H3 := hP
  have hD : va_D A [(h, .inr (4, [.ref q1, .null, .null, .null, .null, .null, .int 0, .int 0, .int 0, .int 0, .int 0, .int 0, .int 0, .int 0])), (q1, .inl (cI, 32, .inl (fun _ => 0)))] := hD
  refine lv_aload_n S.1 S.2.1 dX4_init_12 rfl (lv_at hl 0 rfl) ?_
  refine lv_bipush (v := nI 32) S.1 S.2.1 dX4_init_13 (by decide) ?_
  refine va_newa (atype := .int) S.1 S.2.1 (S.2.2.2.2 _ ui_28) rfl K hP hD hS hA (a0 := (32, .inl (fun _ => 0))) (fun _ => rfl) (nI_pos (n := 32) (by omega)) (nI_clamp (n := 32) (by omega)) (by decide) (Nat.le_of_ble_eq_true rfl) (Nat.le_of_ble_eq_true rfl) dX4_init_15 (fun q4 cA H5 K2 hP hD hS => ?_)
  obtain rfl : cI = cA := ((z_same K2).1 rfl).symm
  have hP : va_P D vwCl [(h, .inr (4, [.ref q1, .null, .null, .null, .null, .null, .int 0, .int 0, .int 0, .int 0, .int 0, .int 0, .int 0, .int 0])), (q1, .inl (cI, 32, .inl (fun _ => 0))), (q4, .inl (cI, 32, .inl (fun _ => 0)))] H5 := hP
  have hD : va_D A [(h, .inr (4, [.ref q1, .null, .null, .null, .null, .null, .int 0, .int 0, .int 0, .int 0, .int 0, .int 0, .int 0, .int 0])), (q1, .inl (cI, 32, .inl (fun _ => 0))), (q4, .inl (cI, 32, .inl (fun _ => 0)))] := hD
  refine W.widen (k := 2) (n := 64) (by omega) (by omega) ?_
  refine va_putF (D := D) (ci := 4) (v := .ref q4) (ty := .array .int) (C := RX4) (T := TX4) (N := 14) S.1 S.2.1 S.2.2.2.2 inlX4 tyX4 tyX4_ok nmX4 S.2.2.2.1 K hP hD hS 0 rfl rfl 1 (by decide) (S.2.2.2.2 _ ui_30) (fun _ h9 => h9) rfl hin rfl (by decide +kernel) rfl rfl (Nat.le_of_ble_eq_true rfl) dX4_init_17 (fun H6 locs hP hD hS => ?_)
  have hP : va_P D vwCl [(h, .inr (4, [.ref q1, .ref q4, .null, .null, .null, .null, .int 0, .int 0, .int 0, .int 0, .int 0, .int 0, .int 0, .int 0])), (q1, .inl (cI, 32, .inl (fun _ => 0))), (q4, .inl (cI, 32, .inl (fun _ => 0)))] H6 := hP
  have hD : va_D A [(h, .inr (4, [.ref q1, .ref q4, .null, .null, .null, .null, .int 0, .int 0, .int 0, .int 0, .int 0, .int 0, .int 0, .int 0])), (q1, .inl (cI, 32, .inl (fun _ => 0))), (q4, .inl (cI, 32, .inl (fun _ => 0)))] := hD
  refine lv_aload_n S.1 S.2.1 dX4_init_20 rfl (lv_at hl 0 rfl) ?_
  refine va_new (ci := 0) (fs := [.null, .null, .null, .null, .int 0]) (C := RX0) (T := TX0) (N := 5) S.1 S.2.1 S.2.2.2.2 inlX0 tyX0 tyX0_ok S.2.2.2.1 (S.2.2.2.2 _ ui_31) (S.2.2.2.2 _ ui_32) (S.2.2.2.2 _ ui_33) K hP hD hS hA rfl (fun j hj => by rcases (show j = 0 ∨ j = 1 ∨ j = 2 ∨ j = 3 ∨ j = 4 by omega) with rfl | rfl | rfl | rfl | rfl <;> rfl) (Nat.le_of_ble_eq_true rfl) (Nat.le_of_ble_eq_true rfl) dX4_init_21 (fun q7 H8 hP hD hS => ?_)
  have hP : va_P D vwCl [(h, .inr (4, [.ref q1, .ref q4, .null, .null, .null, .null, .int 0, .int 0, .int 0, .int 0, .int 0, .int 0, .int 0, .int 0])), (q1, .inl (cI, 32, .inl (fun _ => 0))), (q4, .inl (cI, 32, .inl (fun _ => 0))), (q7, .inr (0, [.null, .null, .null, .null, .int 0]))] H8 := hP
  have hD : va_D A [(h, .inr (4, [.ref q1, .ref q4, .null, .null, .null, .null, .int 0, .int 0, .int 0, .int 0, .int 0, .int 0, .int 0, .int 0])), (q1, .inl (cI, 32, .inl (fun _ => 0))), (q4, .inl (cI, 32, .inl (fun _ => 0))), (q7, .inr (0, [.null, .null, .null, .null, .int 0]))] := hD
  refine W.widen (k := 3) (n := 69) (by omega) (by omega) ?_
  refine lv_dup S.1 S.2.1 dX4_init_24 rfl ?_
  have hPc := hP.sub (ws' := [(q7, .inr (0, [.null, .null, .null, .null, .int 0]))]) [3] rfl
  have hDc := hD.sub (ws' := [(q7, .inr (0, [.null, .null, .null, .null, .int 0]))]) [3] (by decide) rfl
  have hFc := va_free (wc := [(q7, .inr (0, [.null, .null, .null, .null, .int 0]))]) hD hS hA [3] rfl
  refine va_callv (va_runIN (As := []) (rest := [.ref q7, .ref h]) S (metX0_init l D cI cB cM q7 H8.size) ⟨va_cnB 0 S.2.2.2.2 (z_goodc ui_48) rfl rfl rfl hN.2.2.2.2.1 (S.2.2.2.2 _ ui_33) (by decide +kernel) ⟨Nat.le_of_ble_eq_true rfl, Nat.le_of_ble_eq_true rfl⟩, rfl, S.2.2.2.2 _ ui_47⟩ ⟨blind_X0_init _ _ _ _ _ _, fun U hU hW => ⟨rfl, by rw [hU], by rw [hU]; exact hPc, va_K.moved hW.alike K, xN.warm hW hN, hDc.weaken (fun _ _ _ _ => trivial)⟩⟩ rfl rfl hl.1 rfl (lv_room (Nat.le_of_ble_eq_true rfl)) dX4_init_25 ⟨Nat.le_of_ble_eq_true rfl, Nat.le_of_ble_eq_true rfl⟩) hS (fun q _ h => hFc q h) hFc (fun u9 t H10 locs ht hvm hw hB hz1 hk1 hS => ?_)
  obtain ⟨hP1, hK1, hD1⟩ := hB
  rw [ht] at hP1
  obtain ⟨hPn, hDn⟩ := va_join (wr := [(h, .inr (4, [.ref q1, .ref q4, .null, .null, .null, .null, .int 0, .int 0, .int 0, .int 0, .int 0, .int 0, .int 0, .int 0])), (q1, .inl (cI, 32, .inl (fun _ => 0))), (q4, .inl (cI, 32, .inl (fun _ => 0)))]) (w1 := [(u9 0, .inr (0, [.ref (u9 1), .ref (u9 2), .ref (u9 3), .ref (u9 4), .int 0])), (u9 1, .inl (cI, 192, .inl (fun _ => 0))), (u9 2, .inl (cI, 192, .inl (fun _ => 0))), (u9 3, .inl (cI, 192, .inl (fun _ => 0))), (u9 4, .inl (cI, 192, .inl (fun _ => 0)))]) hP hD [3] [0, 1, 2] rfl rfl (by decide) (by decide) hk1 hFc hP1 hD1
  subst hw
  have hP : va_P D vwCl [(h, .inr (4, [.ref q1, .ref q4, .null, .null, .null, .null, .int 0, .int 0, .int 0, .int 0, .int 0, .int 0, .int 0, .int 0])), (q1, .inl (cI, 32, .inl (fun _ => 0))), (q4, .inl (cI, 32, .inl (fun _ => 0))), (u9 0, .inr (0, [.ref (u9 1), .ref (u9 2), .ref (u9 3), .ref (u9 4), .int 0])), (u9 1, .inl (cI, 192, .inl (fun _ => 0))), (u9 2, .inl (cI, 192, .inl (fun _ => 0))), (u9 3, .inl (cI, 192, .inl (fun _ => 0))), (u9 4, .inl (cI, 192, .inl (fun _ => 0)))] H10 := hPn
  have hD : va_D A [(h, .inr (4, [.ref q1, .ref q4, .null, .null, .null, .null, .int 0, .int 0, .int 0, .int 0, .int 0, .int 0, .int 0, .int 0])), (q1, .inl (cI, 32, .inl (fun _ => 0))), (q4, .inl (cI, 32, .inl (fun _ => 0))), (u9 0, .inr (0, [.ref (u9 1), .ref (u9 2), .ref (u9 3), .ref (u9 4), .int 0])), (u9 1, .inl (cI, 192, .inl (fun _ => 0))), (u9 2, .inl (cI, 192, .inl (fun _ => 0))), (u9 3, .inl (cI, 192, .inl (fun _ => 0))), (u9 4, .inl (cI, 192, .inl (fun _ => 0)))] := hDn
  refine W.widen (k := 7) (n := 837) (by omega) (by omega) ?_
  refine va_putF (D := D) (ci := 4) (v := .ref (u9 0)) (ty := .object "CacheDiary$Copies") (C := RX4) (T := TX4) (N := 14) S.1 S.2.1 S.2.2.2.2 inlX4 tyX4 tyX4_ok nmX4 S.2.2.2.1 K hP hD hS 0 rfl rfl 2 (by decide) (S.2.2.2.2 _ ui_34) (fun _ h9 => h9) rfl hin rfl (by decide +kernel) rfl rfl (Nat.le_of_ble_eq_true rfl) dX4_init_28 (fun H11 locs hP hD hS => ?_)
  have hP : va_P D vwCl [(h, .inr (4, [.ref q1, .ref q4, .ref (u9 0), .null, .null, .null, .int 0, .int 0, .int 0, .int 0, .int 0, .int 0, .int 0, .int 0])), (q1, .inl (cI, 32, .inl (fun _ => 0))), (q4, .inl (cI, 32, .inl (fun _ => 0))), (u9 0, .inr (0, [.ref (u9 1), .ref (u9 2), .ref (u9 3), .ref (u9 4), .int 0])), (u9 1, .inl (cI, 192, .inl (fun _ => 0))), (u9 2, .inl (cI, 192, .inl (fun _ => 0))), (u9 3, .inl (cI, 192, .inl (fun _ => 0))), (u9 4, .inl (cI, 192, .inl (fun _ => 0)))] H11 := hP
  have hD : va_D A [(h, .inr (4, [.ref q1, .ref q4, .ref (u9 0), .null, .null, .null, .int 0, .int 0, .int 0, .int 0, .int 0, .int 0, .int 0, .int 0])), (q1, .inl (cI, 32, .inl (fun _ => 0))), (q4, .inl (cI, 32, .inl (fun _ => 0))), (u9 0, .inr (0, [.ref (u9 1), .ref (u9 2), .ref (u9 3), .ref (u9 4), .int 0])), (u9 1, .inl (cI, 192, .inl (fun _ => 0))), (u9 2, .inl (cI, 192, .inl (fun _ => 0))), (u9 3, .inl (cI, 192, .inl (fun _ => 0))), (u9 4, .inl (cI, 192, .inl (fun _ => 0)))] := hD
  refine lv_aload_n S.1 S.2.1 dX4_init_31 rfl (lv_at hl 0 rfl) ?_
  refine va_new (ci := 1) (fs := [.null, .int 0, .int 0, .int 0, .int 0, .int 0, .int 0]) (C := RX1) (T := TX1) (N := 7) S.1 S.2.1 S.2.2.2.2 inlX1 tyX1 tyX1_ok S.2.2.2.1 (S.2.2.2.2 _ ui_35) (S.2.2.2.2 _ ui_36) (S.2.2.2.2 _ ui_37) K hP hD hS hA rfl (fun j hj => by rcases (show j = 0 ∨ j = 1 ∨ j = 2 ∨ j = 3 ∨ j = 4 ∨ j = 5 ∨ j = 6 by omega) with rfl | rfl | rfl | rfl | rfl | rfl | rfl <;> rfl) (Nat.le_of_ble_eq_true rfl) (Nat.le_of_ble_eq_true rfl) dX4_init_32 (fun q12 H13 hP hD hS => ?_)
  have hP : va_P D vwCl [(h, .inr (4, [.ref q1, .ref q4, .ref (u9 0), .null, .null, .null, .int 0, .int 0, .int 0, .int 0, .int 0, .int 0, .int 0, .int 0])), (q1, .inl (cI, 32, .inl (fun _ => 0))), (q4, .inl (cI, 32, .inl (fun _ => 0))), (u9 0, .inr (0, [.ref (u9 1), .ref (u9 2), .ref (u9 3), .ref (u9 4), .int 0])), (u9 1, .inl (cI, 192, .inl (fun _ => 0))), (u9 2, .inl (cI, 192, .inl (fun _ => 0))), (u9 3, .inl (cI, 192, .inl (fun _ => 0))), (u9 4, .inl (cI, 192, .inl (fun _ => 0))), (q12, .inr (1, [.null, .int 0, .int 0, .int 0, .int 0, .int 0, .int 0]))] H13 := hP
  have hD : va_D A [(h, .inr (4, [.ref q1, .ref q4, .ref (u9 0), .null, .null, .null, .int 0, .int 0, .int 0, .int 0, .int 0, .int 0, .int 0, .int 0])), (q1, .inl (cI, 32, .inl (fun _ => 0))), (q4, .inl (cI, 32, .inl (fun _ => 0))), (u9 0, .inr (0, [.ref (u9 1), .ref (u9 2), .ref (u9 3), .ref (u9 4), .int 0])), (u9 1, .inl (cI, 192, .inl (fun _ => 0))), (u9 2, .inl (cI, 192, .inl (fun _ => 0))), (u9 3, .inl (cI, 192, .inl (fun _ => 0))), (u9 4, .inl (cI, 192, .inl (fun _ => 0))), (q12, .inr (1, [.null, .int 0, .int 0, .int 0, .int 0, .int 0, .int 0]))] := hD
  refine W.widen (k := 8) (n := 844) (by omega) (by omega) ?_
  refine lv_dup S.1 S.2.1 dX4_init_35 rfl ?_
  have hPc := hP.sub (ws' := [(q12, .inr (1, [.null, .int 0, .int 0, .int 0, .int 0, .int 0, .int 0]))]) [8] rfl
  have hDc := hD.sub (ws' := [(q12, .inr (1, [.null, .int 0, .int 0, .int 0, .int 0, .int 0, .int 0]))]) [8] (by decide) rfl
  have hFc := va_free (wc := [(q12, .inr (1, [.null, .int 0, .int 0, .int 0, .int 0, .int 0, .int 0]))]) hD hS hA [8] rfl
  refine va_callv (va_runIN (As := []) (rest := [.ref q12, .ref h]) S (metX1_init l D cI cB cM q12 H13.size) ⟨va_cnB 0 S.2.2.2.2 (z_goodc ui_55) rfl rfl rfl hN.2.2.2.2.2.1 (S.2.2.2.2 _ ui_37) (by decide +kernel) ⟨Nat.le_of_ble_eq_true rfl, Nat.le_of_ble_eq_true rfl⟩, rfl, S.2.2.2.2 _ ui_54⟩ ⟨blind_X1_init _ _ _ _ _ _, fun U hU hW => ⟨rfl, by rw [hU], by rw [hU]; exact hPc, va_K.moved hW.alike K, xN.warm hW hN, hDc.weaken (fun _ _ _ _ => trivial)⟩⟩ rfl rfl hl.1 rfl (lv_room (Nat.le_of_ble_eq_true rfl)) dX4_init_36 ⟨Nat.le_of_ble_eq_true rfl, Nat.le_of_ble_eq_true rfl⟩) hS (fun q _ h => hFc q h) hFc (fun u14 t H15 locs ht hvm hw hB hz1 hk1 hS => ?_)
  obtain ⟨hP1, hK1, hD1⟩ := hB
  rw [ht] at hP1
  obtain ⟨hPn, hDn⟩ := va_join (wr := [(h, .inr (4, [.ref q1, .ref q4, .ref (u9 0), .null, .null, .null, .int 0, .int 0, .int 0, .int 0, .int 0, .int 0, .int 0, .int 0])), (q1, .inl (cI, 32, .inl (fun _ => 0))), (q4, .inl (cI, 32, .inl (fun _ => 0))), (u9 0, .inr (0, [.ref (u9 1), .ref (u9 2), .ref (u9 3), .ref (u9 4), .int 0])), (u9 1, .inl (cI, 192, .inl (fun _ => 0))), (u9 2, .inl (cI, 192, .inl (fun _ => 0))), (u9 3, .inl (cI, 192, .inl (fun _ => 0))), (u9 4, .inl (cI, 192, .inl (fun _ => 0)))]) (w1 := [(u14 0, .inr (1, [.ref (u14 1), .int 0, .int 0, .int 0, .int 0, .int 0, .int 0])), (u14 1, .inl (cI, 32, .inl (fun _ => 0)))]) hP hD [8] [0, 1, 2, 3, 4, 5, 6, 7] rfl rfl (by decide) (by decide) hk1 hFc hP1 hD1
  subst hw
  have hP : va_P D vwCl [(h, .inr (4, [.ref q1, .ref q4, .ref (u9 0), .null, .null, .null, .int 0, .int 0, .int 0, .int 0, .int 0, .int 0, .int 0, .int 0])), (q1, .inl (cI, 32, .inl (fun _ => 0))), (q4, .inl (cI, 32, .inl (fun _ => 0))), (u9 0, .inr (0, [.ref (u9 1), .ref (u9 2), .ref (u9 3), .ref (u9 4), .int 0])), (u9 1, .inl (cI, 192, .inl (fun _ => 0))), (u9 2, .inl (cI, 192, .inl (fun _ => 0))), (u9 3, .inl (cI, 192, .inl (fun _ => 0))), (u9 4, .inl (cI, 192, .inl (fun _ => 0))), (u14 0, .inr (1, [.ref (u14 1), .int 0, .int 0, .int 0, .int 0, .int 0, .int 0])), (u14 1, .inl (cI, 32, .inl (fun _ => 0)))] H15 := hPn
  have hD : va_D A [(h, .inr (4, [.ref q1, .ref q4, .ref (u9 0), .null, .null, .null, .int 0, .int 0, .int 0, .int 0, .int 0, .int 0, .int 0, .int 0])), (q1, .inl (cI, 32, .inl (fun _ => 0))), (q4, .inl (cI, 32, .inl (fun _ => 0))), (u9 0, .inr (0, [.ref (u9 1), .ref (u9 2), .ref (u9 3), .ref (u9 4), .int 0])), (u9 1, .inl (cI, 192, .inl (fun _ => 0))), (u9 2, .inl (cI, 192, .inl (fun _ => 0))), (u9 3, .inl (cI, 192, .inl (fun _ => 0))), (u9 4, .inl (cI, 192, .inl (fun _ => 0))), (u14 0, .inr (1, [.ref (u14 1), .int 0, .int 0, .int 0, .int 0, .int 0, .int 0])), (u14 1, .inl (cI, 32, .inl (fun _ => 0)))] := hDn
  refine W.widen (k := 9) (n := 876) (by omega) (by omega) ?_
  refine va_putF (D := D) (ci := 4) (v := .ref (u14 0)) (ty := .object "CacheDiary$Diary") (C := RX4) (T := TX4) (N := 14) S.1 S.2.1 S.2.2.2.2 inlX4 tyX4 tyX4_ok nmX4 S.2.2.2.1 K hP hD hS 0 rfl rfl 3 (by decide) (S.2.2.2.2 _ ui_38) (fun _ h9 => h9) rfl hin rfl (by decide +kernel) rfl rfl (Nat.le_of_ble_eq_true rfl) dX4_init_39 (fun H16 locs hP hD hS => ?_)
  have hP : va_P D vwCl [(h, .inr (4, [.ref q1, .ref q4, .ref (u9 0), .ref (u14 0), .null, .null, .int 0, .int 0, .int 0, .int 0, .int 0, .int 0, .int 0, .int 0])), (q1, .inl (cI, 32, .inl (fun _ => 0))), (q4, .inl (cI, 32, .inl (fun _ => 0))), (u9 0, .inr (0, [.ref (u9 1), .ref (u9 2), .ref (u9 3), .ref (u9 4), .int 0])), (u9 1, .inl (cI, 192, .inl (fun _ => 0))), (u9 2, .inl (cI, 192, .inl (fun _ => 0))), (u9 3, .inl (cI, 192, .inl (fun _ => 0))), (u9 4, .inl (cI, 192, .inl (fun _ => 0))), (u14 0, .inr (1, [.ref (u14 1), .int 0, .int 0, .int 0, .int 0, .int 0, .int 0])), (u14 1, .inl (cI, 32, .inl (fun _ => 0)))] H16 := hP
  have hD : va_D A [(h, .inr (4, [.ref q1, .ref q4, .ref (u9 0), .ref (u14 0), .null, .null, .int 0, .int 0, .int 0, .int 0, .int 0, .int 0, .int 0, .int 0])), (q1, .inl (cI, 32, .inl (fun _ => 0))), (q4, .inl (cI, 32, .inl (fun _ => 0))), (u9 0, .inr (0, [.ref (u9 1), .ref (u9 2), .ref (u9 3), .ref (u9 4), .int 0])), (u9 1, .inl (cI, 192, .inl (fun _ => 0))), (u9 2, .inl (cI, 192, .inl (fun _ => 0))), (u9 3, .inl (cI, 192, .inl (fun _ => 0))), (u9 4, .inl (cI, 192, .inl (fun _ => 0))), (u14 0, .inr (1, [.ref (u14 1), .int 0, .int 0, .int 0, .int 0, .int 0, .int 0])), (u14 1, .inl (cI, 32, .inl (fun _ => 0)))] := hD
  refine lv_aload_n S.1 S.2.1 dX4_init_42 rfl (lv_at hl 0 rfl) ?_
  refine va_new (ci := 6) (fs := [.null, .null, .null]) (C := RX7) (T := TX7) (N := 3) S.1 S.2.1 S.2.2.2.2 inlX7 tyX7 tyX7_ok S.2.2.2.1 (S.2.2.2.2 _ ui_39) (S.2.2.2.2 _ ui_40) (S.2.2.2.2 _ ui_41) K hP hD hS hA rfl (fun j hj => by rcases (show j = 0 ∨ j = 1 ∨ j = 2 by omega) with rfl | rfl | rfl <;> rfl) (Nat.le_of_ble_eq_true rfl) (Nat.le_of_ble_eq_true rfl) dX4_init_43 (fun q17 H18 hP hD hS => ?_)
  have hP : va_P D vwCl [(h, .inr (4, [.ref q1, .ref q4, .ref (u9 0), .ref (u14 0), .null, .null, .int 0, .int 0, .int 0, .int 0, .int 0, .int 0, .int 0, .int 0])), (q1, .inl (cI, 32, .inl (fun _ => 0))), (q4, .inl (cI, 32, .inl (fun _ => 0))), (u9 0, .inr (0, [.ref (u9 1), .ref (u9 2), .ref (u9 3), .ref (u9 4), .int 0])), (u9 1, .inl (cI, 192, .inl (fun _ => 0))), (u9 2, .inl (cI, 192, .inl (fun _ => 0))), (u9 3, .inl (cI, 192, .inl (fun _ => 0))), (u9 4, .inl (cI, 192, .inl (fun _ => 0))), (u14 0, .inr (1, [.ref (u14 1), .int 0, .int 0, .int 0, .int 0, .int 0, .int 0])), (u14 1, .inl (cI, 32, .inl (fun _ => 0))), (q17, .inr (6, [.null, .null, .null]))] H18 := hP
  have hD : va_D A [(h, .inr (4, [.ref q1, .ref q4, .ref (u9 0), .ref (u14 0), .null, .null, .int 0, .int 0, .int 0, .int 0, .int 0, .int 0, .int 0, .int 0])), (q1, .inl (cI, 32, .inl (fun _ => 0))), (q4, .inl (cI, 32, .inl (fun _ => 0))), (u9 0, .inr (0, [.ref (u9 1), .ref (u9 2), .ref (u9 3), .ref (u9 4), .int 0])), (u9 1, .inl (cI, 192, .inl (fun _ => 0))), (u9 2, .inl (cI, 192, .inl (fun _ => 0))), (u9 3, .inl (cI, 192, .inl (fun _ => 0))), (u9 4, .inl (cI, 192, .inl (fun _ => 0))), (u14 0, .inr (1, [.ref (u14 1), .int 0, .int 0, .int 0, .int 0, .int 0, .int 0])), (u14 1, .inl (cI, 32, .inl (fun _ => 0))), (q17, .inr (6, [.null, .null, .null]))] := hD
  refine W.widen (k := 10) (n := 879) (by omega) (by omega) ?_
  refine lv_dup S.1 S.2.1 dX4_init_46 rfl ?_
  have hPc := hP.sub (ws' := [(q17, .inr (6, [.null, .null, .null]))]) [10] rfl
  have hDc := hD.sub (ws' := [(q17, .inr (6, [.null, .null, .null]))]) [10] (by decide) rfl
  have hFc := va_free (wc := [(q17, .inr (6, [.null, .null, .null]))]) hD hS hA [10] rfl
  refine va_callv (va_runIN (As := []) (rest := [.ref q17, .ref h]) S (metX7_init l D cI cB cM q17 H18.size) ⟨va_cnB 0 S.2.2.2.2 (z_goodc ui_59) rfl rfl rfl hN.2.2.2.2.2.2.1 (S.2.2.2.2 _ ui_41) (by decide +kernel) ⟨Nat.le_of_ble_eq_true rfl, Nat.le_of_ble_eq_true rfl⟩, rfl, S.2.2.2.2 _ ui_58⟩ ⟨blind_X7_init _ _ _ _ _ _, fun U hU hW => ⟨rfl, by rw [hU], by rw [hU]; exact hPc, va_K.moved hW.alike K, xN.warm hW hN, hDc.weaken (fun _ _ _ _ => trivial)⟩⟩ rfl rfl hl.1 rfl (lv_room (Nat.le_of_ble_eq_true rfl)) dX4_init_47 ⟨Nat.le_of_ble_eq_true rfl, Nat.le_of_ble_eq_true rfl⟩) hS (fun q _ h => hFc q h) hFc (fun u19 t H20 locs ht hvm hw hB hz1 hk1 hS => ?_)
  obtain ⟨hP1, hK1, hD1⟩ := hB
  rw [ht] at hP1
  obtain ⟨hPn, hDn⟩ := va_join (wr := [(h, .inr (4, [.ref q1, .ref q4, .ref (u9 0), .ref (u14 0), .null, .null, .int 0, .int 0, .int 0, .int 0, .int 0, .int 0, .int 0, .int 0])), (q1, .inl (cI, 32, .inl (fun _ => 0))), (q4, .inl (cI, 32, .inl (fun _ => 0))), (u9 0, .inr (0, [.ref (u9 1), .ref (u9 2), .ref (u9 3), .ref (u9 4), .int 0])), (u9 1, .inl (cI, 192, .inl (fun _ => 0))), (u9 2, .inl (cI, 192, .inl (fun _ => 0))), (u9 3, .inl (cI, 192, .inl (fun _ => 0))), (u9 4, .inl (cI, 192, .inl (fun _ => 0))), (u14 0, .inr (1, [.ref (u14 1), .int 0, .int 0, .int 0, .int 0, .int 0, .int 0])), (u14 1, .inl (cI, 32, .inl (fun _ => 0)))]) (w1 := [(u19 0, .inr (6, [.ref (u19 1), .ref (u19 2), .ref (u19 3)])), (u19 1, .inl (cI, 6, .inl (fun _ => 0))), (u19 2, .inl (cI, 6, .inl (fun _ => 0))), (u19 3, .inl (cI, 6, .inl (fun _ => 0)))]) hP hD [10] [0, 1, 2, 3, 4, 5, 6, 7, 8, 9] rfl rfl (by decide) (by decide) hk1 hFc hP1 hD1
  subst hw
  have hP : va_P D vwCl [(h, .inr (4, [.ref q1, .ref q4, .ref (u9 0), .ref (u14 0), .null, .null, .int 0, .int 0, .int 0, .int 0, .int 0, .int 0, .int 0, .int 0])), (q1, .inl (cI, 32, .inl (fun _ => 0))), (q4, .inl (cI, 32, .inl (fun _ => 0))), (u9 0, .inr (0, [.ref (u9 1), .ref (u9 2), .ref (u9 3), .ref (u9 4), .int 0])), (u9 1, .inl (cI, 192, .inl (fun _ => 0))), (u9 2, .inl (cI, 192, .inl (fun _ => 0))), (u9 3, .inl (cI, 192, .inl (fun _ => 0))), (u9 4, .inl (cI, 192, .inl (fun _ => 0))), (u14 0, .inr (1, [.ref (u14 1), .int 0, .int 0, .int 0, .int 0, .int 0, .int 0])), (u14 1, .inl (cI, 32, .inl (fun _ => 0))), (u19 0, .inr (6, [.ref (u19 1), .ref (u19 2), .ref (u19 3)])), (u19 1, .inl (cI, 6, .inl (fun _ => 0))), (u19 2, .inl (cI, 6, .inl (fun _ => 0))), (u19 3, .inl (cI, 6, .inl (fun _ => 0)))] H20 := hPn
  have hD : va_D A [(h, .inr (4, [.ref q1, .ref q4, .ref (u9 0), .ref (u14 0), .null, .null, .int 0, .int 0, .int 0, .int 0, .int 0, .int 0, .int 0, .int 0])), (q1, .inl (cI, 32, .inl (fun _ => 0))), (q4, .inl (cI, 32, .inl (fun _ => 0))), (u9 0, .inr (0, [.ref (u9 1), .ref (u9 2), .ref (u9 3), .ref (u9 4), .int 0])), (u9 1, .inl (cI, 192, .inl (fun _ => 0))), (u9 2, .inl (cI, 192, .inl (fun _ => 0))), (u9 3, .inl (cI, 192, .inl (fun _ => 0))), (u9 4, .inl (cI, 192, .inl (fun _ => 0))), (u14 0, .inr (1, [.ref (u14 1), .int 0, .int 0, .int 0, .int 0, .int 0, .int 0])), (u14 1, .inl (cI, 32, .inl (fun _ => 0))), (u19 0, .inr (6, [.ref (u19 1), .ref (u19 2), .ref (u19 3)])), (u19 1, .inl (cI, 6, .inl (fun _ => 0))), (u19 2, .inl (cI, 6, .inl (fun _ => 0))), (u19 3, .inl (cI, 6, .inl (fun _ => 0)))] := hDn
  refine W.widen (k := 13) (n := 897) (by omega) (by omega) ?_
  refine va_putF (D := D) (ci := 4) (v := .ref (u19 0)) (ty := .object "CacheDiary$Requests") (C := RX4) (T := TX4) (N := 14) S.1 S.2.1 S.2.2.2.2 inlX4 tyX4 tyX4_ok nmX4 S.2.2.2.1 K hP hD hS 0 rfl rfl 4 (by decide) (S.2.2.2.2 _ ui_42) (fun _ h9 => h9) rfl hin rfl (by decide +kernel) rfl rfl (Nat.le_of_ble_eq_true rfl) dX4_init_50 (fun H21 locs hP hD hS => ?_)
  have hP : va_P D vwCl [(h, .inr (4, [.ref q1, .ref q4, .ref (u9 0), .ref (u14 0), .ref (u19 0), .null, .int 0, .int 0, .int 0, .int 0, .int 0, .int 0, .int 0, .int 0])), (q1, .inl (cI, 32, .inl (fun _ => 0))), (q4, .inl (cI, 32, .inl (fun _ => 0))), (u9 0, .inr (0, [.ref (u9 1), .ref (u9 2), .ref (u9 3), .ref (u9 4), .int 0])), (u9 1, .inl (cI, 192, .inl (fun _ => 0))), (u9 2, .inl (cI, 192, .inl (fun _ => 0))), (u9 3, .inl (cI, 192, .inl (fun _ => 0))), (u9 4, .inl (cI, 192, .inl (fun _ => 0))), (u14 0, .inr (1, [.ref (u14 1), .int 0, .int 0, .int 0, .int 0, .int 0, .int 0])), (u14 1, .inl (cI, 32, .inl (fun _ => 0))), (u19 0, .inr (6, [.ref (u19 1), .ref (u19 2), .ref (u19 3)])), (u19 1, .inl (cI, 6, .inl (fun _ => 0))), (u19 2, .inl (cI, 6, .inl (fun _ => 0))), (u19 3, .inl (cI, 6, .inl (fun _ => 0)))] H21 := hP
  have hD : va_D A [(h, .inr (4, [.ref q1, .ref q4, .ref (u9 0), .ref (u14 0), .ref (u19 0), .null, .int 0, .int 0, .int 0, .int 0, .int 0, .int 0, .int 0, .int 0])), (q1, .inl (cI, 32, .inl (fun _ => 0))), (q4, .inl (cI, 32, .inl (fun _ => 0))), (u9 0, .inr (0, [.ref (u9 1), .ref (u9 2), .ref (u9 3), .ref (u9 4), .int 0])), (u9 1, .inl (cI, 192, .inl (fun _ => 0))), (u9 2, .inl (cI, 192, .inl (fun _ => 0))), (u9 3, .inl (cI, 192, .inl (fun _ => 0))), (u9 4, .inl (cI, 192, .inl (fun _ => 0))), (u14 0, .inr (1, [.ref (u14 1), .int 0, .int 0, .int 0, .int 0, .int 0, .int 0])), (u14 1, .inl (cI, 32, .inl (fun _ => 0))), (u19 0, .inr (6, [.ref (u19 1), .ref (u19 2), .ref (u19 3)])), (u19 1, .inl (cI, 6, .inl (fun _ => 0))), (u19 2, .inl (cI, 6, .inl (fun _ => 0))), (u19 3, .inl (cI, 6, .inl (fun _ => 0)))] := hD
  refine lv_aload_n S.1 S.2.1 dX4_init_53 rfl (lv_at hl 0 rfl) ?_
  refine va_new (ci := 3) (fs := [.null, .int 0]) (C := RX3) (T := TX3) (N := 2) S.1 S.2.1 S.2.2.2.2 inlX3 tyX3 tyX3_ok S.2.2.2.1 (S.2.2.2.2 _ ui_43) (S.2.2.2.2 _ ui_44) (S.2.2.2.2 _ ui_45) K hP hD hS hA rfl (fun j hj => by rcases (show j = 0 ∨ j = 1 by omega) with rfl | rfl <;> rfl) (Nat.le_of_ble_eq_true rfl) (Nat.le_of_ble_eq_true rfl) dX4_init_54 (fun q22 H23 hP hD hS => ?_)
  have hP : va_P D vwCl [(h, .inr (4, [.ref q1, .ref q4, .ref (u9 0), .ref (u14 0), .ref (u19 0), .null, .int 0, .int 0, .int 0, .int 0, .int 0, .int 0, .int 0, .int 0])), (q1, .inl (cI, 32, .inl (fun _ => 0))), (q4, .inl (cI, 32, .inl (fun _ => 0))), (u9 0, .inr (0, [.ref (u9 1), .ref (u9 2), .ref (u9 3), .ref (u9 4), .int 0])), (u9 1, .inl (cI, 192, .inl (fun _ => 0))), (u9 2, .inl (cI, 192, .inl (fun _ => 0))), (u9 3, .inl (cI, 192, .inl (fun _ => 0))), (u9 4, .inl (cI, 192, .inl (fun _ => 0))), (u14 0, .inr (1, [.ref (u14 1), .int 0, .int 0, .int 0, .int 0, .int 0, .int 0])), (u14 1, .inl (cI, 32, .inl (fun _ => 0))), (u19 0, .inr (6, [.ref (u19 1), .ref (u19 2), .ref (u19 3)])), (u19 1, .inl (cI, 6, .inl (fun _ => 0))), (u19 2, .inl (cI, 6, .inl (fun _ => 0))), (u19 3, .inl (cI, 6, .inl (fun _ => 0))), (q22, .inr (3, [.null, .int 0]))] H23 := hP
  have hD : va_D A [(h, .inr (4, [.ref q1, .ref q4, .ref (u9 0), .ref (u14 0), .ref (u19 0), .null, .int 0, .int 0, .int 0, .int 0, .int 0, .int 0, .int 0, .int 0])), (q1, .inl (cI, 32, .inl (fun _ => 0))), (q4, .inl (cI, 32, .inl (fun _ => 0))), (u9 0, .inr (0, [.ref (u9 1), .ref (u9 2), .ref (u9 3), .ref (u9 4), .int 0])), (u9 1, .inl (cI, 192, .inl (fun _ => 0))), (u9 2, .inl (cI, 192, .inl (fun _ => 0))), (u9 3, .inl (cI, 192, .inl (fun _ => 0))), (u9 4, .inl (cI, 192, .inl (fun _ => 0))), (u14 0, .inr (1, [.ref (u14 1), .int 0, .int 0, .int 0, .int 0, .int 0, .int 0])), (u14 1, .inl (cI, 32, .inl (fun _ => 0))), (u19 0, .inr (6, [.ref (u19 1), .ref (u19 2), .ref (u19 3)])), (u19 1, .inl (cI, 6, .inl (fun _ => 0))), (u19 2, .inl (cI, 6, .inl (fun _ => 0))), (u19 3, .inl (cI, 6, .inl (fun _ => 0))), (q22, .inr (3, [.null, .int 0]))] := hD
  refine W.widen (k := 14) (n := 899) (by omega) (by omega) ?_
  refine lv_dup S.1 S.2.1 dX4_init_57 rfl ?_
  have hPc := hP.sub (ws' := [(q22, .inr (3, [.null, .int 0]))]) [14] rfl
  have hDc := hD.sub (ws' := [(q22, .inr (3, [.null, .int 0]))]) [14] (by decide) rfl
  have hFc := va_free (wc := [(q22, .inr (3, [.null, .int 0]))]) hD hS hA [14] rfl
  refine va_callv (va_runIN (As := []) (rest := [.ref q22, .ref h]) S (metX3_init l D cI cB cM q22 H23.size) ⟨va_cnB 0 S.2.2.2.2 (z_goodc ui_65) rfl rfl rfl hN.2.2.2.2.2.2.2 (S.2.2.2.2 _ ui_45) (by decide +kernel) ⟨Nat.le_of_ble_eq_true rfl, Nat.le_of_ble_eq_true rfl⟩, rfl, S.2.2.2.2 _ ui_64⟩ ⟨blind_X3_init _ _ _ _ _ _, fun U hU hW => ⟨rfl, by rw [hU], by rw [hU]; exact hPc, va_K.moved hW.alike K, xN.warm hW hN, hDc.weaken (fun _ _ _ _ => trivial)⟩⟩ rfl rfl hl.1 rfl (lv_room (Nat.le_of_ble_eq_true rfl)) dX4_init_58 ⟨Nat.le_of_ble_eq_true rfl, Nat.le_of_ble_eq_true rfl⟩) hS (fun q _ h => hFc q h) hFc (fun u24 t H25 locs ht hvm hw hB hz1 hk1 hS => ?_)
  obtain ⟨hP1, hK1, hD1⟩ := hB
  rw [ht] at hP1
  obtain ⟨hPn, hDn⟩ := va_join (wr := [(h, .inr (4, [.ref q1, .ref q4, .ref (u9 0), .ref (u14 0), .ref (u19 0), .null, .int 0, .int 0, .int 0, .int 0, .int 0, .int 0, .int 0, .int 0])), (q1, .inl (cI, 32, .inl (fun _ => 0))), (q4, .inl (cI, 32, .inl (fun _ => 0))), (u9 0, .inr (0, [.ref (u9 1), .ref (u9 2), .ref (u9 3), .ref (u9 4), .int 0])), (u9 1, .inl (cI, 192, .inl (fun _ => 0))), (u9 2, .inl (cI, 192, .inl (fun _ => 0))), (u9 3, .inl (cI, 192, .inl (fun _ => 0))), (u9 4, .inl (cI, 192, .inl (fun _ => 0))), (u14 0, .inr (1, [.ref (u14 1), .int 0, .int 0, .int 0, .int 0, .int 0, .int 0])), (u14 1, .inl (cI, 32, .inl (fun _ => 0))), (u19 0, .inr (6, [.ref (u19 1), .ref (u19 2), .ref (u19 3)])), (u19 1, .inl (cI, 6, .inl (fun _ => 0))), (u19 2, .inl (cI, 6, .inl (fun _ => 0))), (u19 3, .inl (cI, 6, .inl (fun _ => 0)))]) (w1 := [(u24 0, .inr (3, [.ref (u24 1), .int 0])), (u24 1, .inl (cI, 72, .inl (fun _ => 0)))]) hP hD [14] [0, 1, 2, 3, 4, 5, 6, 7, 8, 9, 10, 11, 12, 13] rfl rfl (by decide) (by decide) hk1 hFc hP1 hD1
  subst hw
  have hP : va_P D vwCl [(h, .inr (4, [.ref q1, .ref q4, .ref (u9 0), .ref (u14 0), .ref (u19 0), .null, .int 0, .int 0, .int 0, .int 0, .int 0, .int 0, .int 0, .int 0])), (q1, .inl (cI, 32, .inl (fun _ => 0))), (q4, .inl (cI, 32, .inl (fun _ => 0))), (u9 0, .inr (0, [.ref (u9 1), .ref (u9 2), .ref (u9 3), .ref (u9 4), .int 0])), (u9 1, .inl (cI, 192, .inl (fun _ => 0))), (u9 2, .inl (cI, 192, .inl (fun _ => 0))), (u9 3, .inl (cI, 192, .inl (fun _ => 0))), (u9 4, .inl (cI, 192, .inl (fun _ => 0))), (u14 0, .inr (1, [.ref (u14 1), .int 0, .int 0, .int 0, .int 0, .int 0, .int 0])), (u14 1, .inl (cI, 32, .inl (fun _ => 0))), (u19 0, .inr (6, [.ref (u19 1), .ref (u19 2), .ref (u19 3)])), (u19 1, .inl (cI, 6, .inl (fun _ => 0))), (u19 2, .inl (cI, 6, .inl (fun _ => 0))), (u19 3, .inl (cI, 6, .inl (fun _ => 0))), (u24 0, .inr (3, [.ref (u24 1), .int 0])), (u24 1, .inl (cI, 72, .inl (fun _ => 0)))] H25 := hPn
  have hD : va_D A [(h, .inr (4, [.ref q1, .ref q4, .ref (u9 0), .ref (u14 0), .ref (u19 0), .null, .int 0, .int 0, .int 0, .int 0, .int 0, .int 0, .int 0, .int 0])), (q1, .inl (cI, 32, .inl (fun _ => 0))), (q4, .inl (cI, 32, .inl (fun _ => 0))), (u9 0, .inr (0, [.ref (u9 1), .ref (u9 2), .ref (u9 3), .ref (u9 4), .int 0])), (u9 1, .inl (cI, 192, .inl (fun _ => 0))), (u9 2, .inl (cI, 192, .inl (fun _ => 0))), (u9 3, .inl (cI, 192, .inl (fun _ => 0))), (u9 4, .inl (cI, 192, .inl (fun _ => 0))), (u14 0, .inr (1, [.ref (u14 1), .int 0, .int 0, .int 0, .int 0, .int 0, .int 0])), (u14 1, .inl (cI, 32, .inl (fun _ => 0))), (u19 0, .inr (6, [.ref (u19 1), .ref (u19 2), .ref (u19 3)])), (u19 1, .inl (cI, 6, .inl (fun _ => 0))), (u19 2, .inl (cI, 6, .inl (fun _ => 0))), (u19 3, .inl (cI, 6, .inl (fun _ => 0))), (u24 0, .inr (3, [.ref (u24 1), .int 0])), (u24 1, .inl (cI, 72, .inl (fun _ => 0)))] := hDn
  refine W.widen (k := 15) (n := 971) (by omega) (by omega) ?_
  refine va_putF (D := D) (ci := 4) (v := .ref (u24 0)) (ty := .object "CacheDiary$Log") (C := RX4) (T := TX4) (N := 14) S.1 S.2.1 S.2.2.2.2 inlX4 tyX4 tyX4_ok nmX4 S.2.2.2.1 K hP hD hS 0 rfl rfl 5 (by decide) (S.2.2.2.2 _ ui_46) (fun _ h9 => h9) rfl hin rfl (by decide +kernel) rfl rfl (Nat.le_of_ble_eq_true rfl) dX4_init_61 (fun H26 locs hP hD hS => ?_)
  have hP : va_P D vwCl [(h, .inr (4, [.ref q1, .ref q4, .ref (u9 0), .ref (u14 0), .ref (u19 0), .ref (u24 0), .int 0, .int 0, .int 0, .int 0, .int 0, .int 0, .int 0, .int 0])), (q1, .inl (cI, 32, .inl (fun _ => 0))), (q4, .inl (cI, 32, .inl (fun _ => 0))), (u9 0, .inr (0, [.ref (u9 1), .ref (u9 2), .ref (u9 3), .ref (u9 4), .int 0])), (u9 1, .inl (cI, 192, .inl (fun _ => 0))), (u9 2, .inl (cI, 192, .inl (fun _ => 0))), (u9 3, .inl (cI, 192, .inl (fun _ => 0))), (u9 4, .inl (cI, 192, .inl (fun _ => 0))), (u14 0, .inr (1, [.ref (u14 1), .int 0, .int 0, .int 0, .int 0, .int 0, .int 0])), (u14 1, .inl (cI, 32, .inl (fun _ => 0))), (u19 0, .inr (6, [.ref (u19 1), .ref (u19 2), .ref (u19 3)])), (u19 1, .inl (cI, 6, .inl (fun _ => 0))), (u19 2, .inl (cI, 6, .inl (fun _ => 0))), (u19 3, .inl (cI, 6, .inl (fun _ => 0))), (u24 0, .inr (3, [.ref (u24 1), .int 0])), (u24 1, .inl (cI, 72, .inl (fun _ => 0)))] H26 := hP
  have hD : va_D A [(h, .inr (4, [.ref q1, .ref q4, .ref (u9 0), .ref (u14 0), .ref (u19 0), .ref (u24 0), .int 0, .int 0, .int 0, .int 0, .int 0, .int 0, .int 0, .int 0])), (q1, .inl (cI, 32, .inl (fun _ => 0))), (q4, .inl (cI, 32, .inl (fun _ => 0))), (u9 0, .inr (0, [.ref (u9 1), .ref (u9 2), .ref (u9 3), .ref (u9 4), .int 0])), (u9 1, .inl (cI, 192, .inl (fun _ => 0))), (u9 2, .inl (cI, 192, .inl (fun _ => 0))), (u9 3, .inl (cI, 192, .inl (fun _ => 0))), (u9 4, .inl (cI, 192, .inl (fun _ => 0))), (u14 0, .inr (1, [.ref (u14 1), .int 0, .int 0, .int 0, .int 0, .int 0, .int 0])), (u14 1, .inl (cI, 32, .inl (fun _ => 0))), (u19 0, .inr (6, [.ref (u19 1), .ref (u19 2), .ref (u19 3)])), (u19 1, .inl (cI, 6, .inl (fun _ => 0))), (u19 2, .inl (cI, 6, .inl (fun _ => 0))), (u19 3, .inl (cI, 6, .inl (fun _ => 0))), (u24 0, .inr (3, [.ref (u24 1), .int 0])), (u24 1, .inl (cI, 72, .inl (fun _ => 0)))] := hD
  have hP9 := hP.sub (ws' := wG (fun k => [h, q1, q4, u9 0, u9 1, u9 2, u9 3, u9 4, u14 0, u14 1, u19 0, u19 1, u19 2, u19 3, u24 0, u24 1].getD k 0) cI z0) [0, 1, 2, 3, 4, 5, 6, 7, 8, 9, 10, 11, 12, 13, 14, 15] rfl
  have hD9 := hD.sub (ws' := wG (fun k => [h, q1, q4, u9 0, u9 1, u9 2, u9 3, u9 4, u14 0, u14 1, u19 0, u19 1, u19 2, u19 3, u24 0, u24 1].getD k 0) cI z0) [0, 1, 2, 3, 4, 5, 6, 7, 8, 9, 10, 11, 12, 13, 14, 15] (by decide) rfl
  refine W.widen (k := 15) (n := 971) (by omega) (by omega) ?_
  exact W.vret S.1 S.2.1 hr (fun t ht hW => ⟨⟨(fun k => [h, q1, q4, u9 0, u9 1, u9 2, u9 3, u9 4, u14 0, u14 1, u19 0, u19 1, u19 2, u19 3, u24 0, u24 1].getD k 0), rfl, rfl, by rw [ht]; exact hP9, va_K.moved hW.alike K, hD9⟩, hS.F ht⟩) hS.2.2 dX4_init_64 (hlocks := hk)
def wI_X5 (ad6 u : Nat → Nat) (cI : ClassId) : va_W := [(u 0, .inr (5, [.ref (u 1), .ref (u 2), .ref (u 3), .int 0, .ref (ad6 0), .int 0, .int 0, .int 0, .int 0, .int 0, .int 0])), (u 1, .inl (cI, 34, .inl (fun _ => 0))), (u 2, .inl (cI, 34, .inl (fun _ => 0))), (u 3, .inl (cI, 34, .inl (fun _ => 0)))]
theorem ui_115 : Cond.methodLink RX5 3 objectInit ∈ WA := z_in0 _ (List.mem_of_getElem? (i := 115) (by decide +kernel))
theorem ui_116 : Cond.fieldLink RX5 9 "CacheDiary$OrderReader" "cache" "[I" ∈ WA := z_in0 _ (List.mem_of_getElem? (i := 116) (by decide +kernel))
theorem ui_117 : Cond.fieldLink RX5 15 "CacheDiary$OrderReader" "line" "[I" ∈ WA := z_in0 _ (List.mem_of_getElem? (i := 117) (by decide +kernel))
theorem ui_118 : Cond.fieldLink RX5 18 "CacheDiary$OrderReader" "number" "[I" ∈ WA := z_in0 _ (List.mem_of_getElem? (i := 118) (by decide +kernel))
theorem ui_119 : Cond.fieldLink RX5 21 "CacheDiary$Place" "KIND" "LCacheDiary$Place;" ∈ WA := z_in0 _ (List.mem_of_getElem? (i := 119) (by decide +kernel))
theorem ui_120 : Cond.fieldLink RX5 27 "CacheDiary$OrderReader" "place" "LCacheDiary$Place;" ∈ WA := z_in0 _ (List.mem_of_getElem? (i := 120) (by decide +kernel))
def rmX5_init : Room := { frames := 1, cells := 3, slots := 102, locals := 12 }
def pc_X5_init (D : va_G) (cI cB cM : ClassId) (ad6 : Nat → Nat) (h sz : Nat) : Array Value → State → Prop := va_Pc [.ref h] (fun U => U.heap.size = sz ∧ va_P D vwCl [(h, .inr (5, [.null, .null, .null, .int 0, .null, .int 0, .int 0, .int 0, .int 0, .int 0, .int 0]))] U.heap ∧ va_K D vwCl (tysQ cI cB cM) U ∧ xN U ∧ va_D (fun _ => True) [(h, .inr (5, [.null, .null, .null, .int 0, .null, .int 0, .int 0, .int 0, .int 0, .int 0, .int 0]))] ∧ oE ad6 (va_A [(h, .inr (5, [.null, .null, .null, .int 0, .null, .int 0, .int 0, .int 0, .int 0, .int 0, .int 0]))] sz) U U.heap)
theorem blind_X5_init (D : va_G) (cI cB cM : ClassId) (ad6 : Nat → Nat) (h sz : Nat) : FrameBlind (pc_X5_init D cI cB cM ad6 h sz) := fun b U g mk q => by
  obtain ⟨q0, q1, qP, qK, qN, qD, qE⟩ := q
  exact ⟨q0, q1, qP, va_K.moved (u := U) (U := U.calling g mk b) (Vm.Alike.refl U.vm) qK, xN.same (u := U) (U := U.calling g mk b) rfl qN, qD, va_En.moved (u := U) (U := U.calling g mk b) (Vm.Alike.refl U.vm) qE⟩
set_option maxHeartbeats 4000000 in
set_option maxRecDepth 100000 in
theorem metX5_init (l : Launch) (D : va_G) (cI cB cM : ClassId) (ad6 : Nat → Nat) (h sz : Nat) : Met l yX5_init (Cond.code yX5_init cX5_init 1 none :: WA) rmX5_init (pc_X5_init D cI cB cM ad6 h sz) (va_Qv (fun u : Nat → Nat => u 0 = h) (fun u t => va_P D vwCl (wI_X5 ad6 u cI) t.heap ∧ va_K D vwCl (tysQ cI cB cM) t ∧ va_D (va_A [(h, .inr (5, [.null, .null, .null, .int 0, .null, .int 0, .int 0, .int 0, .int 0, .int 0, .int 0]))] sz) (wI_X5 ad6 u cI)) (va_A [(h, .inr (5, [.null, .null, .null, .int 0, .null, .int 0, .int 0, .int 0, .int 0, .int 0, .int 0]))] sz)) 3 102 (va_A [(h, .inr (5, [.null, .null, .null, .int 0, .null, .int 0, .int 0, .int 0, .int 0, .int 0, .int 0]))] sz) := by
  refine Met.ofW (cc := cX5_init) (maxL := 1) (ret := none) (by decide) rfl ?_
  intro p e s m args below meth c s₁ B hml hv
  obtain ⟨rfl, hsz, hP, K, hN, hD0, hE⟩ := hv
  have hr := B.returns
  have hk := B.notSynchronized
  have hin : meth.name = "<init>" := (name_of_methodNamed B.named B.method).1
  have hts0 := atoms_spec (ws := Cond.code yX5_init cX5_init 1 none :: WA) B.pre
  have S : CallFix p m c cX5_init 1 s ([.ref h] : List Value).toArray WA RX5 := ⟨B.exec, B.bytes, hml, findClass_of_methodNamed B.named, fun w h => hts0 w (List.mem_cons_of_mem _ h)⟩
  subst hsz
  have hD := hD0.self (sz := s.heap.size)
  have hE : oE ad6 (va_A [(h, .inr (5, [.null, .null, .null, .int 0, .null, .int 0, .int 0, .int 0, .int 0, .int 0, .int 0]))] s.heap.size) s s.heap := hE
  generalize hAe : va_A [(h, .inr (5, [.null, .null, .null, .int 0, .null, .int 0, .int 0, .int 0, .int 0, .int 0, .int 0]))] s.heap.size = A at hD hE ⊢
  have hA : ∀ q : Nat, s.heap.size ≤ q → A q := fun q h => by rw [← hAe]; exact Or.inr h
  have hS : va_S A s.heap s.heap [] := va_S.rf
  have hl := lv_entry ([.ref h]) (n := 1) (Nat.le_of_ble_eq_true rfl)
  rw [lg_entry_eq]
  generalize (lg_sl ([.ref h]) ++ List.replicate (1 - (lg_sl ([.ref h])).length) Slot.unset).toArray = ls at hl ⊢
  have hl : lv_has ls 1 [(0, .ref h)] := hl
  refine lv_aload_n S.1 S.2.1 dX5_init_0 rfl (lv_at hl 0 rfl) ?_
  refine W.objInit S.1 S.2.1 S.2.2.2.1 (S.2.2.2.2 _ ui_115) (S.2.2.2.2 _ ui_7) (S.2.2.2.2 _ ui_8) rfl (hl.1.trans S.2.2.1.symm) rfl dX5_init_1 (Nat.le_of_ble_eq_true rfl) (Nat.le_of_ble_eq_true rfl) ?_
  refine W.eq (g2 := F0 m 4 ls []) rfl ?_
  refine lv_aload_n S.1 S.2.1 dX5_init_4 rfl (lv_at hl 0 rfl) ?_
  refine lv_bipush (v := nI 34) S.1 S.2.1 dX5_init_5 (by decide) ?_
  refine va_newa (atype := .int) S.1 S.2.1 (S.2.2.2.2 _ ui_28) rfl K hP hD hS hA (a0 := (34, .inl (fun _ => 0))) (fun _ => rfl) (nI_pos (n := 34) (by omega)) (nI_clamp (n := 34) (by omega)) (by decide) (Nat.le_of_ble_eq_true rfl) (Nat.le_of_ble_eq_true rfl) dX5_init_7 (fun q1 cA H2 K2 hP hD hS => ?_)
  obtain rfl : cI = cA := ((z_same K2).1 rfl).symm
  have hP : va_P D vwCl [(h, .inr (5, [.null, .null, .null, .int 0, .null, .int 0, .int 0, .int 0, .int 0, .int 0, .int 0])), (q1, .inl (cI, 34, .inl (fun _ => 0)))] H2 := hP
  have hD : va_D A [(h, .inr (5, [.null, .null, .null, .int 0, .null, .int 0, .int 0, .int 0, .int 0, .int 0, .int 0])), (q1, .inl (cI, 34, .inl (fun _ => 0)))] := hD
  refine W.widen (k := 1) (n := 34) (by omega) (by omega) ?_
  refine va_putF (D := D) (ci := 5) (v := .ref q1) (ty := .array .int) (C := RX5) (T := TX5) (N := 11) S.1 S.2.1 S.2.2.2.2 inlX5 tyX5 tyX5_ok nmX5 S.2.2.2.1 K hP hD hS 0 rfl rfl 0 (by decide) (S.2.2.2.2 _ ui_116) (fun _ h9 => h9) rfl hin rfl (by decide +kernel) rfl rfl (Nat.le_of_ble_eq_true rfl) dX5_init_9 (fun H3 locs hP hD hS => ?_)
  have hP : va_P D vwCl [(h, .inr (5, [.ref q1, .null, .null, .int 0, .null, .int 0, .int 0, .int 0, .int 0, .int 0, .int 0])), (q1, .inl (cI, 34, .inl (fun _ => 0)))] H3 := hP
  have hD : va_D A [(h, .inr (5, [.ref q1, .null, .null, .int 0, .null, .int 0, .int 0, .int 0, .int 0, .int 0, .int 0])), (q1, .inl (cI, 34, .inl (fun _ => 0)))] := hD
  refine lv_aload_n S.1 S.2.1 dX5_init_12 rfl (lv_at hl 0 rfl) ?_
  refine lv_bipush (v := nI 34) S.1 S.2.1 dX5_init_13 (by decide) ?_
  refine va_newa (atype := .int) S.1 S.2.1 (S.2.2.2.2 _ ui_28) rfl K hP hD hS hA (a0 := (34, .inl (fun _ => 0))) (fun _ => rfl) (nI_pos (n := 34) (by omega)) (nI_clamp (n := 34) (by omega)) (by decide) (Nat.le_of_ble_eq_true rfl) (Nat.le_of_ble_eq_true rfl) dX5_init_15 (fun q4 cA H5 K2 hP hD hS => ?_)
  obtain rfl : cI = cA := ((z_same K2).1 rfl).symm
  have hP : va_P D vwCl [(h, .inr (5, [.ref q1, .null, .null, .int 0, .null, .int 0, .int 0, .int 0, .int 0, .int 0, .int 0])), (q1, .inl (cI, 34, .inl (fun _ => 0))), (q4, .inl (cI, 34, .inl (fun _ => 0)))] H5 := hP
  have hD : va_D A [(h, .inr (5, [.ref q1, .null, .null, .int 0, .null, .int 0, .int 0, .int 0, .int 0, .int 0, .int 0])), (q1, .inl (cI, 34, .inl (fun _ => 0))), (q4, .inl (cI, 34, .inl (fun _ => 0)))] := hD
  refine W.widen (k := 2) (n := 68) (by omega) (by omega) ?_
  refine va_putF (D := D) (ci := 5) (v := .ref q4) (ty := .array .int) (C := RX5) (T := TX5) (N := 11) S.1 S.2.1 S.2.2.2.2 inlX5 tyX5 tyX5_ok nmX5 S.2.2.2.1 K hP hD hS 0 rfl rfl 1 (by decide) (S.2.2.2.2 _ ui_117) (fun _ h9 => h9) rfl hin rfl (by decide +kernel) rfl rfl (Nat.le_of_ble_eq_true rfl) dX5_init_17 (fun H6 locs hP hD hS => ?_)
  have hP : va_P D vwCl [(h, .inr (5, [.ref q1, .ref q4, .null, .int 0, .null, .int 0, .int 0, .int 0, .int 0, .int 0, .int 0])), (q1, .inl (cI, 34, .inl (fun _ => 0))), (q4, .inl (cI, 34, .inl (fun _ => 0)))] H6 := hP
  have hD : va_D A [(h, .inr (5, [.ref q1, .ref q4, .null, .int 0, .null, .int 0, .int 0, .int 0, .int 0, .int 0, .int 0])), (q1, .inl (cI, 34, .inl (fun _ => 0))), (q4, .inl (cI, 34, .inl (fun _ => 0)))] := hD
  refine lv_aload_n S.1 S.2.1 dX5_init_20 rfl (lv_at hl 0 rfl) ?_
  refine lv_bipush (v := nI 34) S.1 S.2.1 dX5_init_21 (by decide) ?_
  refine va_newa (atype := .int) S.1 S.2.1 (S.2.2.2.2 _ ui_28) rfl K hP hD hS hA (a0 := (34, .inl (fun _ => 0))) (fun _ => rfl) (nI_pos (n := 34) (by omega)) (nI_clamp (n := 34) (by omega)) (by decide) (Nat.le_of_ble_eq_true rfl) (Nat.le_of_ble_eq_true rfl) dX5_init_23 (fun q7 cA H8 K2 hP hD hS => ?_)
  obtain rfl : cI = cA := ((z_same K2).1 rfl).symm
  have hP : va_P D vwCl [(h, .inr (5, [.ref q1, .ref q4, .null, .int 0, .null, .int 0, .int 0, .int 0, .int 0, .int 0, .int 0])), (q1, .inl (cI, 34, .inl (fun _ => 0))), (q4, .inl (cI, 34, .inl (fun _ => 0))), (q7, .inl (cI, 34, .inl (fun _ => 0)))] H8 := hP
  have hD : va_D A [(h, .inr (5, [.ref q1, .ref q4, .null, .int 0, .null, .int 0, .int 0, .int 0, .int 0, .int 0, .int 0])), (q1, .inl (cI, 34, .inl (fun _ => 0))), (q4, .inl (cI, 34, .inl (fun _ => 0))), (q7, .inl (cI, 34, .inl (fun _ => 0)))] := hD
  refine W.widen (k := 3) (n := 102) (by omega) (by omega) ?_
  refine va_putF (D := D) (ci := 5) (v := .ref q7) (ty := .array .int) (C := RX5) (T := TX5) (N := 11) S.1 S.2.1 S.2.2.2.2 inlX5 tyX5 tyX5_ok nmX5 S.2.2.2.1 K hP hD hS 0 rfl rfl 2 (by decide) (S.2.2.2.2 _ ui_118) (fun _ h9 => h9) rfl hin rfl (by decide +kernel) rfl rfl (Nat.le_of_ble_eq_true rfl) dX5_init_25 (fun H9 locs hP hD hS => ?_)
  have hP : va_P D vwCl [(h, .inr (5, [.ref q1, .ref q4, .ref q7, .int 0, .null, .int 0, .int 0, .int 0, .int 0, .int 0, .int 0])), (q1, .inl (cI, 34, .inl (fun _ => 0))), (q4, .inl (cI, 34, .inl (fun _ => 0))), (q7, .inl (cI, 34, .inl (fun _ => 0)))] H9 := hP
  have hD : va_D A [(h, .inr (5, [.ref q1, .ref q4, .ref q7, .int 0, .null, .int 0, .int 0, .int 0, .int 0, .int 0, .int 0])), (q1, .inl (cI, 34, .inl (fun _ => 0))), (q4, .inl (cI, 34, .inl (fun _ => 0))), (q7, .inl (cI, 34, .inl (fun _ => 0)))] := hD
  refine lv_aload_n S.1 S.2.1 dX5_init_28 rfl (lv_at hl 0 rfl) ?_
  refine va_gets (C := "CacheDiary$Place") (n := "KIND") (d := "LCacheDiary$Place;") (v := .ref (ad6 0)) S.1 S.2.1 (hE.1 0 (by decide)).1 hS S.2.2.2.1 (S.2.2.2.2 _ ui_119) (fun _ h => h) dX5_init_29 ?_
  refine va_put (D := D) (ci := 5) (v := .ref (ad6 0)) (ty := .object "CacheDiary$Place") (C := RX5) (T := TX5) (N := 11) S.1 S.2.1 S.2.2.2.2 inlX5 tyX5 tyX5_ok nmX5 S.2.2.2.1 K hP hD hS 0 rfl rfl 4 (by decide) (S.2.2.2.2 _ ui_120) (fun _ h9 => h9) rfl (by decide +kernel) rfl rfl (Nat.le_of_ble_eq_true rfl) dX5_init_32 (fun H10 locs hP hD hS => ?_)
  have hP : va_P D vwCl [(h, .inr (5, [.ref q1, .ref q4, .ref q7, .int 0, .ref (ad6 0), .int 0, .int 0, .int 0, .int 0, .int 0, .int 0])), (q1, .inl (cI, 34, .inl (fun _ => 0))), (q4, .inl (cI, 34, .inl (fun _ => 0))), (q7, .inl (cI, 34, .inl (fun _ => 0)))] H10 := hP
  have hD : va_D A [(h, .inr (5, [.ref q1, .ref q4, .ref q7, .int 0, .ref (ad6 0), .int 0, .int 0, .int 0, .int 0, .int 0, .int 0])), (q1, .inl (cI, 34, .inl (fun _ => 0))), (q4, .inl (cI, 34, .inl (fun _ => 0))), (q7, .inl (cI, 34, .inl (fun _ => 0)))] := hD
  have hP9 := hP.sub (ws' := wI_X5 ad6 (fun k => [h, q1, q4, q7].getD k 0) cI) [0, 1, 2, 3] rfl
  have hD9 := hD.sub (ws' := wI_X5 ad6 (fun k => [h, q1, q4, q7].getD k 0) cI) [0, 1, 2, 3] (by decide) rfl
  refine W.widen (k := 3) (n := 102) (by omega) (by omega) ?_
  exact W.vret S.1 S.2.1 hr (fun t ht hW => ⟨⟨(fun k => [h, q1, q4, q7].getD k 0), rfl, rfl, by rw [ht]; exact hP9, va_K.moved hW.alike K, hD9⟩, hS.F ht⟩) hS.2.2 dX5_init_35 (hlocks := hk)
