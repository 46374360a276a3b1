/-! a machine: contracts (by wip/tools/gworld.py) -/
set_option maxHeartbeats 4000000 in
set_option maxRecDepth 100000 in
theorem bdX0_takeOver {p : Program} {l : Launch} {e : Env} {s : State} {m : MethodId} {args : Array Value} {below : List Frame} {meth : Method} {c : Code} {H : Heap} {locs : List Loc} {ls : Array Slot} {D : va_G} {cI : ClassId} {g k2 : Nat → Nat} {τ : zSt} (S : CallFix p m c cX0_takeOver 2 s args WA RX0) (K : va_K D vwCl [(cI, .int)] s) (hr : meth.sig.returnType = none) (hk : meth.locks = false) (σ : zSt) (σ0 : zSt) (hf : fX0_takeOver τ σ = some σ0) (hl : lv_has ls 2 [(0, .ref (g 3)), (1, .ref (k2 3))]) (hs : ttS D cI g k2 τ s σ H locs) : W p l e rmX0_takeOver s m args below meth c H locs 0 0 (MQ below (ttQv D cI g k2 τ σ0) args s 0 0 (ttA g k2 τ)) (F0 m 0 ls []) := by
  unfold fX0_takeOver at hf
  refine lv_aload_n S.1 S.2.1 dX0_takeOver_0 rfl (lv_at hl 1 rfl) ?_
  refine ttgX0_9_19 S K hs dX0_takeOver_1 ?_
  refine lv_iconst S.1 S.2.1 dX0_takeOver_4 k_iconst_0 ?_
  refine lv_aload_n S.1 S.2.1 dX0_takeOver_5 rfl (lv_at hl 0 rfl) ?_
  refine ttgX0_9_3 S K hs dX0_takeOver_6 ?_
  refine lv_iconst S.1 S.2.1 dX0_takeOver_9 k_iconst_0 ?_
  refine lv_aload_n S.1 S.2.1 dX0_takeOver_10 rfl (lv_at hl 0 rfl) ?_
  refine ttgX0_9_3 S K hs dX0_takeOver_11 ?_
  refine ttal4 S K hs dX0_takeOver_14 ?_
  refine ttcp20_4 S K hs hl.1 u_254 (by decide) hf dX0_takeOver_15 ⟨Nat.le_of_ble_eq_true rfl, Nat.le_of_ble_eq_true rfl⟩ (Nat.le_of_ble_eq_true rfl) (Nat.le_of_ble_eq_true rfl) (fun σ1 H locs hs hf => ?_)
  refine lv_aload_n S.1 S.2.1 dX0_takeOver_18 rfl (lv_at hl 1 rfl) ?_
  refine ttgX0_15_19 S K hs dX0_takeOver_19 ?_
  refine lv_iconst S.1 S.2.1 dX0_takeOver_22 k_iconst_0 ?_
  refine lv_aload_n S.1 S.2.1 dX0_takeOver_23 rfl (lv_at hl 0 rfl) ?_
  refine ttgX0_15_3 S K hs dX0_takeOver_24 ?_
  refine lv_iconst S.1 S.2.1 dX0_takeOver_27 k_iconst_0 ?_
  refine lv_aload_n S.1 S.2.1 dX0_takeOver_28 rfl (lv_at hl 0 rfl) ?_
  refine ttgX0_15_3 S K hs dX0_takeOver_29 ?_
  refine ttal5 S K hs dX0_takeOver_32 ?_
  refine ttcp21_5 S K hs hl.1 u_254 (by decide) hf dX0_takeOver_33 ⟨Nat.le_of_ble_eq_true rfl, Nat.le_of_ble_eq_true rfl⟩ (Nat.le_of_ble_eq_true rfl) (Nat.le_of_ble_eq_true rfl) (fun σ2 H locs hs hf => ?_)
  refine lv_aload_n S.1 S.2.1 dX0_takeOver_36 rfl (lv_at hl 1 rfl) ?_
  refine ttgX0_18_19 S K hs dX0_takeOver_37 ?_
  refine lv_iconst S.1 S.2.1 dX0_takeOver_40 k_iconst_0 ?_
  refine lv_aload_n S.1 S.2.1 dX0_takeOver_41 rfl (lv_at hl 0 rfl) ?_
  refine ttgX0_18_3 S K hs dX0_takeOver_42 ?_
  refine lv_iconst S.1 S.2.1 dX0_takeOver_45 k_iconst_0 ?_
  refine lv_aload_n S.1 S.2.1 dX0_takeOver_46 rfl (lv_at hl 0 rfl) ?_
  refine ttgX0_18_3 S K hs dX0_takeOver_47 ?_
  refine ttal6 S K hs dX0_takeOver_50 ?_
  refine ttcp22_6 S K hs hl.1 u_254 (by decide) hf dX0_takeOver_51 ⟨Nat.le_of_ble_eq_true rfl, Nat.le_of_ble_eq_true rfl⟩ (Nat.le_of_ble_eq_true rfl) (Nat.le_of_ble_eq_true rfl) (fun σ3 H locs hs hf => ?_)
  refine lv_aload_n S.1 S.2.1 dX0_takeOver_54 rfl (lv_at hl 1 rfl) ?_
  refine ttgX0_21_19 S K hs dX0_takeOver_55 ?_
  refine lv_iconst S.1 S.2.1 dX0_takeOver_58 k_iconst_0 ?_
  refine lv_aload_n S.1 S.2.1 dX0_takeOver_59 rfl (lv_at hl 0 rfl) ?_
  refine ttgX0_21_3 S K hs dX0_takeOver_60 ?_
  refine lv_iconst S.1 S.2.1 dX0_takeOver_63 k_iconst_0 ?_
  refine lv_aload_n S.1 S.2.1 dX0_takeOver_64 rfl (lv_at hl 0 rfl) ?_
  refine ttgX0_21_3 S K hs dX0_takeOver_65 ?_
  refine ttal7 S K hs dX0_takeOver_68 ?_
  refine ttcp23_7 S K hs hl.1 u_254 (by decide) hf dX0_takeOver_69 ⟨Nat.le_of_ble_eq_true rfl, Nat.le_of_ble_eq_true rfl⟩ (Nat.le_of_ble_eq_true rfl) (Nat.le_of_ble_eq_true rfl) (fun σ4 H locs hs hf => ?_)
  refine lv_aload_n S.1 S.2.1 dX0_takeOver_72 rfl (lv_at hl 0 rfl) ?_
  refine lv_aload_n S.1 S.2.1 dX0_takeOver_73 rfl (lv_at hl 1 rfl) ?_
  refine ttgX0_30_19 S K hs dX0_takeOver_74 ?_
  refine ttpX0_30_3 S K hs hf dX0_takeOver_77 (fun σ5 H locs hs hf => ?_)
  exact ttrV S K hr hk hs hf dX0_takeOver_80
theorem metX0_takeOver (l : Launch) (D : va_G) (cI : ClassId) (g k2 : Nat → Nat) (τ : zSt) (σ : zSt) (σ0 : zSt) (hf : fX0_takeOver τ σ = some σ0) : Met l yX0_takeOver (Cond.code yX0_takeOver cX0_takeOver 2 none :: WA) rmX0_takeOver (ttPc D cI g k2 τ σ [.ref (g 3), .ref (k2 3)]) ((ttQv D cI g k2 τ σ0)) 0 0 (ttA g k2 τ) :=
  ttMet (by decide) (Nat.le_of_ble_eq_true rfl) (fun p e s m args below meth c H locs ls S K hr hk hl hs => bdX0_takeOver S K hr hk  _ _ hf hl hs)
set_option maxHeartbeats 4000000 in
set_option maxRecDepth 100000 in
theorem bdX1_takeOver {p : Program} {l : Launch} {e : Env} {s : State} {m : MethodId} {args : Array Value} {below : List Frame} {meth : Method} {c : Code} {H : Heap} {locs : List Loc} {ls : Array Slot} {D : va_G} {cI : ClassId} {g k2 : Nat → Nat} {τ : zSt} (S : CallFix p m c cX1_takeOver 2 s args WA RX1) (K : va_K D vwCl [(cI, .int)] s) (hr : meth.sig.returnType = none) (hk : meth.locks = false) (σ : zSt) (σ0 : zSt) (hf : fX1_takeOver τ σ = some σ0) (hl : lv_has ls 2 [(0, .ref (g 8)), (1, .ref (k2 8))]) (hs : ttS D cI g k2 τ s σ H locs) : W p l e rmX1_takeOver s m args below meth c H locs 0 0 (MQ below (ttQv D cI g k2 τ σ0) args s 0 0 (ttA g k2 τ)) (F0 m 0 ls []) := by
  unfold fX1_takeOver at hf
  refine lv_aload_n S.1 S.2.1 dX1_takeOver_0 rfl (lv_at hl 1 rfl) ?_
  refine ttgX1_9_24 S K hs dX1_takeOver_1 ?_
  refine lv_iconst S.1 S.2.1 dX1_takeOver_4 k_iconst_0 ?_
  refine lv_aload_n S.1 S.2.1 dX1_takeOver_5 rfl (lv_at hl 0 rfl) ?_
  refine ttgX1_9_8 S K hs dX1_takeOver_6 ?_
  refine lv_iconst S.1 S.2.1 dX1_takeOver_9 k_iconst_0 ?_
  refine lv_bipush S.1 S.2.1 dX1_takeOver_10 k_bipush_32 ?_
  refine ttcp25_9 S K hs hl.1 u_259 (by decide) hf dX1_takeOver_12 ⟨Nat.le_of_ble_eq_true rfl, Nat.le_of_ble_eq_true rfl⟩ (Nat.le_of_ble_eq_true rfl) (Nat.le_of_ble_eq_true rfl) (fun σ1 H locs hs hf => ?_)
  refine lv_aload_n S.1 S.2.1 dX1_takeOver_15 rfl (lv_at hl 0 rfl) ?_
  refine lv_aload_n S.1 S.2.1 dX1_takeOver_16 rfl (lv_at hl 1 rfl) ?_
  refine ttgX1_21_24 S K hs dX1_takeOver_17 ?_
  refine ttpX1_21_8 S K hs hf dX1_takeOver_20 (fun σ2 H locs hs hf => ?_)
  refine lv_aload_n S.1 S.2.1 dX1_takeOver_23 rfl (lv_at hl 0 rfl) ?_
  refine lv_aload_n S.1 S.2.1 dX1_takeOver_24 rfl (lv_at hl 1 rfl) ?_
  refine ttgX1_25_24 S K hs dX1_takeOver_25 ?_
  refine ttpX1_25_8 S K hs hf dX1_takeOver_28 (fun σ3 H locs hs hf => ?_)
  refine lv_aload_n S.1 S.2.1 dX1_takeOver_31 rfl (lv_at hl 0 rfl) ?_
  refine lv_aload_n S.1 S.2.1 dX1_takeOver_32 rfl (lv_at hl 1 rfl) ?_
  refine ttgX1_28_24 S K hs dX1_takeOver_33 ?_
  refine ttpX1_28_8 S K hs hf dX1_takeOver_36 (fun σ4 H locs hs hf => ?_)
  refine lv_aload_n S.1 S.2.1 dX1_takeOver_39 rfl (lv_at hl 0 rfl) ?_
  refine lv_aload_n S.1 S.2.1 dX1_takeOver_40 rfl (lv_at hl 1 rfl) ?_
  refine ttgX1_31_24 S K hs dX1_takeOver_41 ?_
  refine ttpX1_31_8 S K hs hf dX1_takeOver_44 (fun σ5 H locs hs hf => ?_)
  refine lv_aload_n S.1 S.2.1 dX1_takeOver_47 rfl (lv_at hl 0 rfl) ?_
  refine lv_aload_n S.1 S.2.1 dX1_takeOver_48 rfl (lv_at hl 1 rfl) ?_
  refine ttgX1_34_24 S K hs dX1_takeOver_49 ?_
  refine ttpX1_34_8 S K hs hf dX1_takeOver_52 (fun σ6 H locs hs hf => ?_)
  refine lv_aload_n S.1 S.2.1 dX1_takeOver_55 rfl (lv_at hl 0 rfl) ?_
  refine lv_aload_n S.1 S.2.1 dX1_takeOver_56 rfl (lv_at hl 1 rfl) ?_
  refine ttgX1_37_24 S K hs dX1_takeOver_57 ?_
  refine ttpX1_37_8 S K hs hf dX1_takeOver_60 (fun σ7 H locs hs hf => ?_)
  exact ttrV S K hr hk hs hf dX1_takeOver_63
theorem metX1_takeOver (l : Launch) (D : va_G) (cI : ClassId) (g k2 : Nat → Nat) (τ : zSt) (σ : zSt) (σ0 : zSt) (hf : fX1_takeOver τ σ = some σ0) : Met l yX1_takeOver (Cond.code yX1_takeOver cX1_takeOver 2 none :: WA) rmX1_takeOver (ttPc D cI g k2 τ σ [.ref (g 8), .ref (k2 8)]) ((ttQv D cI g k2 τ σ0)) 0 0 (ttA g k2 τ) :=
  ttMet (by decide) (Nat.le_of_ble_eq_true rfl) (fun p e s m args below meth c H locs ls S K hr hk hl hs => bdX1_takeOver S K hr hk  _ _ hf hl hs)
set_option maxHeartbeats 4000000 in
set_option maxRecDepth 100000 in
theorem bdX3_takeOver {p : Program} {l : Launch} {e : Env} {s : State} {m : MethodId} {args : Array Value} {below : List Frame} {meth : Method} {c : Code} {H : Heap} {locs : List Loc} {ls : Array Slot} {D : va_G} {cI : ClassId} {g k2 : Nat → Nat} {τ : zSt} (S : CallFix p m c cX3_takeOver 2 s args WA RX3) (K : va_K D vwCl [(cI, .int)] s) (hr : meth.sig.returnType = none) (hk : meth.locks = false) (σ : zSt) (σ0 : zSt) (hf : fX3_takeOver τ σ = some σ0) (hl : lv_has ls 2 [(0, .ref (g 14)), (1, .ref (k2 14))]) (hs : ttS D cI g k2 τ s σ H locs) : W p l e rmX3_takeOver s m args below meth c H locs 0 0 (MQ below (ttQv D cI g k2 τ σ0) args s 0 0 (ttA g k2 τ)) (F0 m 0 ls []) := by
  unfold fX3_takeOver at hf
  refine lv_aload_n S.1 S.2.1 dX3_takeOver_0 rfl (lv_at hl 1 rfl) ?_
  refine ttgX3_9_30 S K hs dX3_takeOver_1 ?_
  refine lv_iconst S.1 S.2.1 dX3_takeOver_4 k_iconst_0 ?_
  refine lv_aload_n S.1 S.2.1 dX3_takeOver_5 rfl (lv_at hl 0 rfl) ?_
  refine ttgX3_9_14 S K hs dX3_takeOver_6 ?_
  refine lv_iconst S.1 S.2.1 dX3_takeOver_9 k_iconst_0 ?_
  refine lv_aload_n S.1 S.2.1 dX3_takeOver_10 rfl (lv_at hl 0 rfl) ?_
  refine ttgX3_9_14 S K hs dX3_takeOver_11 ?_
  refine ttal15 S K hs dX3_takeOver_14 ?_
  refine ttcp31_15 S K hs hl.1 u_269 (by decide) hf dX3_takeOver_15 ⟨Nat.le_of_ble_eq_true rfl, Nat.le_of_ble_eq_true rfl⟩ (Nat.le_of_ble_eq_true rfl) (Nat.le_of_ble_eq_true rfl) (fun σ1 H locs hs hf => ?_)
  refine lv_aload_n S.1 S.2.1 dX3_takeOver_18 rfl (lv_at hl 0 rfl) ?_
  refine lv_aload_n S.1 S.2.1 dX3_takeOver_19 rfl (lv_at hl 1 rfl) ?_
  refine ttgX3_21_30 S K hs dX3_takeOver_20 ?_
  refine ttpX3_21_14 S K hs hf dX3_takeOver_23 (fun σ2 H locs hs hf => ?_)
  exact ttrV S K hr hk hs hf dX3_takeOver_26
theorem metX3_takeOver (l : Launch) (D : va_G) (cI : ClassId) (g k2 : Nat → Nat) (τ : zSt) (σ : zSt) (σ0 : zSt) (hf : fX3_takeOver τ σ = some σ0) : Met l yX3_takeOver (Cond.code yX3_takeOver cX3_takeOver 2 none :: WA) rmX3_takeOver (ttPc D cI g k2 τ σ [.ref (g 14), .ref (k2 14)]) ((ttQv D cI g k2 τ σ0)) 0 0 (ttA g k2 τ) :=
  ttMet (by decide) (Nat.le_of_ble_eq_true rfl) (fun p e s m args below meth c H locs ls S K hr hk hl hs => bdX3_takeOver S K hr hk  _ _ hf hl hs)
set_option maxHeartbeats 4000000 in
set_option maxRecDepth 100000 in
theorem bdX7_takeOver {p : Program} {l : Launch} {e : Env} {s : State} {m : MethodId} {args : Array Value} {below : List Frame} {meth : Method} {c : Code} {H : Heap} {locs : List Loc} {ls : Array Slot} {D : va_G} {cI : ClassId} {g k2 : Nat → Nat} {τ : zSt} (S : CallFix p m c cX7_takeOver 2 s args WA RX7) (K : va_K D vwCl [(cI, .int)] s) (hr : meth.sig.returnType = none) (hk : meth.locks = false) (σ : zSt) (σ0 : zSt) (hf : fX7_takeOver τ σ = some σ0) (hl : lv_has ls 2 [(0, .ref (g 10)), (1, .ref (k2 10))]) (hs : ttS D cI g k2 τ s σ H locs) : W p l e rmX7_takeOver s m args below meth c H locs 0 0 (MQ below (ttQv D cI g k2 τ σ0) args s 0 0 (ttA g k2 τ)) (F0 m 0 ls []) := by
  unfold fX7_takeOver at hf
  refine lv_aload_n S.1 S.2.1 dX7_takeOver_0 rfl (lv_at hl 1 rfl) ?_
  refine ttgX7_9_26 S K hs dX7_takeOver_1 ?_
  refine lv_iconst S.1 S.2.1 dX7_takeOver_4 k_iconst_0 ?_
  refine lv_aload_n S.1 S.2.1 dX7_takeOver_5 rfl (lv_at hl 0 rfl) ?_
  refine ttgX7_9_10 S K hs dX7_takeOver_6 ?_
  refine lv_iconst S.1 S.2.1 dX7_takeOver_9 k_iconst_0 ?_
  refine lv_bipush S.1 S.2.1 dX7_takeOver_10 k_bipush_6 ?_
  refine ttcp27_11 S K hs hl.1 u_264 (by decide) hf dX7_takeOver_12 ⟨Nat.le_of_ble_eq_true rfl, Nat.le_of_ble_eq_true rfl⟩ (Nat.le_of_ble_eq_true rfl) (Nat.le_of_ble_eq_true rfl) (fun σ1 H locs hs hf => ?_)
  refine lv_aload_n S.1 S.2.1 dX7_takeOver_15 rfl (lv_at hl 1 rfl) ?_
  refine ttgX7_15_26 S K hs dX7_takeOver_16 ?_
  refine lv_iconst S.1 S.2.1 dX7_takeOver_19 k_iconst_0 ?_
  refine lv_aload_n S.1 S.2.1 dX7_takeOver_20 rfl (lv_at hl 0 rfl) ?_
  refine ttgX7_15_10 S K hs dX7_takeOver_21 ?_
  refine lv_iconst S.1 S.2.1 dX7_takeOver_24 k_iconst_0 ?_
  refine lv_bipush S.1 S.2.1 dX7_takeOver_25 k_bipush_6 ?_
  refine ttcp28_12 S K hs hl.1 u_264 (by decide) hf dX7_takeOver_27 ⟨Nat.le_of_ble_eq_true rfl, Nat.le_of_ble_eq_true rfl⟩ (Nat.le_of_ble_eq_true rfl) (Nat.le_of_ble_eq_true rfl) (fun σ2 H locs hs hf => ?_)
  refine lv_aload_n S.1 S.2.1 dX7_takeOver_30 rfl (lv_at hl 1 rfl) ?_
  refine ttgX7_18_26 S K hs dX7_takeOver_31 ?_
  refine lv_iconst S.1 S.2.1 dX7_takeOver_34 k_iconst_0 ?_
  refine lv_aload_n S.1 S.2.1 dX7_takeOver_35 rfl (lv_at hl 0 rfl) ?_
  refine ttgX7_18_10 S K hs dX7_takeOver_36 ?_
  refine lv_iconst S.1 S.2.1 dX7_takeOver_39 k_iconst_0 ?_
  refine lv_bipush S.1 S.2.1 dX7_takeOver_40 k_bipush_6 ?_
  refine ttcp29_13 S K hs hl.1 u_264 (by decide) hf dX7_takeOver_42 ⟨Nat.le_of_ble_eq_true rfl, Nat.le_of_ble_eq_true rfl⟩ (Nat.le_of_ble_eq_true rfl) (Nat.le_of_ble_eq_true rfl) (fun σ3 H locs hs hf => ?_)
  exact ttrV S K hr hk hs hf dX7_takeOver_45
theorem metX7_takeOver (l : Launch) (D : va_G) (cI : ClassId) (g k2 : Nat → Nat) (τ : zSt) (σ : zSt) (σ0 : zSt) (hf : fX7_takeOver τ σ = some σ0) : Met l yX7_takeOver (Cond.code yX7_takeOver cX7_takeOver 2 none :: WA) rmX7_takeOver (ttPc D cI g k2 τ σ [.ref (g 10), .ref (k2 10)]) ((ttQv D cI g k2 τ σ0)) 0 0 (ttA g k2 τ) :=
  ttMet (by decide) (Nat.le_of_ble_eq_true rfl) (fun p e s m args below meth c H locs ls S K hr hk hl hs => bdX7_takeOver S K hr hk  _ _ hf hl hs)
set_option maxHeartbeats 4000000 in
set_option maxRecDepth 100000 in
theorem bdX4_takeOver {p : Program} {l : Launch} {e : Env} {s : State} {m : MethodId} {args : Array Value} {below : List Frame} {meth : Method} {c : Code} {H : Heap} {locs : List Loc} {ls : Array Slot} {D : va_G} {cI : ClassId} {g k2 : Nat → Nat} {τ : zSt} (S : CallFix p m c cX4_takeOver 2 s args WA RX4) (K : va_K D vwCl [(cI, .int)] s) (hr : meth.sig.returnType = none) (hk : meth.locks = false) (σ : zSt) (σ0 : zSt) (hf : fX4_takeOver τ σ = some σ0) (hl : lv_has ls 2 [(0, .ref (g 0)), (1, .ref (k2 0))]) (hs : ttS D cI g k2 τ s σ H locs) : W p l e rmX4_takeOver s m args below meth c H locs 0 0 (MQ below (ttQv D cI g k2 τ σ0) args s 0 0 (ttA g k2 τ)) (F0 m 0 ls []) := by
  unfold fX4_takeOver at hf
  refine lv_aload_n S.1 S.2.1 dX4_takeOver_0 rfl (lv_at hl 1 rfl) ?_
  refine ttgX4_9_16 S K hs dX4_takeOver_1 ?_
  refine lv_iconst S.1 S.2.1 dX4_takeOver_4 k_iconst_0 ?_
  refine lv_aload_n S.1 S.2.1 dX4_takeOver_5 rfl (lv_at hl 0 rfl) ?_
  refine ttgX4_9_0 S K hs dX4_takeOver_6 ?_
  refine lv_iconst S.1 S.2.1 dX4_takeOver_9 k_iconst_0 ?_
  refine lv_bipush S.1 S.2.1 dX4_takeOver_10 k_bipush_32 ?_
  refine ttcp17_1 S K hs hl.1 u_246 (by decide) hf dX4_takeOver_12 ⟨Nat.le_of_ble_eq_true rfl, Nat.le_of_ble_eq_true rfl⟩ (Nat.le_of_ble_eq_true rfl) (Nat.le_of_ble_eq_true rfl) (fun σ1 H locs hs hf => ?_)
  refine lv_aload_n S.1 S.2.1 dX4_takeOver_15 rfl (lv_at hl 1 rfl) ?_
  refine ttgX4_15_16 S K hs dX4_takeOver_16 ?_
  refine lv_iconst S.1 S.2.1 dX4_takeOver_19 k_iconst_0 ?_
  refine lv_aload_n S.1 S.2.1 dX4_takeOver_20 rfl (lv_at hl 0 rfl) ?_
  refine ttgX4_15_0 S K hs dX4_takeOver_21 ?_
  refine lv_iconst S.1 S.2.1 dX4_takeOver_24 k_iconst_0 ?_
  refine lv_bipush S.1 S.2.1 dX4_takeOver_25 k_bipush_32 ?_
  refine ttcp18_2 S K hs hl.1 u_246 (by decide) hf dX4_takeOver_27 ⟨Nat.le_of_ble_eq_true rfl, Nat.le_of_ble_eq_true rfl⟩ (Nat.le_of_ble_eq_true rfl) (Nat.le_of_ble_eq_true rfl) (fun σ2 H locs hs hf => ?_)
  refine lv_aload_n S.1 S.2.1 dX4_takeOver_30 rfl (lv_at hl 0 rfl) ?_
  refine ttgX4_21_0 S K hs dX4_takeOver_31 ?_
  refine lv_aload_n S.1 S.2.1 dX4_takeOver_34 rfl (lv_at hl 1 rfl) ?_
  refine ttgX4_21_16 S K hs dX4_takeOver_35 ?_
  refine ttcU (ttV3 K hs) S K hs hl.1 hf (fun _ hX => metX0_takeOver _ _ _ _ _ _ _ _ hX) (cwX4_96 S.2.2.2.2 ⟨Nat.le_of_ble_eq_true rfl, Nat.le_of_ble_eq_true rfl⟩) rfl dX4_takeOver_38 rfl (Nat.le_of_ble_eq_true rfl) ⟨Nat.le_refl _, Nat.le_refl _⟩ (fun σ3 H locs hs hf => ?_)
  refine lv_aload_n S.1 S.2.1 dX4_takeOver_41 rfl (lv_at hl 0 rfl) ?_
  refine ttgX4_28_0 S K hs dX4_takeOver_42 ?_
  refine lv_aload_n S.1 S.2.1 dX4_takeOver_45 rfl (lv_at hl 1 rfl) ?_
  refine ttgX4_28_16 S K hs dX4_takeOver_46 ?_
  refine ttcU (ttV8 K hs) S K hs hl.1 hf (fun _ hX => metX1_takeOver _ _ _ _ _ _ _ _ hX) (cwX4_100 S.2.2.2.2 ⟨Nat.le_of_ble_eq_true rfl, Nat.le_of_ble_eq_true rfl⟩) rfl dX4_takeOver_49 rfl (Nat.le_of_ble_eq_true rfl) ⟨Nat.le_refl _, Nat.le_refl _⟩ (fun σ4 H locs hs hf => ?_)
  refine lv_aload_n S.1 S.2.1 dX4_takeOver_52 rfl (lv_at hl 0 rfl) ?_
  refine ttgX4_35_0 S K hs dX4_takeOver_53 ?_
  refine lv_aload_n S.1 S.2.1 dX4_takeOver_56 rfl (lv_at hl 1 rfl) ?_
  refine ttgX4_35_16 S K hs dX4_takeOver_57 ?_
  refine ttcU (ttV10 K hs) S K hs hl.1 hf (fun _ hX => metX7_takeOver _ _ _ _ _ _ _ _ hX) (cwX4_103 S.2.2.2.2 ⟨Nat.le_of_ble_eq_true rfl, Nat.le_of_ble_eq_true rfl⟩) rfl dX4_takeOver_60 rfl (Nat.le_of_ble_eq_true rfl) ⟨Nat.le_refl _, Nat.le_refl _⟩ (fun σ5 H locs hs hf => ?_)
  refine lv_aload_n S.1 S.2.1 dX4_takeOver_63 rfl (lv_at hl 0 rfl) ?_
  refine ttgX4_42_0 S K hs dX4_takeOver_64 ?_
  refine lv_aload_n S.1 S.2.1 dX4_takeOver_67 rfl (lv_at hl 1 rfl) ?_
  refine ttgX4_42_16 S K hs dX4_takeOver_68 ?_
  refine ttcU (ttV14 K hs) S K hs hl.1 hf (fun _ hX => metX3_takeOver _ _ _ _ _ _ _ _ hX) (cwX4_106 S.2.2.2.2 ⟨Nat.le_of_ble_eq_true rfl, Nat.le_of_ble_eq_true rfl⟩) rfl dX4_takeOver_71 rfl (Nat.le_of_ble_eq_true rfl) ⟨Nat.le_refl _, Nat.le_refl _⟩ (fun σ6 H locs hs hf => ?_)
  refine lv_aload_n S.1 S.2.1 dX4_takeOver_74 rfl (lv_at hl 0 rfl) ?_
  refine lv_aload_n S.1 S.2.1 dX4_takeOver_75 rfl (lv_at hl 1 rfl) ?_
  refine ttgX4_66_16 S K hs dX4_takeOver_76 ?_
  refine ttpX4_66_0 S K hs hf dX4_takeOver_79 (fun σ7 H locs hs hf => ?_)
  refine lv_aload_n S.1 S.2.1 dX4_takeOver_82 rfl (lv_at hl 0 rfl) ?_
  refine lv_aload_n S.1 S.2.1 dX4_takeOver_83 rfl (lv_at hl 1 rfl) ?_
  refine ttgX4_69_16 S K hs dX4_takeOver_84 ?_
  refine ttpX4_69_0 S K hs hf dX4_takeOver_87 (fun σ8 H locs hs hf => ?_)
  refine lv_aload_n S.1 S.2.1 dX4_takeOver_90 rfl (lv_at hl 0 rfl) ?_
  refine lv_aload_n S.1 S.2.1 dX4_takeOver_91 rfl (lv_at hl 1 rfl) ?_
  refine ttgX4_72_16 S K hs dX4_takeOver_92 ?_
  refine ttpX4_72_0 S K hs hf dX4_takeOver_95 (fun σ9 H locs hs hf => ?_)
  refine lv_aload_n S.1 S.2.1 dX4_takeOver_98 rfl (lv_at hl 0 rfl) ?_
  refine lv_aload_n S.1 S.2.1 dX4_takeOver_99 rfl (lv_at hl 1 rfl) ?_
  refine ttgX4_75_16 S K hs dX4_takeOver_100 ?_
  refine ttpX4_75_0 S K hs hf dX4_takeOver_103 (fun σ10 H locs hs hf => ?_)
  refine lv_aload_n S.1 S.2.1 dX4_takeOver_106 rfl (lv_at hl 0 rfl) ?_
  refine lv_aload_n S.1 S.2.1 dX4_takeOver_107 rfl (lv_at hl 1 rfl) ?_
  refine ttgX4_78_16 S K hs dX4_takeOver_108 ?_
  refine ttpX4_78_0 S K hs hf dX4_takeOver_111 (fun σ11 H locs hs hf => ?_)
  refine lv_aload_n S.1 S.2.1 dX4_takeOver_114 rfl (lv_at hl 0 rfl) ?_
  refine lv_aload_n S.1 S.2.1 dX4_takeOver_115 rfl (lv_at hl 1 rfl) ?_
  refine ttgX4_81_16 S K hs dX4_takeOver_116 ?_
  refine ttpX4_81_0 S K hs hf dX4_takeOver_119 (fun σ12 H locs hs hf => ?_)
  refine lv_aload_n S.1 S.2.1 dX4_takeOver_122 rfl (lv_at hl 0 rfl) ?_
  refine lv_aload_n S.1 S.2.1 dX4_takeOver_123 rfl (lv_at hl 1 rfl) ?_
  refine ttgX4_84_16 S K hs dX4_takeOver_124 ?_
  refine ttpX4_84_0 S K hs hf dX4_takeOver_127 (fun σ13 H locs hs hf => ?_)
  refine lv_aload_n S.1 S.2.1 dX4_takeOver_130 rfl (lv_at hl 0 rfl) ?_
  refine lv_aload_n S.1 S.2.1 dX4_takeOver_131 rfl (lv_at hl 1 rfl) ?_
  refine ttgX4_87_16 S K hs dX4_takeOver_132 ?_
  refine ttpX4_87_0 S K hs hf dX4_takeOver_135 (fun σ14 H locs hs hf => ?_)
  exact ttrV S K hr hk hs hf dX4_takeOver_138
theorem metX4_takeOver (l : Launch) (D : va_G) (cI : ClassId) (g k2 : Nat → Nat) (τ : zSt) (σ : zSt) (σ0 : zSt) (hf : fX4_takeOver τ σ = some σ0) : Met l yX4_takeOver (Cond.code yX4_takeOver cX4_takeOver 2 none :: WA) rmX4_takeOver (ttPc D cI g k2 τ σ [.ref (g 0), .ref (k2 0)]) ((ttQv D cI g k2 τ σ0)) 0 0 (ttA g k2 τ) :=
  ttMet (by decide) (Nat.le_of_ble_eq_true rfl) (fun p e s m args below meth c H locs ls S K hr hk hl hs => bdX4_takeOver S K hr hk  _ _ hf hl hs)
