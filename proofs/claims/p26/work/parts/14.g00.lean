/-! a machine: contracts (by wip/tools/gworld.py) -/
set_option maxHeartbeats 4000000 in
set_option maxRecDepth 100000 in
theorem bdJ6_bitCount_0f7a4 {p : Program} {l : Launch} {e : Env} {s : State} {m : MethodId} {args : Array Value} {below : List Frame} {meth : Method} {c : Code} {H : Heap} {locs : List Loc} {ls : Array Slot} {D : va_G} {cI : ClassId} {g : Nat → Nat} (S : CallFix p m c cJ6_bitCount_0f7a4 1 s args WA RJ6) (K : va_K D vwCl [(cI, .int)] s) (hr : meth.sig.returnType = (some .int)) (hk : meth.locks = false) (a0 : Int32) (σ : zSt) (r0 : Int32) (hf : fJ6_bitCount_0f7a4 a0 σ = some r0) (hl : lv_has ls 1 [(0, .int a0)]) (hs : gS D cI g s σ H locs) : W p l e rmJ6_bitCount_0f7a4 s m args below meth c H locs 0 0 (MQ below (gQi D cI g r0 σ) args s 0 0 (gA g)) (F0 m 0 ls []) := by
  unfold fJ6_bitCount_0f7a4 at hf
  refine lv_iload_n S.1 S.2.1 dJ6_bitCount_0f7a4_0 rfl (lv_at hl 0 rfl) ?_
  refine lv_iload_n S.1 S.2.1 dJ6_bitCount_0f7a4_1 rfl (lv_at hl 0 rfl) ?_
  refine lv_iconst S.1 S.2.1 dJ6_bitCount_0f7a4_2 k_iconst_1 ?_
  refine lv_iushr S.1 S.2.1 dJ6_bitCount_0f7a4_3 rfl ?_
  refine lv_ldcw (v := nI 1431655765) S.1 S.2.1 S.2.2.2.1 (S.2.2.2.2 _ (z_in0 _ (List.mem_of_getElem? (i := 385) (by decide +kernel)))) dJ6_bitCount_0f7a4_4 ?_
  refine lv_iand S.1 S.2.1 dJ6_bitCount_0f7a4_7 ?_
  refine lv_isub S.1 S.2.1 dJ6_bitCount_0f7a4_8 ?_
  refine lv_istore_n (lv' := [(0, .int (a0 - (((a0.toUInt32 >>> ((nI 1).toUInt32 &&& Int32.toUInt32 31)).toInt32) &&& (nI 1431655765))))]) S.1 S.2.1 dJ6_bitCount_0f7a4_9 rfl hl (by decide) rfl (fun ls hl => ?_)
  refine lv_iload_n S.1 S.2.1 dJ6_bitCount_0f7a4_10 rfl (lv_at hl 0 rfl) ?_
  refine lv_ldcw (v := nI 858993459) S.1 S.2.1 S.2.2.2.1 (S.2.2.2.2 _ (z_in0 _ (List.mem_of_getElem? (i := 386) (by decide +kernel)))) dJ6_bitCount_0f7a4_11 ?_
  refine lv_iand S.1 S.2.1 dJ6_bitCount_0f7a4_14 ?_
  refine lv_iload_n S.1 S.2.1 dJ6_bitCount_0f7a4_15 rfl (lv_at hl 0 rfl) ?_
  refine lv_iconst S.1 S.2.1 dJ6_bitCount_0f7a4_16 k_iconst_2 ?_
  refine lv_iushr S.1 S.2.1 dJ6_bitCount_0f7a4_17 rfl ?_
  refine lv_ldcw (v := nI 858993459) S.1 S.2.1 S.2.2.2.1 (S.2.2.2.2 _ (z_in0 _ (List.mem_of_getElem? (i := 386) (by decide +kernel)))) dJ6_bitCount_0f7a4_18 ?_
  refine lv_iand S.1 S.2.1 dJ6_bitCount_0f7a4_21 ?_
  refine lv_iadd S.1 S.2.1 dJ6_bitCount_0f7a4_22 ?_
  refine lv_istore_n (lv' := [(0, .int (((a0 - (((a0.toUInt32 >>> ((nI 1).toUInt32 &&& Int32.toUInt32 31)).toInt32) &&& (nI 1431655765))) &&& (nI 858993459)) + ((((a0 - (((a0.toUInt32 >>> ((nI 1).toUInt32 &&& Int32.toUInt32 31)).toInt32) &&& (nI 1431655765))).toUInt32 >>> ((nI 2).toUInt32 &&& Int32.toUInt32 31)).toInt32) &&& (nI 858993459))))]) S.1 S.2.1 dJ6_bitCount_0f7a4_23 rfl hl (by decide) rfl (fun ls hl => ?_)
  refine lv_iload_n S.1 S.2.1 dJ6_bitCount_0f7a4_24 rfl (lv_at hl 0 rfl) ?_
  refine lv_iload_n S.1 S.2.1 dJ6_bitCount_0f7a4_25 rfl (lv_at hl 0 rfl) ?_
  refine lv_iconst S.1 S.2.1 dJ6_bitCount_0f7a4_26 k_iconst_4 ?_
  refine lv_iushr S.1 S.2.1 dJ6_bitCount_0f7a4_27 rfl ?_
  refine lv_iadd S.1 S.2.1 dJ6_bitCount_0f7a4_28 ?_
  refine lv_ldcw (v := nI 252645135) S.1 S.2.1 S.2.2.2.1 (S.2.2.2.2 _ (z_in0 _ (List.mem_of_getElem? (i := 387) (by decide +kernel)))) dJ6_bitCount_0f7a4_29 ?_
  refine lv_iand S.1 S.2.1 dJ6_bitCount_0f7a4_32 ?_
  refine lv_istore_n (lv' := [(0, .int (((((a0 - (((a0.toUInt32 >>> ((nI 1).toUInt32 &&& Int32.toUInt32 31)).toInt32) &&& (nI 1431655765))) &&& (nI 858993459)) + ((((a0 - (((a0.toUInt32 >>> ((nI 1).toUInt32 &&& Int32.toUInt32 31)).toInt32) &&& (nI 1431655765))).toUInt32 >>> ((nI 2).toUInt32 &&& Int32.toUInt32 31)).toInt32) &&& (nI 858993459))) + (((((a0 - (((a0.toUInt32 >>> ((nI 1).toUInt32 &&& Int32.toUInt32 31)).toInt32) &&& (nI 1431655765))) &&& (nI 858993459)) + ((((a0 - (((a0.toUInt32 >>> ((nI 1).toUInt32 &&& Int32.toUInt32 31)).toInt32) &&& (nI 1431655765))).toUInt32 >>> ((nI 2).toUInt32 &&& Int32.toUInt32 31)).toInt32) &&& (nI 858993459))).toUInt32 >>> ((nI 4).toUInt32 &&& Int32.toUInt32 31)).toInt32)) &&& (nI 252645135)))]) S.1 S.2.1 dJ6_bitCount_0f7a4_33 rfl hl (by decide) rfl (fun ls hl => ?_)
  refine lv_iload_n S.1 S.2.1 dJ6_bitCount_0f7a4_34 rfl (lv_at hl 0 rfl) ?_
  refine lv_iload_n S.1 S.2.1 dJ6_bitCount_0f7a4_35 rfl (lv_at hl 0 rfl) ?_
  refine lv_bipush S.1 S.2.1 dJ6_bitCount_0f7a4_36 k_bipush_8 ?_
  refine lv_iushr S.1 S.2.1 dJ6_bitCount_0f7a4_38 rfl ?_
  refine lv_iadd S.1 S.2.1 dJ6_bitCount_0f7a4_39 ?_
  refine lv_istore_n (lv' := [(0, .int ((((((a0 - (((a0.toUInt32 >>> ((nI 1).toUInt32 &&& Int32.toUInt32 31)).toInt32) &&& (nI 1431655765))) &&& (nI 858993459)) + ((((a0 - (((a0.toUInt32 >>> ((nI 1).toUInt32 &&& Int32.toUInt32 31)).toInt32) &&& (nI 1431655765))).toUInt32 >>> ((nI 2).toUInt32 &&& Int32.toUInt32 31)).toInt32) &&& (nI 858993459))) + (((((a0 - (((a0.toUInt32 >>> ((nI 1).toUInt32 &&& Int32.toUInt32 31)).toInt32) &&& (nI 1431655765))) &&& (nI 858993459)) + ((((a0 - (((a0.toUInt32 >>> ((nI 1).toUInt32 &&& Int32.toUInt32 31)).toInt32) &&& (nI 1431655765))).toUInt32 >>> ((nI 2).toUInt32 &&& Int32.toUInt32 31)).toInt32) &&& (nI 858993459))).toUInt32 >>> ((nI 4).toUInt32 &&& Int32.toUInt32 31)).toInt32)) &&& (nI 252645135)) + (((((((a0 - (((a0.toUInt32 >>> ((nI 1).toUInt32 &&& Int32.toUInt32 31)).toInt32) &&& (nI 1431655765))) &&& (nI 858993459)) + ((((a0 - (((a0.toUInt32 >>> ((nI 1).toUInt32 &&& Int32.toUInt32 31)).toInt32) &&& (nI 1431655765))).toUInt32 >>> ((nI 2).toUInt32 &&& Int32.toUInt32 31)).toInt32) &&& (nI 858993459))) + (((((a0 - (((a0.toUInt32 >>> ((nI 1).toUInt32 &&& Int32.toUInt32 31)).toInt32) &&& (nI 1431655765))) &&& (nI 858993459)) + ((((a0 - (((a0.toUInt32 >>> ((nI 1).toUInt32 &&& Int32.toUInt32 31)).toInt32) &&& (nI 1431655765))).toUInt32 >>> ((nI 2).toUInt32 &&& Int32.toUInt32 31)).toInt32) &&& (nI 858993459))).toUInt32 >>> ((nI 4).toUInt32 &&& Int32.toUInt32 31)).toInt32)) &&& (nI 252645135)).toUInt32 >>> ((nI 8).toUInt32 &&& Int32.toUInt32 31)).toInt32)))]) S.1 S.2.1 dJ6_bitCount_0f7a4_40 rfl hl (by decide) rfl (fun ls hl => ?_)
  refine lv_iload_n S.1 S.2.1 dJ6_bitCount_0f7a4_41 rfl (lv_at hl 0 rfl) ?_
  refine lv_iload_n S.1 S.2.1 dJ6_bitCount_0f7a4_42 rfl (lv_at hl 0 rfl) ?_
  refine lv_bipush S.1 S.2.1 dJ6_bitCount_0f7a4_43 k_bipush_16 ?_
  refine lv_iushr S.1 S.2.1 dJ6_bitCount_0f7a4_45 rfl ?_
  refine lv_iadd S.1 S.2.1 dJ6_bitCount_0f7a4_46 ?_
  refine lv_istore_n (lv' := [(0, .int (((((((a0 - (((a0.toUInt32 >>> ((nI 1).toUInt32 &&& Int32.toUInt32 31)).toInt32) &&& (nI 1431655765))) &&& (nI 858993459)) + ((((a0 - (((a0.toUInt32 >>> ((nI 1).toUInt32 &&& Int32.toUInt32 31)).toInt32) &&& (nI 1431655765))).toUInt32 >>> ((nI 2).toUInt32 &&& Int32.toUInt32 31)).toInt32) &&& (nI 858993459))) + (((((a0 - (((a0.toUInt32 >>> ((nI 1).toUInt32 &&& Int32.toUInt32 31)).toInt32) &&& (nI 1431655765))) &&& (nI 858993459)) + ((((a0 - (((a0.toUInt32 >>> ((nI 1).toUInt32 &&& Int32.toUInt32 31)).toInt32) &&& (nI 1431655765))).toUInt32 >>> ((nI 2).toUInt32 &&& Int32.toUInt32 31)).toInt32) &&& (nI 858993459))).toUInt32 >>> ((nI 4).toUInt32 &&& Int32.toUInt32 31)).toInt32)) &&& (nI 252645135)) + (((((((a0 - (((a0.toUInt32 >>> ((nI 1).toUInt32 &&& Int32.toUInt32 31)).toInt32) &&& (nI 1431655765))) &&& (nI 858993459)) + ((((a0 - (((a0.toUInt32 >>> ((nI 1).toUInt32 &&& Int32.toUInt32 31)).toInt32) &&& (nI 1431655765))).toUInt32 >>> ((nI 2).toUInt32 &&& Int32.toUInt32 31)).toInt32) &&& (nI 858993459))) + (((((a0 - (((a0.toUInt32 >>> ((nI 1).toUInt32 &&& Int32.toUInt32 31)).toInt32) &&& (nI 1431655765))) &&& (nI 858993459)) + ((((a0 - (((a0.toUInt32 >>> ((nI 1).toUInt32 &&& Int32.toUInt32 31)).toInt32) &&& (nI 1431655765))).toUInt32 >>> ((nI 2).toUInt32 &&& Int32.toUInt32 31)).toInt32) &&& (nI 858993459))).toUInt32 >>> ((nI 4).toUInt32 &&& Int32.toUInt32 31)).toInt32)) &&& (nI 252645135)).toUInt32 >>> ((nI 8).toUInt32 &&& Int32.toUInt32 31)).toInt32)) + ((((((((a0 - (((a0.toUInt32 >>> ((nI 1).toUInt32 &&& Int32.toUInt32 31)).toInt32) &&& (nI 1431655765))) &&& (nI 858993459)) + ((((a0 - (((a0.toUInt32 >>> ((nI 1).toUInt32 &&& Int32.toUInt32 31)).toInt32) &&& (nI 1431655765))).toUInt32 >>> ((nI 2).toUInt32 &&& Int32.toUInt32 31)).toInt32) &&& (nI 858993459))) + (((((a0 - (((a0.toUInt32 >>> ((nI 1).toUInt32 &&& Int32.toUInt32 31)).toInt32) &&& (nI 1431655765))) &&& (nI 858993459)) + ((((a0 - (((a0.toUInt32 >>> ((nI 1).toUInt32 &&& Int32.toUInt32 31)).toInt32) &&& (nI 1431655765))).toUInt32 >>> ((nI 2).toUInt32 &&& Int32.toUInt32 31)).toInt32) &&& (nI 858993459))).toUInt32 >>> ((nI 4).toUInt32 &&& Int32.toUInt32 31)).toInt32)) &&& (nI 252645135)) + (((((((a0 - (((a0.toUInt32 >>> ((nI 1).toUInt32 &&& Int32.toUInt32 31)).toInt32) &&& (nI 1431655765))) &&& (nI 858993459)) + ((((a0 - (((a0.toUInt32 >>> ((nI 1).toUInt32 &&& Int32.toUInt32 31)).toInt32) &&& (nI 1431655765))).toUInt32 >>> ((nI 2).toUInt32 &&& Int32.toUInt32 31)).toInt32) &&& (nI 858993459))) + (((((a0 - (((a0.toUInt32 >>> ((nI 1).toUInt32 &&& Int32.toUInt32 31)).toInt32) &&& (nI 1431655765))) &&& (nI 858993459)) + ((((a0 - (((a0.toUInt32 >>> ((nI 1).toUInt32 &&& Int32.toUInt32 31)).toInt32) &&& (nI 1431655765))).toUInt32 >>> ((nI 2).toUInt32 &&& Int32.toUInt32 31)).toInt32) &&& (nI 858993459))).toUInt32 >>> ((nI 4).toUInt32 &&& Int32.toUInt32 31)).toInt32)) &&& (nI 252645135)).toUInt32 >>> ((nI 8).toUInt32 &&& Int32.toUInt32 31)).toInt32)).toUInt32 >>> ((nI 16).toUInt32 &&& Int32.toUInt32 31)).toInt32)))]) S.1 S.2.1 dJ6_bitCount_0f7a4_47 rfl hl (by decide) rfl (fun ls hl => ?_)
  refine lv_iload_n S.1 S.2.1 dJ6_bitCount_0f7a4_48 rfl (lv_at hl 0 rfl) ?_
  refine lv_bipush S.1 S.2.1 dJ6_bitCount_0f7a4_49 k_bipush_63 ?_
  refine lv_iand S.1 S.2.1 dJ6_bitCount_0f7a4_51 ?_
  exact grP S K hr hk hs hf dJ6_bitCount_0f7a4_52
theorem metJ6_bitCount_0f7a4 (l : Launch) (D : va_G) (cI : ClassId) (g : Nat → Nat) (a0 : Int32) (σ : zSt) (r0 : Int32) (hf : fJ6_bitCount_0f7a4 a0 σ = some r0) : Met l yJ6_bitCount_0f7a4 (Cond.code yJ6_bitCount_0f7a4 cJ6_bitCount_0f7a4 1 (some .int) :: WA) rmJ6_bitCount_0f7a4 (gPc D cI g σ [.int a0]) ((gQi D cI g r0 σ)) 0 0 (gA g) :=
  gMet (by decide) (Nat.le_of_ble_eq_true rfl) (fun p e s m args below meth c H locs ls S K hr hk hl hs => bdJ6_bitCount_0f7a4 S K hr hk _ _ _ hf hl hs)
set_option maxHeartbeats 4000000 in
set_option maxRecDepth 100000 in
theorem bdX0_add {p : Program} {l : Launch} {e : Env} {s : State} {m : MethodId} {args : Array Value} {below : List Frame} {meth : Method} {c : Code} {H : Heap} {locs : List Loc} {ls : Array Slot} {D : va_G} {cI : ClassId} {g : Nat → Nat} (S : CallFix p m c cX0_add 6 s args WA RX0) (K : va_K D vwCl [(cI, .int)] s) (hr : meth.sig.returnType = none) (hk : meth.locks = false) (a0 : Int32) (a1 : Int32) (a2 : Int32) (a3 : Int32) (σ : zSt) (σ0 : zSt) (hf : fX0_add a0 a1 a2 a3 σ = some σ0) (hl : lv_has ls 6 [(0, .ref (g 3)), (1, .int a0), (2, .int a1), (3, .int a2), (4, .int a3)]) (hs : gS D cI g s σ H locs) : W p l e rmX0_add s m args below meth c H locs 0 0 (MQ below (gQv D cI g σ0) args s 0 0 (gA g)) (F0 m 0 ls []) := by
  unfold fX0_add at hf
  refine lv_iload_n S.1 S.2.1 dX0_add_0 rfl (lv_at hl 1 rfl) ?_
  refine lv_bipush S.1 S.2.1 dX0_add_1 k_bipush_32 ?_
  refine lv_imul S.1 S.2.1 dX0_add_3 ?_
  refine lv_iload_n S.1 S.2.1 dX0_add_4 rfl (lv_at hl 2 rfl) ?_
  refine lv_iadd S.1 S.2.1 dX0_add_5 ?_
  refine lv_istore (lv' := [(5, .int ((a0 * (nI 32)) + a1)), (0, .ref (g 3)), (1, .int a0), (2, .int a1), (3, .int a2), (4, .int a3)]) S.1 S.2.1 dX0_add_6 hl (by decide) rfl (fun ls hl => ?_)
  refine lv_aload_n S.1 S.2.1 dX0_add_8 rfl (lv_at hl 1 rfl) ?_
  refine ggX0_9_3 S K hs dX0_add_9 ?_
  refine lv_iload S.1 S.2.1 dX0_add_12 (lv_at hl 0 rfl) ?_
  refine lv_iconst S.1 S.2.1 dX0_add_14 k_iconst_1 ?_
  refine gst4 S K hs hf dX0_add_15 (fun σ1 H locs hs hf => ?_)
  refine lv_aload_n S.1 S.2.1 dX0_add_16 rfl (lv_at hl 1 rfl) ?_
  refine ggX0_15_3 S K hs dX0_add_17 ?_
  refine lv_iload S.1 S.2.1 dX0_add_20 (lv_at hl 0 rfl) ?_
  refine lv_iload_n S.1 S.2.1 dX0_add_22 rfl (lv_at hl 4 rfl) ?_
  refine gst5 S K hs hf dX0_add_23 (fun σ2 H locs hs hf => ?_)
  refine lv_aload_n S.1 S.2.1 dX0_add_24 rfl (lv_at hl 1 rfl) ?_
  refine ggX0_18_3 S K hs dX0_add_25 ?_
  refine lv_iload S.1 S.2.1 dX0_add_28 (lv_at hl 0 rfl) ?_
  refine lv_iload S.1 S.2.1 dX0_add_30 (lv_at hl 5 rfl) ?_
  refine gst6 S K hs hf dX0_add_32 (fun σ3 H locs hs hf => ?_)
  exact grV S K hr hk hs hf dX0_add_33
theorem metX0_add (l : Launch) (D : va_G) (cI : ClassId) (g : Nat → Nat) (a0 : Int32) (a1 : Int32) (a2 : Int32) (a3 : Int32) (σ : zSt) (σ0 : zSt) (hf : fX0_add a0 a1 a2 a3 σ = some σ0) : Met l yX0_add (Cond.code yX0_add cX0_add 6 none :: WA) rmX0_add (gPc D cI g σ [.ref (g 3), .int a0, .int a1, .int a2, .int a3]) ((gQv D cI g σ0)) 0 0 (gA g) :=
  gMet (by decide) (Nat.le_of_ble_eq_true rfl) (fun p e s m args below meth c H locs ls S K hr hk hl hs => bdX0_add S K hr hk _ _ _ _ _ _ hf hl hs)
set_option maxHeartbeats 4000000 in
set_option maxRecDepth 100000 in
theorem bdX0_countOf {p : Program} {l : Launch} {e : Env} {s : State} {m : MethodId} {args : Array Value} {below : List Frame} {meth : Method} {c : Code} {H : Heap} {locs : List Loc} {ls : Array Slot} {D : va_G} {cI : ClassId} {g : Nat → Nat} (S : CallFix p m c cX0_countOf 4 s args WA RX0) (K : va_K D vwCl [(cI, .int)] s) (hr : meth.sig.returnType = (some .int)) (hk : meth.locks = false) (a0 : Int32) (σ : zSt) (r0 : Int32) (hf : fX0_countOf a0 σ = some r0) (hl : lv_has ls 4 [(0, .ref (g 3)), (1, .int a0)]) (hs : gS D cI g s σ H locs) : W p l e rmX0_countOf s m args below meth c H locs 0 0 (MQ below (gQi D cI g r0 σ) args s 0 0 (gA g)) (F0 m 0 ls []) := by
  obtain ⟨res, hres⟩ : ∃ q, q = r0 := ⟨_, rfl⟩
  rw [← hres] at hf
  have L4 : ∀ (K4 : Int32 → Option (Int32)) (hK4 : ∀ (y2 : Int32), K4 y2 = some res → gGo p l e rmX0_countOf s m args below meth c (MQ below (gQi D cI g r0 σ) args s 0 0 (gA g)) D cI g 4 σ [(0, .ref (g 3)), (2, .int y2)] 33 []) (n : Nat) (y1 : Int32) (y2 : Int32) (y3 : Int32), fX0_countOf_l4 σ K4 n y1 y2 y3 = some res → gGo p l e rmX0_countOf s m args below meth c (MQ below (gQi D cI g r0 σ) args s 0 0 (gA g)) D cI g 4 σ [(0, .ref (g 3)), (1, .int y1), (2, .int y2), (3, .int y3)] 4 [] := by
    intro K4 hK4 n
    induction n with
    | zero =>
      intro y1 y2 y3 hf H locs ls hl hs
      rw [fX0_countOf_l4] at hf
      cases hf
    | succ n ih =>
      intro y1 y2 y3 hf H locs ls hl hs
      rw [fX0_countOf_l4] at hf
      refine lv_iload_n S.1 S.2.1 dX0_countOf_4 rfl (lv_at hl 3 rfl) ?_
      refine lv_bipush S.1 S.2.1 dX0_countOf_5 k_bipush_6 ?_
      refine z_icmp_ge (tgt := 33) S hf dX0_countOf_7 (by decide) (fun hf => ?_) (fun hf => ?_)
      · exact hK4 _ hf _ _ _ (lv_sub hl [0, 2] rfl) hs
      · refine lv_aload_n S.1 S.2.1 dX0_countOf_10 rfl (lv_at hl 0 rfl) ?_
        refine ggX0_9_3 S K hs dX0_countOf_11 ?_
        refine lv_iload_n S.1 S.2.1 dX0_countOf_14 rfl (lv_at hl 3 rfl) ?_
        refine lv_bipush S.1 S.2.1 dX0_countOf_15 k_bipush_32 ?_
        refine lv_imul S.1 S.2.1 dX0_countOf_17 ?_
        refine lv_iload_n S.1 S.2.1 dX0_countOf_18 rfl (lv_at hl 1 rfl) ?_
        refine lv_iadd S.1 S.2.1 dX0_countOf_19 ?_
        refine gld4 S K hs hf dX0_countOf_20 (fun x1 hf => ?_)
        refine z_if_eq (tgt := 27) S hf dX0_countOf_21 (by decide) (fun hf => ?_) (fun hf => ?_)
        · refine lv_iinc (v := y3 + nI 1) (lv' := [(3, .int (y3 + nI 1)), (0, .ref (g 3)), (1, .int y1), (2, .int y2)]) S.1 S.2.1 dX0_countOf_27 hl (k := 3) rfl (by rw [k_iconst_1]) (by decide) rfl (fun ls hl => ?_)
          refine lv_goto (tgt := 4) S.1 S.2.1 dX0_countOf_30 (by decide) ?_
          exact ih _ _ _ hf _ _ _ (lv_sub hl [1, 2, 3, 0] rfl) hs
        · refine lv_iinc (v := y2 + nI 1) (lv' := [(2, .int (y2 + nI 1)), (0, .ref (g 3)), (1, .int y1), (3, .int y3)]) S.1 S.2.1 dX0_countOf_24 hl (k := 2) rfl (by rw [k_iconst_1]) (by decide) rfl (fun ls hl => ?_)
          refine lv_iinc (v := y3 + nI 1) (lv' := [(3, .int (y3 + nI 1)), (2, .int (y2 + nI 1)), (0, .ref (g 3)), (1, .int y1)]) S.1 S.2.1 dX0_countOf_27 hl (k := 3) rfl (by rw [k_iconst_1]) (by decide) rfl (fun ls hl => ?_)
          refine lv_goto (tgt := 4) S.1 S.2.1 dX0_countOf_30 (by decide) ?_
          exact ih _ _ _ hf _ _ _ (lv_sub hl [2, 3, 1, 0] rfl) hs
  unfold fX0_countOf at hf
  refine lv_iconst S.1 S.2.1 dX0_countOf_0 k_iconst_0 ?_
  refine lv_istore_n (lv' := [(2, .int (nI 0)), (0, .ref (g 3)), (1, .int a0)]) S.1 S.2.1 dX0_countOf_1 rfl hl (by decide) rfl (fun ls hl => ?_)
  refine lv_iconst S.1 S.2.1 dX0_countOf_2 k_iconst_0 ?_
  refine lv_istore_n (lv' := [(3, .int (nI 0)), (2, .int (nI 0)), (0, .ref (g 3)), (1, .int a0)]) S.1 S.2.1 dX0_countOf_3 rfl hl (by decide) rfl (fun ls hl => ?_)
  refine L4 _ (fun x2 hf H locs ls hl hs => ?_) _ _ _ _ hf _ _ _ (lv_sub hl [2, 3, 1, 0] rfl) hs
  refine lv_iload_n S.1 S.2.1 dX0_countOf_33 rfl (lv_at hl 1 rfl) ?_
  exact grP S K hr hk hs (hf.trans (congrArg some hres)) dX0_countOf_34
theorem metX0_countOf (l : Launch) (D : va_G) (cI : ClassId) (g : Nat → Nat) (a0 : Int32) (σ : zSt) (r0 : Int32) (hf : fX0_countOf a0 σ = some r0) : Met l yX0_countOf (Cond.code yX0_countOf cX0_countOf 4 (some .int) :: WA) rmX0_countOf (gPc D cI g σ [.ref (g 3), .int a0]) ((gQi D cI g r0 σ)) 0 0 (gA g) :=
  gMet (by decide) (Nat.le_of_ble_eq_true rfl) (fun p e s m args below meth c H locs ls S K hr hk hl hs => bdX0_countOf S K hr hk _ _ _ hf hl hs)
set_option maxHeartbeats 4000000 in
set_option maxRecDepth 100000 in
theorem bdX0_usedLater {p : Program} {l : Launch} {e : Env} {s : State} {m : MethodId} {args : Array Value} {below : List Frame} {meth : Method} {c : Code} {H : Heap} {locs : List Loc} {ls : Array Slot} {D : va_G} {cI : ClassId} {g : Nat → Nat} (S : CallFix p m c cX0_usedLater 7 s args WA RX0) (K : va_K D vwCl [(cI, .int)] s) (hr : meth.sig.returnType = (some .int)) (hk : meth.locks = false) (a0 : Int32) (a1 : Int32) (σ : zSt) (r0 : Int32) (hf : fX0_usedLater a0 a1 σ = some r0) (hl : lv_has ls 7 [(0, .ref (g 3)), (1, .int a0), (2, .int a1)]) (hs : gS D cI g s σ H locs) : W p l e rmX0_usedLater s m args below meth c H locs 0 0 (MQ below (gQi D cI g r0 σ) args s 0 0 (gA g)) (F0 m 0 ls []) := by
  obtain ⟨res, hres⟩ : ∃ q, q = r0 := ⟨_, rfl⟩
  rw [← hres] at hf
  have L18 : ∀ (K18 : Int32 → Option (Int32)) (hK18 : ∀ (y4 : Int32), K18 y4 = some res → gGo p l e rmX0_usedLater s m args below meth c (MQ below (gQi D cI g r0 σ) args s 0 0 (gA g)) D cI g 7 σ [(0, .ref (g 3)), (4, .int y4)] 64 []) (n : Nat) (y1 : Int32) (y3 : Int32) (y4 : Int32) (y5 : Int32), fX0_usedLater_l18 σ K18 n y1 y3 y4 y5 = some res → gGo p l e rmX0_usedLater s m args below meth c (MQ below (gQi D cI g r0 σ) args s 0 0 (gA g)) D cI g 7 σ [(0, .ref (g 3)), (1, .int y1), (3, .int y3), (4, .int y4), (5, .int y5)] 18 [] := by
    intro K18 hK18 n
    induction n with
    | zero =>
      intro y1 y3 y4 y5 hf H locs ls hl hs
      rw [fX0_usedLater_l18] at hf
      cases hf
    | succ n ih =>
      intro y1 y3 y4 y5 hf H locs ls hl hs
      rw [fX0_usedLater_l18] at hf
      refine lv_iload S.1 S.2.1 dX0_usedLater_18 (lv_at hl 4 rfl) ?_
      refine lv_bipush S.1 S.2.1 dX0_usedLater_20 k_bipush_32 ?_
      refine z_icmp_ge (tgt := 64) S hf dX0_usedLater_22 (by decide) (fun hf => ?_) (fun hf => ?_)
      · exact hK18 _ hf _ _ _ (lv_sub hl [0, 3] rfl) hs
      · refine lv_iload_n S.1 S.2.1 dX0_usedLater_25 rfl (lv_at hl 1 rfl) ?_
        refine lv_bipush S.1 S.2.1 dX0_usedLater_26 k_bipush_32 ?_
        refine lv_imul S.1 S.2.1 dX0_usedLater_28 ?_
        refine lv_iload S.1 S.2.1 dX0_usedLater_29 (lv_at hl 4 rfl) ?_
        refine lv_iadd S.1 S.2.1 dX0_usedLater_31 ?_
        refine lv_istore (lv' := [(6, .int ((y1 * (nI 32)) + y5)), (0, .ref (g 3)), (1, .int y1), (3, .int y3), (4, .int y4), (5, .int y5)]) S.1 S.2.1 dX0_usedLater_32 hl (by decide) rfl (fun ls hl => ?_)
        refine lv_aload_n S.1 S.2.1 dX0_usedLater_34 rfl (lv_at hl 1 rfl) ?_
        refine ggX0_9_3 S K hs dX0_usedLater_35 ?_
        refine lv_iload S.1 S.2.1 dX0_usedLater_38 (lv_at hl 0 rfl) ?_
        refine gld4 S K hs hf dX0_usedLater_40 (fun x2 hf => ?_)
        refine z_if_eq (tgt := 58) S hf dX0_usedLater_41 (by decide) (fun hf => ?_) (fun hf => ?_)
        · refine lv_iinc (v := y5 + nI 1) (lv' := [(5, .int (y5 + nI 1)), (6, .int ((y1 * (nI 32)) + y5)), (0, .ref (g 3)), (1, .int y1), (3, .int y3), (4, .int y4)]) S.1 S.2.1 dX0_usedLater_58 hl (k := 5) rfl (by rw [k_iconst_1]) (by decide) rfl (fun ls hl => ?_)
          refine lv_goto (tgt := 18) S.1 S.2.1 dX0_usedLater_61 (by decide) ?_
          exact ih _ _ _ _ hf _ _ _ (lv_sub hl [2, 3, 4, 5, 0] rfl) hs
        · refine lv_aload_n S.1 S.2.1 dX0_usedLater_44 rfl (lv_at hl 1 rfl) ?_
          refine ggX0_21_3 S K hs dX0_usedLater_45 ?_
          refine lv_iload S.1 S.2.1 dX0_usedLater_48 (lv_at hl 0 rfl) ?_
          refine gld7 S K hs hf dX0_usedLater_50 (fun x3 hf => ?_)
          refine lv_iload_n S.1 S.2.1 dX0_usedLater_51 rfl (lv_at hl 3 rfl) ?_
          refine z_icmp_le (tgt := 58) S hf dX0_usedLater_52 (by decide) (fun hf => ?_) (fun hf => ?_)
          · refine lv_iinc (v := y5 + nI 1) (lv' := [(5, .int (y5 + nI 1)), (6, .int ((y1 * (nI 32)) + y5)), (0, .ref (g 3)), (1, .int y1), (3, .int y3), (4, .int y4)]) S.1 S.2.1 dX0_usedLater_58 hl (k := 5) rfl (by rw [k_iconst_1]) (by decide) rfl (fun ls hl => ?_)
            refine lv_goto (tgt := 18) S.1 S.2.1 dX0_usedLater_61 (by decide) ?_
            exact ih _ _ _ _ hf _ _ _ (lv_sub hl [2, 3, 4, 5, 0] rfl) hs
          · refine lv_iinc (v := y4 + nI 1) (lv' := [(4, .int (y4 + nI 1)), (6, .int ((y1 * (nI 32)) + y5)), (0, .ref (g 3)), (1, .int y1), (3, .int y3), (5, .int y5)]) S.1 S.2.1 dX0_usedLater_55 hl (k := 4) rfl (by rw [k_iconst_1]) (by decide) rfl (fun ls hl => ?_)
            refine lv_iinc (v := y5 + nI 1) (lv' := [(5, .int (y5 + nI 1)), (4, .int (y4 + nI 1)), (6, .int ((y1 * (nI 32)) + y5)), (0, .ref (g 3)), (1, .int y1), (3, .int y3)]) S.1 S.2.1 dX0_usedLater_58 hl (k := 5) rfl (by rw [k_iconst_1]) (by decide) rfl (fun ls hl => ?_)
            refine lv_goto (tgt := 18) S.1 S.2.1 dX0_usedLater_61 (by decide) ?_
            exact ih _ _ _ _ hf _ _ _ (lv_sub hl [3, 4, 5, 1, 0] rfl) hs
  unfold fX0_usedLater at hf
  refine lv_aload_n S.1 S.2.1 dX0_usedLater_0 rfl (lv_at hl 0 rfl) ?_
  refine ggX0_21_3 S K hs dX0_usedLater_1 ?_
  refine lv_iload_n S.1 S.2.1 dX0_usedLater_4 rfl (lv_at hl 1 rfl) ?_
  refine lv_bipush S.1 S.2.1 dX0_usedLater_5 k_bipush_32 ?_
  refine lv_imul S.1 S.2.1 dX0_usedLater_7 ?_
  refine lv_iload_n S.1 S.2.1 dX0_usedLater_8 rfl (lv_at hl 2 rfl) ?_
  refine lv_iadd S.1 S.2.1 dX0_usedLater_9 ?_
  refine gld7 S K hs hf dX0_usedLater_10 (fun x1 hf => ?_)
  refine lv_istore_n (lv' := [(3, .int x1), (0, .ref (g 3)), (1, .int a0), (2, .int a1)]) S.1 S.2.1 dX0_usedLater_11 rfl hl (by decide) rfl (fun ls hl => ?_)
  refine lv_iconst S.1 S.2.1 dX0_usedLater_12 k_iconst_0 ?_
  refine lv_istore (lv' := [(4, .int (nI 0)), (3, .int x1), (0, .ref (g 3)), (1, .int a0), (2, .int a1)]) S.1 S.2.1 dX0_usedLater_13 hl (by decide) rfl (fun ls hl => ?_)
  refine lv_iconst S.1 S.2.1 dX0_usedLater_15 k_iconst_0 ?_
  refine lv_istore (lv' := [(5, .int (nI 0)), (4, .int (nI 0)), (3, .int x1), (0, .ref (g 3)), (1, .int a0), (2, .int a1)]) S.1 S.2.1 dX0_usedLater_16 hl (by decide) rfl (fun ls hl => ?_)
  refine L18 _ (fun x4 hf H locs ls hl hs => ?_) _ _ _ _ _ hf _ _ _ (lv_sub hl [3, 4, 2, 1, 0] rfl) hs
  refine lv_iload S.1 S.2.1 dX0_usedLater_64 (lv_at hl 1 rfl) ?_
  exact grP S K hr hk hs (hf.trans (congrArg some hres)) dX0_usedLater_66
theorem metX0_usedLater (l : Launch) (D : va_G) (cI : ClassId) (g : Nat → Nat) (a0 : Int32) (a1 : Int32) (σ : zSt) (r0 : Int32) (hf : fX0_usedLater a0 a1 σ = some r0) : Met l yX0_usedLater (Cond.code yX0_usedLater cX0_usedLater 7 (some .int) :: WA) rmX0_usedLater (gPc D cI g σ [.ref (g 3), .int a0, .int a1]) ((gQi D cI g r0 σ)) 0 0 (gA g) :=
  gMet (by decide) (Nat.le_of_ble_eq_true rfl) (fun p e s m args below meth c H locs ls S K hr hk hl hs => bdX0_usedLater S K hr hk _ _ _ _ hf hl hs)
set_option maxHeartbeats 4000000 in
set_option maxRecDepth 100000 in
theorem bdX0_fact {p : Program} {l : Launch} {e : Env} {s : State} {m : MethodId} {args : Array Value} {below : List Frame} {meth : Method} {c : Code} {H : Heap} {locs : List Loc} {ls : Array Slot} {D : va_G} {cI : ClassId} {g : Nat → Nat} (S : CallFix p m c cX0_fact 5 s args WA RX0) (K : va_K D vwCl [(cI, .int)] s) (hr : meth.sig.returnType = (some .int)) (hk : meth.locks = false) (a0 : Int32) (a1 : Int32) (a2 : Int32) (σ : zSt) (r0 : Int32) (hf : fX0_fact a0 a1 a2 σ = some r0) (hl : lv_has ls 5 [(0, .ref (g 3)), (1, .int a0), (2, .int a1), (3, .int a2)]) (hs : gS D cI g s σ H locs) : W p l e rmX0_fact s m args below meth c H locs 0 0 (MQ below (gQi D cI g r0 σ) args s 0 0 (gA g)) (F0 m 0 ls []) := by
  unfold fX0_fact at hf
  refine lv_iload_n S.1 S.2.1 dX0_fact_0 rfl (lv_at hl 1 rfl) ?_
  refine lv_bipush S.1 S.2.1 dX0_fact_1 k_bipush_32 ?_
  refine lv_imul S.1 S.2.1 dX0_fact_3 ?_
  refine lv_iload_n S.1 S.2.1 dX0_fact_4 rfl (lv_at hl 2 rfl) ?_
  refine lv_iadd S.1 S.2.1 dX0_fact_5 ?_
  refine lv_istore (lv' := [(4, .int ((a0 * (nI 32)) + a1)), (0, .ref (g 3)), (1, .int a0), (2, .int a1), (3, .int a2)]) S.1 S.2.1 dX0_fact_6 hl (by decide) rfl (fun ls hl => ?_)
  refine lv_iload_n S.1 S.2.1 dX0_fact_8 rfl (lv_at hl 4 rfl) ?_
  refine z_if_ne (tgt := 20) S hf dX0_fact_9 (by decide) (fun hf => ?_) (fun hf => ?_)
  · refine lv_aload_n S.1 S.2.1 dX0_fact_20 rfl (lv_at hl 1 rfl) ?_
    refine ggX0_9_3 S K hs dX0_fact_21 ?_
    refine lv_iload S.1 S.2.1 dX0_fact_24 (lv_at hl 0 rfl) ?_
    refine gld4 S K hs hf dX0_fact_26 (fun x1 hf => ?_)
    refine z_if_ne (tgt := 32) S hf dX0_fact_27 (by decide) (fun hf => ?_) (fun hf => ?_)
    · refine lv_iload_n S.1 S.2.1 dX0_fact_32 rfl (lv_at hl 4 rfl) ?_
      refine z_case (v := 1) hf (fun hn0 hf => ?_) (fun hn0 hf => ?_)
      · refine lv_lookup (tgt := 60) (off := 27) S.1 S.2.1 dX0_fact_33 (by decide) (by rw [hn0]; decide) (by decide) ?_
        refine lv_aload_n S.1 S.2.1 dX0_fact_60 rfl (lv_at hl 1 rfl) ?_
        refine ggX0_15_3 S K hs dX0_fact_61 ?_
        refine lv_iload S.1 S.2.1 dX0_fact_64 (lv_at hl 0 rfl) ?_
        refine gld5 S K hs hf dX0_fact_66 (fun x2 hf => ?_)
        exact grP S K hr hk hs hf dX0_fact_67
      refine z_case (v := 2) hf (fun hn1 hf => ?_) (fun hn1 hf => ?_)
      · refine lv_lookup (tgt := 68) (off := 35) S.1 S.2.1 dX0_fact_33 (by decide) (by rw [hn1]; decide) (by decide) ?_
        refine lv_aload_n S.1 S.2.1 dX0_fact_68 rfl (lv_at hl 1 rfl) ?_
        refine ggX0_18_3 S K hs dX0_fact_69 ?_
        refine lv_iload S.1 S.2.1 dX0_fact_72 (lv_at hl 0 rfl) ?_
        refine gld6 S K hs hf dX0_fact_74 (fun x3 hf => ?_)
        exact grP S K hr hk hs hf dX0_fact_75
      refine lv_lookup (tgt := 76) (off := 43) S.1 S.2.1 dX0_fact_33 (by decide) (by have q0 := z_ne hn0 (by decide); have q1 := z_ne hn1 (by decide); show Op.lookupswitch.offset [(1, 27), (2, 35)] 43 _ = 43; rw [Op.lookupswitch.offset_cons, if_neg (fun h => q0 h.symm), Op.lookupswitch.offset_cons, if_neg (fun h => q1 h.symm), Op.lookupswitch.offset_nil]) (by decide) ?_
      refine lv_aload_n S.1 S.2.1 dX0_fact_76 rfl (lv_at hl 1 rfl) ?_
      refine lv_iload_n S.1 S.2.1 dX0_fact_77 rfl (lv_at hl 2 rfl) ?_
      refine lv_iload_n S.1 S.2.1 dX0_fact_78 rfl (lv_at hl 3 rfl) ?_
      refine gcP (gV3 K hs) S K hs hl.1 hf (fun _ hX => metX0_usedLater _ _ _ _ _ _ _ _ hX) (cwX0_40 S.2.2.2.2 ⟨Nat.le_of_ble_eq_true rfl, Nat.le_of_ble_eq_true rfl⟩) rfl dX0_fact_79 rfl (Nat.le_of_ble_eq_true rfl) ⟨Nat.le_refl _, Nat.le_refl _⟩ (fun x4 H locs hs hf => ?_)
      exact grP S K hr hk hs hf dX0_fact_82
    · refine lv_iconst S.1 S.2.1 dX0_fact_30 k_iconst_m1 ?_
      exact grP S K hr hk hs hf dX0_fact_31
  · refine lv_aload_n S.1 S.2.1 dX0_fact_12 rfl (lv_at hl 1 rfl) ?_
    refine ggX0_9_3 S K hs dX0_fact_13 ?_
    refine lv_iload S.1 S.2.1 dX0_fact_16 (lv_at hl 0 rfl) ?_
    refine gld4 S K hs hf dX0_fact_18 (fun x5 hf => ?_)
    exact grP S K hr hk hs hf dX0_fact_19
theorem metX0_fact (l : Launch) (D : va_G) (cI : ClassId) (g : Nat → Nat) (a0 : Int32) (a1 : Int32) (a2 : Int32) (σ : zSt) (r0 : Int32) (hf : fX0_fact a0 a1 a2 σ = some r0) : Met l yX0_fact (Cond.code yX0_fact cX0_fact 5 (some .int) :: WA) rmX0_fact (gPc D cI g σ [.ref (g 3), .int a0, .int a1, .int a2]) ((gQi D cI g r0 σ)) 0 0 (gA g) :=
  gMet (by decide) (Nat.le_of_ble_eq_true rfl) (fun p e s m args below meth c H locs ls S K hr hk hl hs => bdX0_fact S K hr hk _ _ _ _ _ hf hl hs)
set_option maxHeartbeats 4000000 in
set_option maxRecDepth 100000 in
theorem bdX0_freeSlot {p : Program} {l : Launch} {e : Env} {s : State} {m : MethodId} {args : Array Value} {below : List Frame} {meth : Method} {c : Code} {H : Heap} {locs : List Loc} {ls : Array Slot} {D : va_G} {cI : ClassId} {g : Nat → Nat} (S : CallFix p m c cX0_freeSlot 5 s args WA RX0) (K : va_K D vwCl [(cI, .int)] s) (hr : meth.sig.returnType = (some .int)) (hk : meth.locks = false) (a0 : Int32) (a1 : Int32) (σ : zSt) (r0 : Int32) (hf : fX0_freeSlot a0 a1 σ = some r0) (hl : lv_has ls 5 [(0, .ref (g 3)), (1, .int a0), (2, .int a1)]) (hs : gS D cI g s σ H locs) : W p l e rmX0_freeSlot s m args below meth c H locs 0 0 (MQ below (gQi D cI g r0 σ) args s 0 0 (gA g)) (F0 m 0 ls []) := by
  obtain ⟨res, hres⟩ : ∃ q, q = r0 := ⟨_, rfl⟩
  rw [← hres] at hf
  have L5 : ∀ (K5 : Int32 → Int32 → Option (Int32)) (hK5 : ∀ (y2 : Int32) (y3 : Int32), K5 y2 y3 = some res → gGo p l e rmX0_freeSlot s m args below meth c (MQ below (gQi D cI g r0 σ) args s 0 0 (gA g)) D cI g 5 σ [(0, .ref (g 3)), (2, .int y2), (3, .int y3)] 50 []) (n : Nat) (y1 : Int32) (y2 : Int32) (y3 : Int32) (y4 : Int32), fX0_freeSlot_l5 σ K5 n y1 y2 y3 y4 = some res → gGo p l e rmX0_freeSlot s m args below meth c (MQ below (gQi D cI g r0 σ) args s 0 0 (gA g)) D cI g 5 σ [(0, .ref (g 3)), (1, .int y1), (2, .int y2), (3, .int y3), (4, .int y4)] 5 [] := by
    intro K5 hK5 n
    induction n with
    | zero =>
      intro y1 y2 y3 y4 hf H locs ls hl hs
      rw [fX0_freeSlot_l5] at hf
      cases hf
    | succ n ih =>
      intro y1 y2 y3 y4 hf H locs ls hl hs
      rw [fX0_freeSlot_l5] at hf
      refine lv_iload S.1 S.2.1 dX0_freeSlot_5 (lv_at hl 4 rfl) ?_
      refine lv_bipush S.1 S.2.1 dX0_freeSlot_7 k_bipush_32 ?_
      refine z_icmp_ge (tgt := 50) S hf dX0_freeSlot_9 (by decide) (fun hf => ?_) (fun hf => ?_)
      · exact hK5 _ _ hf _ _ _ (lv_sub hl [0, 2, 3] rfl) hs
      · refine lv_aload_n S.1 S.2.1 dX0_freeSlot_12 rfl (lv_at hl 0 rfl) ?_
        refine ggX0_9_3 S K hs dX0_freeSlot_13 ?_
        refine lv_iload_n S.1 S.2.1 dX0_freeSlot_16 rfl (lv_at hl 1 rfl) ?_
        refine lv_bipush S.1 S.2.1 dX0_freeSlot_17 k_bipush_32 ?_
        refine lv_imul S.1 S.2.1 dX0_freeSlot_19 ?_
        refine lv_iload S.1 S.2.1 dX0_freeSlot_20 (lv_at hl 4 rfl) ?_
        refine lv_iadd S.1 S.2.1 dX0_freeSlot_22 ?_
        refine gld4 S K hs hf dX0_freeSlot_23 (fun x1 hf => ?_)
        refine z_if_eq (tgt := 44) S hf dX0_freeSlot_24 (by decide) (fun hf => ?_) (fun hf => ?_)
        · refine lv_iinc (v := y4 + nI 1) (lv' := [(4, .int (y4 + nI 1)), (0, .ref (g 3)), (1, .int y1), (2, .int y2), (3, .int y3)]) S.1 S.2.1 dX0_freeSlot_44 hl (k := 4) rfl (by rw [k_iconst_1]) (by decide) rfl (fun ls hl => ?_)
          refine lv_goto (tgt := 5) S.1 S.2.1 dX0_freeSlot_47 (by decide) ?_
          exact ih _ _ _ _ hf _ _ _ (lv_sub hl [1, 2, 3, 4, 0] rfl) hs
        · refine lv_iload_n S.1 S.2.1 dX0_freeSlot_27 rfl (lv_at hl 3 rfl) ?_
          refine lv_iconst S.1 S.2.1 dX0_freeSlot_28 k_iconst_1 ?_
          refine lv_aload_n S.1 S.2.1 dX0_freeSlot_29 rfl (lv_at hl 0 rfl) ?_
          refine ggX0_18_3 S K hs dX0_freeSlot_30 ?_
          refine lv_iload_n S.1 S.2.1 dX0_freeSlot_33 rfl (lv_at hl 1 rfl) ?_
          refine lv_bipush S.1 S.2.1 dX0_freeSlot_34 k_bipush_32 ?_
          refine lv_imul S.1 S.2.1 dX0_freeSlot_36 ?_
          refine lv_iload S.1 S.2.1 dX0_freeSlot_37 (lv_at hl 4 rfl) ?_
          refine lv_iadd S.1 S.2.1 dX0_freeSlot_39 ?_
          refine gld6 S K hs hf dX0_freeSlot_40 (fun x2 hf => ?_)
          refine lv_ishl S.1 S.2.1 dX0_freeSlot_41 ?_
          refine lv_ior S.1 S.2.1 dX0_freeSlot_42 ?_
          refine lv_istore_n (lv' := [(3, .int (y3 ||| ((nI 1) <<< (x2 &&& 31)))), (0, .ref (g 3)), (1, .int y1), (2, .int y2), (4, .int y4)]) S.1 S.2.1 dX0_freeSlot_43 rfl hl (by decide) rfl (fun ls hl => ?_)
          refine lv_iinc (v := y4 + nI 1) (lv' := [(4, .int (y4 + nI 1)), (3, .int (y3 ||| ((nI 1) <<< (x2 &&& 31)))), (0, .ref (g 3)), (1, .int y1), (2, .int y2)]) S.1 S.2.1 dX0_freeSlot_44 hl (k := 4) rfl (by rw [k_iconst_1]) (by decide) rfl (fun ls hl => ?_)
          refine lv_goto (tgt := 5) S.1 S.2.1 dX0_freeSlot_47 (by decide) ?_
          exact ih _ _ _ _ hf _ _ _ (lv_sub hl [2, 3, 4, 1, 0] rfl) hs
  have L53 : ∀ (K53 : Option (Int32)) (hK53 : K53  = some res → gGo p l e rmX0_freeSlot s m args below meth c (MQ below (gQi D cI g r0 σ) args s 0 0 (gA g)) D cI g 5 σ [(0, .ref (g 3))] 77 []) (n : Nat) (y2 : Int32) (y3 : Int32) (y4 : Int32), fX0_freeSlot_l53 σ K53 n y2 y3 y4 = some res → gGo p l e rmX0_freeSlot s m args below meth c (MQ below (gQi D cI g r0 σ) args s 0 0 (gA g)) D cI g 5 σ [(0, .ref (g 3)), (2, .int y2), (3, .int y3), (4, .int y4)] 53 [] := by
    intro K53 hK53 n
    induction n with
    | zero =>
      intro y2 y3 y4 hf H locs ls hl hs
      rw [fX0_freeSlot_l53] at hf
      cases hf
    | succ n ih =>
      intro y2 y3 y4 hf H locs ls hl hs
      rw [fX0_freeSlot_l53] at hf
      refine lv_iload S.1 S.2.1 dX0_freeSlot_53 (lv_at hl 3 rfl) ?_
      refine lv_iload_n S.1 S.2.1 dX0_freeSlot_55 rfl (lv_at hl 1 rfl) ?_
      refine z_icmp_ge (tgt := 77) S hf dX0_freeSlot_56 (by decide) (fun hf => ?_) (fun hf => ?_)
      · exact hK53  hf _ _ _ (lv_sub hl [0] rfl) hs
      · refine lv_iload_n S.1 S.2.1 dX0_freeSlot_59 rfl (lv_at hl 2 rfl) ?_
        refine lv_iload S.1 S.2.1 dX0_freeSlot_60 (lv_at hl 3 rfl) ?_
        refine lv_ishr S.1 S.2.1 dX0_freeSlot_62 ?_
        refine lv_iconst S.1 S.2.1 dX0_freeSlot_63 k_iconst_1 ?_
        refine lv_iand S.1 S.2.1 dX0_freeSlot_64 ?_
        refine z_if_ne (tgt := 71) S hf dX0_freeSlot_65 (by decide) (fun hf => ?_) (fun hf => ?_)
        · refine lv_iinc (v := y4 + nI 1) (lv' := [(4, .int (y4 + nI 1)), (0, .ref (g 3)), (2, .int y2), (3, .int y3)]) S.1 S.2.1 dX0_freeSlot_71 hl (k := 3) rfl (by rw [k_iconst_1]) (by decide) rfl (fun ls hl => ?_)
          refine lv_goto (tgt := 53) S.1 S.2.1 dX0_freeSlot_74 (by decide) ?_
          exact ih _ _ _ hf _ _ _ (lv_sub hl [1, 2, 3, 0] rfl) hs
        · refine lv_iload S.1 S.2.1 dX0_freeSlot_68 (lv_at hl 3 rfl) ?_
          exact grP S K hr hk hs (hf.trans (congrArg some hres)) dX0_freeSlot_70
  unfold fX0_freeSlot at hf
  refine lv_iconst S.1 S.2.1 dX0_freeSlot_0 k_iconst_0 ?_
  refine lv_istore_n (lv' := [(3, .int (nI 0)), (0, .ref (g 3)), (1, .int a0), (2, .int a1)]) S.1 S.2.1 dX0_freeSlot_1 rfl hl (by decide) rfl (fun ls hl => ?_)
  refine lv_iconst S.1 S.2.1 dX0_freeSlot_2 k_iconst_0 ?_
  refine lv_istore (lv' := [(4, .int (nI 0)), (3, .int (nI 0)), (0, .ref (g 3)), (1, .int a0), (2, .int a1)]) S.1 S.2.1 dX0_freeSlot_3 hl (by decide) rfl (fun ls hl => ?_)
  refine L5 _ (fun x3 x4 hf H locs ls hl hs => ?_) _ _ _ _ _ hf _ _ _ (lv_sub hl [2, 3, 4, 1, 0] rfl) hs
  refine lv_iconst S.1 S.2.1 dX0_freeSlot_50 k_iconst_0 ?_
  refine lv_istore (lv' := [(4, .int (nI 0)), (0, .ref (g 3)), (2, .int x3), (3, .int x4)]) S.1 S.2.1 dX0_freeSlot_51 hl (by decide) rfl (fun ls hl => ?_)
  refine L53 _ (fun  hf H locs ls hl hs => ?_) _ _ _ _ hf _ _ _ (lv_sub hl [1, 2, 3, 0] rfl) hs
  refine lv_iconst S.1 S.2.1 dX0_freeSlot_77 k_iconst_m1 ?_
  exact grP S K hr hk hs (hf.trans (congrArg some hres)) dX0_freeSlot_78
theorem metX0_freeSlot (l : Launch) (D : va_G) (cI : ClassId) (g : Nat → Nat) (a0 : Int32) (a1 : Int32) (σ : zSt) (r0 : Int32) (hf : fX0_freeSlot a0 a1 σ = some r0) : Met l yX0_freeSlot (Cond.code yX0_freeSlot cX0_freeSlot 5 (some .int) :: WA) rmX0_freeSlot (gPc D cI g σ [.ref (g 3), .int a0, .int a1]) ((gQi D cI g r0 σ)) 0 0 (gA g) :=
  gMet (by decide) (Nat.le_of_ble_eq_true rfl) (fun p e s m args below meth c H locs ls S K hr hk hl hs => bdX0_freeSlot S K hr hk _ _ _ _ hf hl hs)
set_option maxHeartbeats 4000000 in
set_option maxRecDepth 100000 in
theorem bdX0_kindOf {p : Program} {l : Launch} {e : Env} {s : State} {m : MethodId} {args : Array Value} {below : List Frame} {meth : Method} {c : Code} {H : Heap} {locs : List Loc} {ls : Array Slot} {D : va_G} {cI : ClassId} {g : Nat → Nat} (S : CallFix p m c cX0_kindOf 3 s args WA RX0) (K : va_K D vwCl [(cI, .int)] s) (hr : meth.sig.returnType = (some .int)) (hk : meth.locks = false) (a0 : Int32) (a1 : Int32) (σ : zSt) (r0 : Int32) (hf : fX0_kindOf a0 a1 σ = some r0) (hl : lv_has ls 3 [(0, .ref (g 3)), (1, .int a0), (2, .int a1)]) (hs : gS D cI g s σ H locs) : W p l e rmX0_kindOf s m args below meth c H locs 0 0 (MQ below (gQi D cI g r0 σ) args s 0 0 (gA g)) (F0 m 0 ls []) := by
  unfold fX0_kindOf at hf
  refine lv_aload_n S.1 S.2.1 dX0_kindOf_0 rfl (lv_at hl 0 rfl) ?_
  refine ggX0_9_3 S K hs dX0_kindOf_1 ?_
  refine lv_iload_n S.1 S.2.1 dX0_kindOf_4 rfl (lv_at hl 1 rfl) ?_
  refine lv_bipush S.1 S.2.1 dX0_kindOf_5 k_bipush_32 ?_
  refine lv_imul S.1 S.2.1 dX0_kindOf_7 ?_
  refine lv_iload_n S.1 S.2.1 dX0_kindOf_8 rfl (lv_at hl 2 rfl) ?_
  refine lv_iadd S.1 S.2.1 dX0_kindOf_9 ?_
  refine gld4 S K hs hf dX0_kindOf_10 (fun x1 hf => ?_)
  exact grP S K hr hk hs hf dX0_kindOf_11
theorem metX0_kindOf (l : Launch) (D : va_G) (cI : ClassId) (g : Nat → Nat) (a0 : Int32) (a1 : Int32) (σ : zSt) (r0 : Int32) (hf : fX0_kindOf a0 a1 σ = some r0) : Met l yX0_kindOf (Cond.code yX0_kindOf cX0_kindOf 3 (some .int) :: WA) rmX0_kindOf (gPc D cI g σ [.ref (g 3), .int a0, .int a1]) ((gQi D cI g r0 σ)) 0 0 (gA g) :=
  gMet (by decide) (Nat.le_of_ble_eq_true rfl) (fun p e s m args below meth c H locs ls S K hr hk hl hs => bdX0_kindOf S K hr hk _ _ _ _ hf hl hs)
set_option maxHeartbeats 4000000 in
set_option maxRecDepth 100000 in
theorem bdX0_leastUsed {p : Program} {l : Launch} {e : Env} {s : State} {m : MethodId} {args : Array Value} {below : List Frame} {meth : Method} {c : Code} {H : Heap} {locs : List Loc} {ls : Array Slot} {D : va_G} {cI : ClassId} {g : Nat → Nat} (S : CallFix p m c cX0_leastUsed 6 s args WA RX0) (K : va_K D vwCl [(cI, .int)] s) (hr : meth.sig.returnType = (some .int)) (hk : meth.locks = false) (a0 : Int32) (σ : zSt) (r0 : Int32) (hf : fX0_leastUsed a0 σ = some r0) (hl : lv_has ls 6 [(0, .ref (g 3)), (1, .int a0)]) (hs : gS D cI g s σ H locs) : W p l e rmX0_leastUsed s m args below meth c H locs 0 0 (MQ below (gQi D cI g r0 σ) args s 0 0 (gA g)) (F0 m 0 ls []) := by
  obtain ⟨res, hres⟩ : ∃ q, q = r0 := ⟨_, rfl⟩
  rw [← hres] at hf
  have J49 : ∀ (C7 : Int32 → Int32 → Int32 → Int32 → Option (Int32)) (hC7 : ∀ (y1 : Int32) (y2 : Int32) (y3 : Int32) (y4 : Int32), C7 y1 y2 y3 y4 = some res → gGo p l e rmX0_leastUsed s m args below meth c (MQ below (gQi D cI g r0 σ) args s 0 0 (gA g)) D cI g 6 σ [(0, .ref (g 3)), (1, .int y1), (2, .int y2), (3, .int y3), (4, .int y4)] 7 []) (y1 : Int32) (y4 : Int32) (y5 : Int32), fX0_leastUsed_j49 σ C7 y1 y4 y5 = some res → gGo p l e rmX0_leastUsed s m args below meth c (MQ below (gQi D cI g r0 σ) args s 0 0 (gA g)) D cI g 6 σ [(0, .ref (g 3)), (1, .int y1), (4, .int y4), (5, .int y5)] 49 [] := by
    intro C7 hC7 y1 y4 y5 hf H locs ls hl hs
    unfold fX0_leastUsed_j49 at hf
    refine lv_iload S.1 S.2.1 dX0_leastUsed_49 (lv_at hl 2 rfl) ?_
    refine lv_istore_n (lv' := [(2, .int y4), (0, .ref (g 3)), (1, .int y1), (4, .int y4), (5, .int y5)]) S.1 S.2.1 dX0_leastUsed_51 rfl hl (by decide) rfl (fun ls hl => ?_)
    refine lv_aload_n S.1 S.2.1 dX0_leastUsed_52 rfl (lv_at hl 1 rfl) ?_
    refine ggX0_21_3 S K hs dX0_leastUsed_53 ?_
    refine lv_iload S.1 S.2.1 dX0_leastUsed_56 (lv_at hl 4 rfl) ?_
    refine gld7 S K hs hf dX0_leastUsed_58 (fun x2 hf => ?_)
    refine lv_istore_n (lv' := [(3, .int x2), (2, .int y4), (0, .ref (g 3)), (1, .int y1), (4, .int y4), (5, .int y5)]) S.1 S.2.1 dX0_leastUsed_59 rfl hl (by decide) rfl (fun ls hl => ?_)
    refine lv_iinc (v := y4 + nI 1) (lv' := [(4, .int (y4 + nI 1)), (3, .int x2), (2, .int y4), (0, .ref (g 3)), (1, .int y1), (5, .int y5)]) S.1 S.2.1 dX0_leastUsed_60 hl (k := 4) rfl (by rw [k_iconst_1]) (by decide) rfl (fun ls hl => ?_)
    refine lv_goto (tgt := 7) S.1 S.2.1 dX0_leastUsed_63 (by decide) ?_
    exact hC7 _ _ _ _ hf _ _ _ (lv_sub hl [3, 4, 2, 1, 0] rfl) hs
  have L7 : ∀ (K7 : Int32 → Option (Int32)) (hK7 : ∀ (y2 : Int32), K7 y2 = some res → gGo p l e rmX0_leastUsed s m args below meth c (MQ below (gQi D cI g r0 σ) args s 0 0 (gA g)) D cI g 6 σ [(0, .ref (g 3)), (2, .int y2)] 66 []) (n : Nat) (y1 : Int32) (y2 : Int32) (y3 : Int32) (y4 : Int32), fX0_leastUsed_l7 σ K7 n y1 y2 y3 y4 = some res → gGo p l e rmX0_leastUsed s m args below meth c (MQ below (gQi D cI g r0 σ) args s 0 0 (gA g)) D cI g 6 σ [(0, .ref (g 3)), (1, .int y1), (2, .int y2), (3, .int y3), (4, .int y4)] 7 [] := by
    intro K7 hK7 n
    induction n with
    | zero =>
      intro y1 y2 y3 y4 hf H locs ls hl hs
      rw [fX0_leastUsed_l7] at hf
      cases hf
    | succ n ih =>
      intro y1 y2 y3 y4 hf H locs ls hl hs
      rw [fX0_leastUsed_l7] at hf
      refine lv_iload S.1 S.2.1 dX0_leastUsed_7 (lv_at hl 4 rfl) ?_
      refine lv_bipush S.1 S.2.1 dX0_leastUsed_9 k_bipush_32 ?_
      refine z_icmp_ge (tgt := 66) S hf dX0_leastUsed_11 (by decide) (fun hf => ?_) (fun hf => ?_)
      · exact hK7 _ hf _ _ _ (lv_sub hl [0, 2] rfl) hs
      · refine lv_iload_n S.1 S.2.1 dX0_leastUsed_14 rfl (lv_at hl 1 rfl) ?_
        refine lv_bipush S.1 S.2.1 dX0_leastUsed_15 k_bipush_32 ?_
        refine lv_imul S.1 S.2.1 dX0_leastUsed_17 ?_
        refine lv_iload S.1 S.2.1 dX0_leastUsed_18 (lv_at hl 4 rfl) ?_
        refine lv_iadd S.1 S.2.1 dX0_leastUsed_20 ?_
        refine lv_istore (lv' := [(5, .int ((y1 * (nI 32)) + y4)), (0, .ref (g 3)), (1, .int y1), (2, .int y2), (3, .int y3), (4, .int y4)]) S.1 S.2.1 dX0_leastUsed_21 hl (by decide) rfl (fun ls hl => ?_)
        refine lv_aload_n S.1 S.2.1 dX0_leastUsed_23 rfl (lv_at hl 1 rfl) ?_
        refine ggX0_9_3 S K hs dX0_leastUsed_24 ?_
        refine lv_iload S.1 S.2.1 dX0_leastUsed_27 (lv_at hl 0 rfl) ?_
        refine gld4 S K hs hf dX0_leastUsed_29 (fun x1 hf => ?_)
        refine z_if_eq (tgt := 60) S hf dX0_leastUsed_30 (by decide) (fun hf => ?_) (fun hf => ?_)
        · refine lv_iinc (v := y4 + nI 1) (lv' := [(4, .int (y4 + nI 1)), (5, .int ((y1 * (nI 32)) + y4)), (0, .ref (g 3)), (1, .int y1), (2, .int y2), (3, .int y3)]) S.1 S.2.1 dX0_leastUsed_60 hl (k := 5) rfl (by rw [k_iconst_1]) (by decide) rfl (fun ls hl => ?_)
          refine lv_goto (tgt := 7) S.1 S.2.1 dX0_leastUsed_63 (by decide) ?_
          exact ih _ _ _ _ hf _ _ _ (lv_sub hl [2, 3, 4, 5, 0] rfl) hs
        · refine lv_iload_n S.1 S.2.1 dX0_leastUsed_33 rfl (lv_at hl 3 rfl) ?_
          refine lv_iconst S.1 S.2.1 dX0_leastUsed_34 k_iconst_m1 ?_
          refine z_icmp_eq (tgt := 49) S hf dX0_leastUsed_35 (by decide) (fun hf => ?_) (fun hf => ?_)
          · exact J49 _ ih _ _ _ hf _ _ _ (lv_sub hl [1, 2, 5, 0] rfl) hs
          · refine lv_aload_n S.1 S.2.1 dX0_leastUsed_38 rfl (lv_at hl 1 rfl) ?_
            refine ggX0_21_3 S K hs dX0_leastUsed_39 ?_
            refine lv_iload S.1 S.2.1 dX0_leastUsed_42 (lv_at hl 0 rfl) ?_
            refine gld7 S K hs hf dX0_leastUsed_44 (fun x3 hf => ?_)
            refine lv_iload_n S.1 S.2.1 dX0_leastUsed_45 rfl (lv_at hl 4 rfl) ?_
            refine z_icmp_ge (tgt := 60) S hf dX0_leastUsed_46 (by decide) (fun hf => ?_) (fun hf => ?_)
            · refine lv_iinc (v := y4 + nI 1) (lv' := [(4, .int (y4 + nI 1)), (5, .int ((y1 * (nI 32)) + y4)), (0, .ref (g 3)), (1, .int y1), (2, .int y2), (3, .int y3)]) S.1 S.2.1 dX0_leastUsed_60 hl (k := 5) rfl (by rw [k_iconst_1]) (by decide) rfl (fun ls hl => ?_)
              refine lv_goto (tgt := 7) S.1 S.2.1 dX0_leastUsed_63 (by decide) ?_
              exact ih _ _ _ _ hf _ _ _ (lv_sub hl [2, 3, 4, 5, 0] rfl) hs
            · exact J49 _ ih _ _ _ hf _ _ _ (lv_sub hl [1, 2, 5, 0] rfl) hs
  unfold fX0_leastUsed at hf
  refine lv_iconst S.1 S.2.1 dX0_leastUsed_0 k_iconst_m1 ?_
  refine lv_istore_n (lv' := [(2, .int (-1)), (0, .ref (g 3)), (1, .int a0)]) S.1 S.2.1 dX0_leastUsed_1 rfl hl (by decide) rfl (fun ls hl => ?_)
  refine lv_iconst S.1 S.2.1 dX0_leastUsed_2 k_iconst_0 ?_
  refine lv_istore_n (lv' := [(3, .int (nI 0)), (2, .int (-1)), (0, .ref (g 3)), (1, .int a0)]) S.1 S.2.1 dX0_leastUsed_3 rfl hl (by decide) rfl (fun ls hl => ?_)
  refine lv_iconst S.1 S.2.1 dX0_leastUsed_4 k_iconst_0 ?_
  refine lv_istore (lv' := [(4, .int (nI 0)), (3, .int (nI 0)), (2, .int (-1)), (0, .ref (g 3)), (1, .int a0)]) S.1 S.2.1 dX0_leastUsed_5 hl (by decide) rfl (fun ls hl => ?_)
  refine L7 _ (fun x4 hf H locs ls hl hs => ?_) _ _ _ _ _ hf _ _ _ (lv_sub hl [3, 4, 2, 1, 0] rfl) hs
  refine lv_iload_n S.1 S.2.1 dX0_leastUsed_66 rfl (lv_at hl 1 rfl) ?_
  exact grP S K hr hk hs (hf.trans (congrArg some hres)) dX0_leastUsed_67
theorem metX0_leastUsed (l : Launch) (D : va_G) (cI : ClassId) (g : Nat → Nat) (a0 : Int32) (σ : zSt) (r0 : Int32) (hf : fX0_leastUsed a0 σ = some r0) : Met l yX0_leastUsed (Cond.code yX0_leastUsed cX0_leastUsed 6 (some .int) :: WA) rmX0_leastUsed (gPc D cI g σ [.ref (g 3), .int a0]) ((gQi D cI g r0 σ)) 0 0 (gA g) :=
  gMet (by decide) (Nat.le_of_ble_eq_true rfl) (fun p e s m args below meth c H locs ls S K hr hk hl hs => bdX0_leastUsed S K hr hk _ _ _ hf hl hs)
set_option maxHeartbeats 4000000 in
set_option maxRecDepth 100000 in
theorem bdX0_own {p : Program} {l : Launch} {e : Env} {s : State} {m : MethodId} {args : Array Value} {below : List Frame} {meth : Method} {c : Code} {H : Heap} {locs : List Loc} {ls : Array Slot} {D : va_G} {cI : ClassId} {g : Nat → Nat} (S : CallFix p m c cX0_own 4 s args WA RX0) (K : va_K D vwCl [(cI, .int)] s) (hr : meth.sig.returnType = none) (hk : meth.locks = false) (a0 : Int32) (a1 : Int32) (a2 : Int32) (σ : zSt) (σ0 : zSt) (hf : fX0_own a0 a1 a2 σ = some σ0) (hl : lv_has ls 4 [(0, .ref (g 3)), (1, .int a0), (2, .int a1), (3, .int a2)]) (hs : gS D cI g s σ H locs) : W p l e rmX0_own s m args below meth c H locs 0 0 (MQ below (gQv D cI g σ0) args s 0 0 (gA g)) (F0 m 0 ls []) := by
  unfold fX0_own at hf
  refine lv_aload_n S.1 S.2.1 dX0_own_0 rfl (lv_at hl 0 rfl) ?_
  refine ggX0_9_3 S K hs dX0_own_1 ?_
  refine lv_iload_n S.1 S.2.1 dX0_own_4 rfl (lv_at hl 1 rfl) ?_
  refine lv_bipush S.1 S.2.1 dX0_own_5 k_bipush_32 ?_
  refine lv_imul S.1 S.2.1 dX0_own_7 ?_
  refine lv_iload_n S.1 S.2.1 dX0_own_8 rfl (lv_at hl 2 rfl) ?_
  refine lv_iadd S.1 S.2.1 dX0_own_9 ?_
  refine lv_iconst S.1 S.2.1 dX0_own_10 k_iconst_2 ?_
  refine gst4 S K hs hf dX0_own_11 (fun σ1 H locs hs hf => ?_)
  refine lv_aload_n S.1 S.2.1 dX0_own_12 rfl (lv_at hl 0 rfl) ?_
  refine ggX0_15_3 S K hs dX0_own_13 ?_
  refine lv_iload_n S.1 S.2.1 dX0_own_16 rfl (lv_at hl 1 rfl) ?_
  refine lv_bipush S.1 S.2.1 dX0_own_17 k_bipush_32 ?_
  refine lv_imul S.1 S.2.1 dX0_own_19 ?_
  refine lv_iload_n S.1 S.2.1 dX0_own_20 rfl (lv_at hl 2 rfl) ?_
  refine lv_iadd S.1 S.2.1 dX0_own_21 ?_
  refine lv_iload_n S.1 S.2.1 dX0_own_22 rfl (lv_at hl 3 rfl) ?_
  refine gst5 S K hs hf dX0_own_23 (fun σ2 H locs hs hf => ?_)
  exact grV S K hr hk hs hf dX0_own_24
theorem metX0_own (l : Launch) (D : va_G) (cI : ClassId) (g : Nat → Nat) (a0 : Int32) (a1 : Int32) (a2 : Int32) (σ : zSt) (σ0 : zSt) (hf : fX0_own a0 a1 a2 σ = some σ0) : Met l yX0_own (Cond.code yX0_own cX0_own 4 none :: WA) rmX0_own (gPc D cI g σ [.ref (g 3), .int a0, .int a1, .int a2]) ((gQv D cI g σ0)) 0 0 (gA g) :=
  gMet (by decide) (Nat.le_of_ble_eq_true rfl) (fun p e s m args below meth c H locs ls S K hr hk hl hs => bdX0_own S K hr hk _ _ _ _ _ hf hl hs)
set_option maxHeartbeats 4000000 in
set_option maxRecDepth 100000 in
theorem bdX0_ownerOf {p : Program} {l : Launch} {e : Env} {s : State} {m : MethodId} {args : Array Value} {below : List Frame} {meth : Method} {c : Code} {H : Heap} {locs : List Loc} {ls : Array Slot} {D : va_G} {cI : ClassId} {g : Nat → Nat} (S : CallFix p m c cX0_ownerOf 3 s args WA RX0) (K : va_K D vwCl [(cI, .int)] s) (hr : meth.sig.returnType = (some .int)) (hk : meth.locks = false) (a0 : Int32) (σ : zSt) (r0 : Int32) (hf : fX0_ownerOf a0 σ = some r0) (hl : lv_has ls 3 [(0, .ref (g 3)), (1, .int a0)]) (hs : gS D cI g s σ H locs) : W p l e rmX0_ownerOf s m args below meth c H locs 0 0 (MQ below (gQi D cI g r0 σ) args s 0 0 (gA g)) (F0 m 0 ls []) := by
  obtain ⟨res, hres⟩ : ∃ q, q = r0 := ⟨_, rfl⟩
  rw [← hres] at hf
  have L2 : ∀ (K2 : Option (Int32)) (hK2 : K2  = some res → gGo p l e rmX0_ownerOf s m args below meth c (MQ below (gQi D cI g r0 σ) args s 0 0 (gA g)) D cI g 3 σ [(0, .ref (g 3))] 31 []) (n : Nat) (y1 : Int32) (y2 : Int32), fX0_ownerOf_l2 σ K2 n y1 y2 = some res → gGo p l e rmX0_ownerOf s m args below meth c (MQ below (gQi D cI g r0 σ) args s 0 0 (gA g)) D cI g 3 σ [(0, .ref (g 3)), (1, .int y1), (2, .int y2)] 2 [] := by
    intro K2 hK2 n
    induction n with
    | zero =>
      intro y1 y2 hf H locs ls hl hs
      rw [fX0_ownerOf_l2] at hf
      cases hf
    | succ n ih =>
      intro y1 y2 hf H locs ls hl hs
      rw [fX0_ownerOf_l2] at hf
      refine lv_iload_n S.1 S.2.1 dX0_ownerOf_2 rfl (lv_at hl 2 rfl) ?_
      refine lv_bipush S.1 S.2.1 dX0_ownerOf_3 k_bipush_6 ?_
      refine z_icmp_ge (tgt := 31) S hf dX0_ownerOf_5 (by decide) (fun hf => ?_) (fun hf => ?_)
      · exact hK2  hf _ _ _ (lv_sub hl [0] rfl) hs
      · refine lv_aload_n S.1 S.2.1 dX0_ownerOf_8 rfl (lv_at hl 0 rfl) ?_
        refine ggX0_9_3 S K hs dX0_ownerOf_9 ?_
        refine lv_iload_n S.1 S.2.1 dX0_ownerOf_12 rfl (lv_at hl 2 rfl) ?_
        refine lv_bipush S.1 S.2.1 dX0_ownerOf_13 k_bipush_32 ?_
        refine lv_imul S.1 S.2.1 dX0_ownerOf_15 ?_
        refine lv_iload_n S.1 S.2.1 dX0_ownerOf_16 rfl (lv_at hl 1 rfl) ?_
        refine lv_iadd S.1 S.2.1 dX0_ownerOf_17 ?_
        refine gld4 S K hs hf dX0_ownerOf_18 (fun x1 hf => ?_)
        refine lv_iconst S.1 S.2.1 dX0_ownerOf_19 k_iconst_2 ?_
        refine z_icmp_ne (tgt := 25) S hf dX0_ownerOf_20 (by decide) (fun hf => ?_) (fun hf => ?_)
        · refine lv_iinc (v := y2 + nI 1) (lv' := [(2, .int (y2 + nI 1)), (0, .ref (g 3)), (1, .int y1)]) S.1 S.2.1 dX0_ownerOf_25 hl (k := 2) rfl (by rw [k_iconst_1]) (by decide) rfl (fun ls hl => ?_)
          refine lv_goto (tgt := 2) S.1 S.2.1 dX0_ownerOf_28 (by decide) ?_
          exact ih _ _ hf _ _ _ (lv_sub hl [1, 2, 0] rfl) hs
        · refine lv_iload_n S.1 S.2.1 dX0_ownerOf_23 rfl (lv_at hl 2 rfl) ?_
          exact grP S K hr hk hs (hf.trans (congrArg some hres)) dX0_ownerOf_24
  unfold fX0_ownerOf at hf
  refine lv_iconst S.1 S.2.1 dX0_ownerOf_0 k_iconst_0 ?_
  refine lv_istore_n (lv' := [(2, .int (nI 0)), (0, .ref (g 3)), (1, .int a0)]) S.1 S.2.1 dX0_ownerOf_1 rfl hl (by decide) rfl (fun ls hl => ?_)
  refine L2 _ (fun  hf H locs ls hl hs => ?_) _ _ _ hf _ _ _ (lv_sub hl [1, 2, 0] rfl) hs
  refine lv_iconst S.1 S.2.1 dX0_ownerOf_31 k_iconst_m1 ?_
  exact grP S K hr hk hs (hf.trans (congrArg some hres)) dX0_ownerOf_32
theorem metX0_ownerOf (l : Launch) (D : va_G) (cI : ClassId) (g : Nat → Nat) (a0 : Int32) (σ : zSt) (r0 : Int32) (hf : fX0_ownerOf a0 σ = some r0) : Met l yX0_ownerOf (Cond.code yX0_ownerOf cX0_ownerOf 3 (some .int) :: WA) rmX0_ownerOf (gPc D cI g σ [.ref (g 3), .int a0]) ((gQi D cI g r0 σ)) 0 0 (gA g) :=
  gMet (by decide) (Nat.le_of_ble_eq_true rfl) (fun p e s m args below meth c H locs ls S K hr hk hl hs => bdX0_ownerOf S K hr hk _ _ _ hf hl hs)
set_option maxHeartbeats 4000000 in
set_option maxRecDepth 100000 in
theorem bdX0_remove {p : Program} {l : Launch} {e : Env} {s : State} {m : MethodId} {args : Array Value} {below : List Frame} {meth : Method} {c : Code} {H : Heap} {locs : List Loc} {ls : Array Slot} {D : va_G} {cI : ClassId} {g : Nat → Nat} (S : CallFix p m c cX0_remove 3 s args WA RX0) (K : va_K D vwCl [(cI, .int)] s) (hr : meth.sig.returnType = none) (hk : meth.locks = false) (a0 : Int32) (a1 : Int32) (σ : zSt) (σ0 : zSt) (hf : fX0_remove a0 a1 σ = some σ0) (hl : lv_has ls 3 [(0, .ref (g 3)), (1, .int a0), (2, .int a1)]) (hs : gS D cI g s σ H locs) : W p l e rmX0_remove s m args below meth c H locs 0 0 (MQ below (gQv D cI g σ0) args s 0 0 (gA g)) (F0 m 0 ls []) := by
  unfold fX0_remove at hf
  refine lv_aload_n S.1 S.2.1 dX0_remove_0 rfl (lv_at hl 0 rfl) ?_
  refine ggX0_9_3 S K hs dX0_remove_1 ?_
  refine lv_iload_n S.1 S.2.1 dX0_remove_4 rfl (lv_at hl 1 rfl) ?_
  refine lv_bipush S.1 S.2.1 dX0_remove_5 k_bipush_32 ?_
  refine lv_imul S.1 S.2.1 dX0_remove_7 ?_
  refine lv_iload_n S.1 S.2.1 dX0_remove_8 rfl (lv_at hl 2 rfl) ?_
  refine lv_iadd S.1 S.2.1 dX0_remove_9 ?_
  refine lv_iconst S.1 S.2.1 dX0_remove_10 k_iconst_0 ?_
  refine gst4 S K hs hf dX0_remove_11 (fun σ1 H locs hs hf => ?_)
  exact grV S K hr hk hs hf dX0_remove_12
theorem metX0_remove (l : Launch) (D : va_G) (cI : ClassId) (g : Nat → Nat) (a0 : Int32) (a1 : Int32) (σ : zSt) (σ0 : zSt) (hf : fX0_remove a0 a1 σ = some σ0) : Met l yX0_remove (Cond.code yX0_remove cX0_remove 3 none :: WA) rmX0_remove (gPc D cI g σ [.ref (g 3), .int a0, .int a1]) ((gQv D cI g σ0)) 0 0 (gA g) :=
  gMet (by decide) (Nat.le_of_ble_eq_true rfl) (fun p e s m args below meth c H locs ls S K hr hk hl hs => bdX0_remove S K hr hk _ _ _ _ hf hl hs)
set_option maxHeartbeats 4000000 in
set_option maxRecDepth 100000 in
theorem bdX0_removeAll {p : Program} {l : Launch} {e : Env} {s : State} {m : MethodId} {args : Array Value} {below : List Frame} {meth : Method} {c : Code} {H : Heap} {locs : List Loc} {ls : Array Slot} {D : va_G} {cI : ClassId} {g : Nat → Nat} (S : CallFix p m c cX0_removeAll 1 s args WA RX0) (K : va_K D vwCl [(cI, .int)] s) (hr : meth.sig.returnType = none) (hk : meth.locks = false) (σ : zSt) (σ0 : zSt) (hf : fX0_removeAll σ = some σ0) (hl : lv_has ls 1 [(0, .ref (g 3))]) (hs : gS D cI g s σ H locs) : W p l e rmX0_removeAll s m args below meth c H locs 0 0 (MQ below (gQv D cI g σ0) args s 0 0 (gA g)) (F0 m 0 ls []) := by
  unfold fX0_removeAll at hf
  refine lv_aload_n S.1 S.2.1 dX0_removeAll_0 rfl (lv_at hl 0 rfl) ?_
  refine ggX0_9_3 S K hs dX0_removeAll_1 ?_
  refine lv_iconst S.1 S.2.1 dX0_removeAll_4 k_iconst_0 ?_
  refine gfl4 S K hs hl.1 u_90 hf dX0_removeAll_5 ⟨Nat.le_of_ble_eq_true rfl, Nat.le_of_ble_eq_true rfl⟩ (Nat.le_of_ble_eq_true rfl) ⟨Nat.le_refl _, Nat.le_refl _⟩ (fun σ1 H locs hs hf => ?_)
  refine lv_aload_n S.1 S.2.1 dX0_removeAll_8 rfl (lv_at hl 0 rfl) ?_
  refine lv_iconst S.1 S.2.1 dX0_removeAll_9 k_iconst_0 ?_
  refine gpX0_30_3 S K hs hf dX0_removeAll_10 (fun σ2 H locs hs hf => ?_)
  exact grV S K hr hk hs hf dX0_removeAll_13
theorem metX0_removeAll (l : Launch) (D : va_G) (cI : ClassId) (g : Nat → Nat) (σ : zSt) (σ0 : zSt) (hf : fX0_removeAll σ = some σ0) : Met l yX0_removeAll (Cond.code yX0_removeAll cX0_removeAll 1 none :: WA) rmX0_removeAll (gPc D cI g σ [.ref (g 3)]) ((gQv D cI g σ0)) 0 0 (gA g) :=
  gMet (by decide) (Nat.le_of_ble_eq_true rfl) (fun p e s m args below meth c H locs ls S K hr hk hl hs => bdX0_removeAll S K hr hk  _ _ hf hl hs)
set_option maxHeartbeats 4000000 in
set_option maxRecDepth 100000 in
theorem bdX0_removeOthers {p : Program} {l : Launch} {e : Env} {s : State} {m : MethodId} {args : Array Value} {below : List Frame} {meth : Method} {c : Code} {H : Heap} {locs : List Loc} {ls : Array Slot} {D : va_G} {cI : ClassId} {g : Nat → Nat} (S : CallFix p m c cX0_removeOthers 4 s args WA RX0) (K : va_K D vwCl [(cI, .int)] s) (hr : meth.sig.returnType = none) (hk : meth.locks = false) (a0 : Int32) (a1 : Int32) (σ : zSt) (σ0 : zSt) (hf : fX0_removeOthers a0 a1 σ = some σ0) (hl : lv_has ls 4 [(0, .ref (g 3)), (1, .int a0), (2, .int a1)]) (hs : gS D cI g s σ H locs) : W p l e rmX0_removeOthers s m args below meth c H locs 0 0 (MQ below (gQv D cI g σ0) args s 0 0 (gA g)) (F0 m 0 ls []) := by
  obtain ⟨res, hres⟩ : ∃ q, q = σ0 := ⟨_, rfl⟩
  rw [← hres] at hf
  have L2 : ∀ (K2 : zSt → Option (zSt)) (hK2 : ∀ (σ : zSt), K2 σ = some res → gGo p l e rmX0_removeOthers s m args below meth c (MQ below (gQv D cI g σ0) args s 0 0 (gA g)) D cI g 4 σ [(0, .ref (g 3))] 31 []) (n : Nat) (y1 : Int32) (y2 : Int32) (y3 : Int32) (σ : zSt), fX0_removeOthers_l2 K2 n y1 y2 y3 σ = some res → gGo p l e rmX0_removeOthers s m args below meth c (MQ below (gQv D cI g σ0) args s 0 0 (gA g)) D cI g 4 σ [(0, .ref (g 3)), (1, .int y1), (2, .int y2), (3, .int y3)] 2 [] := by
    intro K2 hK2 n
    induction n with
    | zero =>
      intro y1 y2 y3 σ hf H locs ls hl hs
      rw [fX0_removeOthers_l2] at hf
      cases hf
    | succ n ih =>
      intro y1 y2 y3 σ hf H locs ls hl hs
      rw [fX0_removeOthers_l2] at hf
      refine lv_iload_n S.1 S.2.1 dX0_removeOthers_2 rfl (lv_at hl 3 rfl) ?_
      refine lv_bipush S.1 S.2.1 dX0_removeOthers_3 k_bipush_6 ?_
      refine z_icmp_ge (tgt := 31) S hf dX0_removeOthers_5 (by decide) (fun hf => ?_) (fun hf => ?_)
      · exact hK2 _ hf _ _ _ (lv_sub hl [0] rfl) hs
      · refine lv_iload_n S.1 S.2.1 dX0_removeOthers_8 rfl (lv_at hl 3 rfl) ?_
        refine lv_iload_n S.1 S.2.1 dX0_removeOthers_9 rfl (lv_at hl 1 rfl) ?_
        refine z_icmp_eq (tgt := 25) S hf dX0_removeOthers_10 (by decide) (fun hf => ?_) (fun hf => ?_)
        · refine lv_iinc (v := y3 + nI 1) (lv' := [(3, .int (y3 + nI 1)), (0, .ref (g 3)), (1, .int y1), (2, .int y2)]) S.1 S.2.1 dX0_removeOthers_25 hl (k := 3) rfl (by rw [k_iconst_1]) (by decide) rfl (fun ls hl => ?_)
          refine lv_goto (tgt := 2) S.1 S.2.1 dX0_removeOthers_28 (by decide) ?_
          exact ih _ _ _ _ hf _ _ _ (lv_sub hl [1, 2, 3, 0] rfl) hs
        · refine lv_aload_n S.1 S.2.1 dX0_removeOthers_13 rfl (lv_at hl 0 rfl) ?_
          refine ggX0_9_3 S K hs dX0_removeOthers_14 ?_
          refine lv_iload_n S.1 S.2.1 dX0_removeOthers_17 rfl (lv_at hl 3 rfl) ?_
          refine lv_bipush S.1 S.2.1 dX0_removeOthers_18 k_bipush_32 ?_
          refine lv_imul S.1 S.2.1 dX0_removeOthers_20 ?_
          refine lv_iload_n S.1 S.2.1 dX0_removeOthers_21 rfl (lv_at hl 2 rfl) ?_
          refine lv_iadd S.1 S.2.1 dX0_removeOthers_22 ?_
          refine lv_iconst S.1 S.2.1 dX0_removeOthers_23 k_iconst_0 ?_
          refine gst4 S K hs hf dX0_removeOthers_24 (fun σ1 H locs hs hf => ?_)
          refine lv_iinc (v := y3 + nI 1) (lv' := [(3, .int (y3 + nI 1)), (0, .ref (g 3)), (1, .int y1), (2, .int y2)]) S.1 S.2.1 dX0_removeOthers_25 hl (k := 3) rfl (by rw [k_iconst_1]) (by decide) rfl (fun ls hl => ?_)
          refine lv_goto (tgt := 2) S.1 S.2.1 dX0_removeOthers_28 (by decide) ?_
          exact ih _ _ _ _ hf _ _ _ (lv_sub hl [1, 2, 3, 0] rfl) hs
  unfold fX0_removeOthers at hf
  refine lv_iconst S.1 S.2.1 dX0_removeOthers_0 k_iconst_0 ?_
  refine lv_istore_n (lv' := [(3, .int (nI 0)), (0, .ref (g 3)), (1, .int a0), (2, .int a1)]) S.1 S.2.1 dX0_removeOthers_1 rfl hl (by decide) rfl (fun ls hl => ?_)
  refine L2 _ (fun σ2 hf H locs ls hl hs => ?_) _ _ _ _ _ hf _ _ _ (lv_sub hl [1, 2, 3, 0] rfl) hs
  exact grV S K hr hk hs (hf.trans (congrArg some hres)) dX0_removeOthers_31
theorem metX0_removeOthers (l : Launch) (D : va_G) (cI : ClassId) (g : Nat → Nat) (a0 : Int32) (a1 : Int32) (σ : zSt) (σ0 : zSt) (hf : fX0_removeOthers a0 a1 σ = some σ0) : Met l yX0_removeOthers (Cond.code yX0_removeOthers cX0_removeOthers 4 none :: WA) rmX0_removeOthers (gPc D cI g σ [.ref (g 3), .int a0, .int a1]) ((gQv D cI g σ0)) 0 0 (gA g) :=
  gMet (by decide) (Nat.le_of_ble_eq_true rfl) (fun p e s m args below meth c H locs ls S K hr hk hl hs => bdX0_removeOthers S K hr hk _ _ _ _ hf hl hs)
