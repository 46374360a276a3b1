/-! a machine: contracts (by wip/tools/gworld.py) -/
set_option maxHeartbeats 4000000 in
set_option maxRecDepth 100000 in
theorem bdX0_share {p : Program} {l : Launch} {e : Env} {s : State} {m : MethodId} {args : Array Value} {below : List Frame} {meth : Method} {c : Code} {H : Heap} {locs : List Loc} {ls : Array Slot} {D : va_G} {cI : ClassId} {g : Nat → Nat} (S : CallFix p m c cX0_share 3 s args WA RX0) (K : va_K D vwCl [(cI, .int)] s) (hr : meth.sig.returnType = none) (hk : meth.locks = false) (a0 : Int32) (a1 : Int32) (σ : zSt) (σ0 : zSt) (hf : fX0_share a0 a1 σ = some σ0) (hl : lv_has ls 3 [(0, .ref (g 3)), (1, .int a0), (2, .int a1)]) (hs : gS D cI g s σ H locs) : W p l e rmX0_share s m args below meth c H locs 0 0 (MQ below (gQv D cI g σ0) args s 0 0 (gA g)) (F0 m 0 ls []) := by
  unfold fX0_share at hf
  refine lv_aload_n S.1 S.2.1 dX0_share_0 rfl (lv_at hl 0 rfl) ?_
  refine ggX0_9_3 S K hs dX0_share_1 ?_
  refine lv_iload_n S.1 S.2.1 dX0_share_4 rfl (lv_at hl 1 rfl) ?_
  refine lv_bipush S.1 S.2.1 dX0_share_5 k_bipush_32 ?_
  refine lv_imul S.1 S.2.1 dX0_share_7 ?_
  refine lv_iload_n S.1 S.2.1 dX0_share_8 rfl (lv_at hl 2 rfl) ?_
  refine lv_iadd S.1 S.2.1 dX0_share_9 ?_
  refine lv_iconst S.1 S.2.1 dX0_share_10 k_iconst_1 ?_
  refine gst4 S K hs hf dX0_share_11 (fun σ1 H locs hs hf => ?_)
  exact grV S K hr hk hs hf dX0_share_12
theorem metX0_share (l : Launch) (D : va_G) (cI : ClassId) (g : Nat → Nat) (a0 : Int32) (a1 : Int32) (σ : zSt) (σ0 : zSt) (hf : fX0_share a0 a1 σ = some σ0) : Met l yX0_share (Cond.code yX0_share cX0_share 3 none :: WA) rmX0_share (gPc D cI g σ [.ref (g 3), .int a0, .int a1]) ((gQv D cI g σ0)) 0 0 (gA g) :=
  gMet (by decide) (Nat.le_of_ble_eq_true rfl) (fun p e s m args below meth c H locs ls S K hr hk hl hs => bdX0_share S K hr hk _ _ _ _ hf hl hs)
set_option maxHeartbeats 4000000 in
set_option maxRecDepth 100000 in
theorem bdX0_sharersOf {p : Program} {l : Launch} {e : Env} {s : State} {m : MethodId} {args : Array Value} {below : List Frame} {meth : Method} {c : Code} {H : Heap} {locs : List Loc} {ls : Array Slot} {D : va_G} {cI : ClassId} {g : Nat → Nat} (S : CallFix p m c cX0_sharersOf 4 s args WA RX0) (K : va_K D vwCl [(cI, .int)] s) (hr : meth.sig.returnType = (some .int)) (hk : meth.locks = false) (a0 : Int32) (σ : zSt) (r0 : Int32) (hf : fX0_sharersOf a0 σ = some r0) (hl : lv_has ls 4 [(0, .ref (g 3)), (1, .int a0)]) (hs : gS D cI g s σ H locs) : W p l e rmX0_sharersOf s m args below meth c H locs 0 0 (MQ below (gQi D cI g r0 σ) args s 0 0 (gA g)) (F0 m 0 ls []) := by
  obtain ⟨res, hres⟩ : ∃ q, q = r0 := ⟨_, rfl⟩
  rw [← hres] at hf
  have L4 : ∀ (K4 : Int32 → Option (Int32)) (hK4 : ∀ (y2 : Int32), K4 y2 = some res → gGo p l e rmX0_sharersOf s m args below meth c (MQ below (gQi D cI g r0 σ) args s 0 0 (gA g)) D cI g 4 σ [(0, .ref (g 3)), (2, .int y2)] 37 []) (n : Nat) (y1 : Int32) (y2 : Int32) (y3 : Int32), fX0_sharersOf_l4 σ K4 n y1 y2 y3 = some res → gGo p l e rmX0_sharersOf s m args below meth c (MQ below (gQi D cI g r0 σ) args s 0 0 (gA g)) D cI g 4 σ [(0, .ref (g 3)), (1, .int y1), (2, .int y2), (3, .int y3)] 4 [] := by
    intro K4 hK4 n
    induction n with
    | zero =>
      intro y1 y2 y3 hf H locs ls hl hs
      rw [fX0_sharersOf_l4] at hf
      cases hf
    | succ n ih =>
      intro y1 y2 y3 hf H locs ls hl hs
      rw [fX0_sharersOf_l4] at hf
      refine lv_iload_n S.1 S.2.1 dX0_sharersOf_4 rfl (lv_at hl 3 rfl) ?_
      refine lv_bipush S.1 S.2.1 dX0_sharersOf_5 k_bipush_6 ?_
      refine z_icmp_ge (tgt := 37) S hf dX0_sharersOf_7 (by decide) (fun hf => ?_) (fun hf => ?_)
      · exact hK4 _ hf _ _ _ (lv_sub hl [0, 2] rfl) hs
      · refine lv_aload_n S.1 S.2.1 dX0_sharersOf_10 rfl (lv_at hl 0 rfl) ?_
        refine ggX0_9_3 S K hs dX0_sharersOf_11 ?_
        refine lv_iload_n S.1 S.2.1 dX0_sharersOf_14 rfl (lv_at hl 3 rfl) ?_
        refine lv_bipush S.1 S.2.1 dX0_sharersOf_15 k_bipush_32 ?_
        refine lv_imul S.1 S.2.1 dX0_sharersOf_17 ?_
        refine lv_iload_n S.1 S.2.1 dX0_sharersOf_18 rfl (lv_at hl 1 rfl) ?_
        refine lv_iadd S.1 S.2.1 dX0_sharersOf_19 ?_
        refine gld4 S K hs hf dX0_sharersOf_20 (fun x1 hf => ?_)
        refine lv_iconst S.1 S.2.1 dX0_sharersOf_21 k_iconst_1 ?_
        refine z_icmp_ne (tgt := 31) S hf dX0_sharersOf_22 (by decide) (fun hf => ?_) (fun hf => ?_)
        · refine lv_iinc (v := y3 + nI 1) (lv' := [(3, .int (y3 + nI 1)), (0, .ref (g 3)), (1, .int y1), (2, .int y2)]) S.1 S.2.1 dX0_sharersOf_31 hl (k := 3) rfl (by rw [k_iconst_1]) (by decide) rfl (fun ls hl => ?_)
          refine lv_goto (tgt := 4) S.1 S.2.1 dX0_sharersOf_34 (by decide) ?_
          exact ih _ _ _ hf _ _ _ (lv_sub hl [1, 2, 3, 0] rfl) hs
        · refine lv_iload_n S.1 S.2.1 dX0_sharersOf_25 rfl (lv_at hl 2 rfl) ?_
          refine lv_iconst S.1 S.2.1 dX0_sharersOf_26 k_iconst_1 ?_
          refine lv_iload_n S.1 S.2.1 dX0_sharersOf_27 rfl (lv_at hl 3 rfl) ?_
          refine lv_ishl S.1 S.2.1 dX0_sharersOf_28 ?_
          refine lv_ior S.1 S.2.1 dX0_sharersOf_29 ?_
          refine lv_istore_n (lv' := [(2, .int (y2 ||| ((nI 1) <<< (y3 &&& 31)))), (0, .ref (g 3)), (1, .int y1), (3, .int y3)]) S.1 S.2.1 dX0_sharersOf_30 rfl hl (by decide) rfl (fun ls hl => ?_)
          refine lv_iinc (v := y3 + nI 1) (lv' := [(3, .int (y3 + nI 1)), (2, .int (y2 ||| ((nI 1) <<< (y3 &&& 31)))), (0, .ref (g 3)), (1, .int y1)]) S.1 S.2.1 dX0_sharersOf_31 hl (k := 3) rfl (by rw [k_iconst_1]) (by decide) rfl (fun ls hl => ?_)
          refine lv_goto (tgt := 4) S.1 S.2.1 dX0_sharersOf_34 (by decide) ?_
          exact ih _ _ _ hf _ _ _ (lv_sub hl [2, 3, 1, 0] rfl) hs
  unfold fX0_sharersOf at hf
  refine lv_iconst S.1 S.2.1 dX0_sharersOf_0 k_iconst_0 ?_
  refine lv_istore_n (lv' := [(2, .int (nI 0)), (0, .ref (g 3)), (1, .int a0)]) S.1 S.2.1 dX0_sharersOf_1 rfl hl (by decide) rfl (fun ls hl => ?_)
  refine lv_iconst S.1 S.2.1 dX0_sharersOf_2 k_iconst_0 ?_
  refine lv_istore_n (lv' := [(3, .int (nI 0)), (2, .int (nI 0)), (0, .ref (g 3)), (1, .int a0)]) S.1 S.2.1 dX0_sharersOf_3 rfl hl (by decide) rfl (fun ls hl => ?_)
  refine L4 _ (fun x2 hf H locs ls hl hs => ?_) _ _ _ _ hf _ _ _ (lv_sub hl [2, 3, 1, 0] rfl) hs
  refine lv_iload_n S.1 S.2.1 dX0_sharersOf_37 rfl (lv_at hl 1 rfl) ?_
  exact grP S K hr hk hs (hf.trans (congrArg some hres)) dX0_sharersOf_38
theorem metX0_sharersOf (l : Launch) (D : va_G) (cI : ClassId) (g : Nat → Nat) (a0 : Int32) (σ : zSt) (r0 : Int32) (hf : fX0_sharersOf a0 σ = some r0) : Met l yX0_sharersOf (Cond.code yX0_sharersOf cX0_sharersOf 4 (some .int) :: WA) rmX0_sharersOf (gPc D cI g σ [.ref (g 3), .int a0]) ((gQi D cI g r0 σ)) 0 0 (gA g) :=
  gMet (by decide) (Nat.le_of_ble_eq_true rfl) (fun p e s m args below meth c H locs ls S K hr hk hl hs => bdX0_sharersOf S K hr hk _ _ _ hf hl hs)
set_option maxHeartbeats 4000000 in
set_option maxRecDepth 100000 in
theorem bdX0_use {p : Program} {l : Launch} {e : Env} {s : State} {m : MethodId} {args : Array Value} {below : List Frame} {meth : Method} {c : Code} {H : Heap} {locs : List Loc} {ls : Array Slot} {D : va_G} {cI : ClassId} {g : Nat → Nat} (S : CallFix p m c cX0_use 3 s args WA RX0) (K : va_K D vwCl [(cI, .int)] s) (hr : meth.sig.returnType = none) (hk : meth.locks = false) (a0 : Int32) (a1 : Int32) (σ : zSt) (σ0 : zSt) (hf : fX0_use a0 a1 σ = some σ0) (hl : lv_has ls 3 [(0, .ref (g 3)), (1, .int a0), (2, .int a1)]) (hs : gS D cI g s σ H locs) : W p l e rmX0_use s m args below meth c H locs 0 0 (MQ below (gQv D cI g σ0) args s 0 0 (gA g)) (F0 m 0 ls []) := by
  unfold fX0_use at hf
  refine lv_aload_n S.1 S.2.1 dX0_use_0 rfl (lv_at hl 0 rfl) ?_
  refine lv_dup S.1 S.2.1 dX0_use_1 rfl ?_
  refine ggX0_30_3 S K hs dX0_use_2 ?_
  refine lv_iconst S.1 S.2.1 dX0_use_5 k_iconst_1 ?_
  refine lv_iadd S.1 S.2.1 dX0_use_6 ?_
  refine gpX0_30_3 S K hs hf dX0_use_7 (fun σ1 H locs hs hf => ?_)
  refine lv_aload_n S.1 S.2.1 dX0_use_10 rfl (lv_at hl 0 rfl) ?_
  refine ggX0_21_3 S K hs dX0_use_11 ?_
  refine lv_iload_n S.1 S.2.1 dX0_use_14 rfl (lv_at hl 1 rfl) ?_
  refine lv_bipush S.1 S.2.1 dX0_use_15 k_bipush_32 ?_
  refine lv_imul S.1 S.2.1 dX0_use_17 ?_
  refine lv_iload_n S.1 S.2.1 dX0_use_18 rfl (lv_at hl 2 rfl) ?_
  refine lv_iadd S.1 S.2.1 dX0_use_19 ?_
  refine lv_aload_n S.1 S.2.1 dX0_use_20 rfl (lv_at hl 0 rfl) ?_
  refine ggX0_30_3 S K hs dX0_use_21 ?_
  refine gst7 S K hs hf dX0_use_24 (fun σ2 H locs hs hf => ?_)
  exact grV S K hr hk hs hf dX0_use_25
theorem metX0_use (l : Launch) (D : va_G) (cI : ClassId) (g : Nat → Nat) (a0 : Int32) (a1 : Int32) (σ : zSt) (σ0 : zSt) (hf : fX0_use a0 a1 σ = some σ0) : Met l yX0_use (Cond.code yX0_use cX0_use 3 none :: WA) rmX0_use (gPc D cI g σ [.ref (g 3), .int a0, .int a1]) ((gQv D cI g σ0)) 0 0 (gA g) :=
  gMet (by decide) (Nat.le_of_ble_eq_true rfl) (fun p e s m args below meth c H locs ls S K hr hk hl hs => bdX0_use S K hr hk _ _ _ _ hf hl hs)
set_option maxHeartbeats 4000000 in
set_option maxRecDepth 100000 in
theorem bdX0_valueOf {p : Program} {l : Launch} {e : Env} {s : State} {m : MethodId} {args : Array Value} {below : List Frame} {meth : Method} {c : Code} {H : Heap} {locs : List Loc} {ls : Array Slot} {D : va_G} {cI : ClassId} {g : Nat → Nat} (S : CallFix p m c cX0_valueOf 3 s args WA RX0) (K : va_K D vwCl [(cI, .int)] s) (hr : meth.sig.returnType = (some .int)) (hk : meth.locks = false) (a0 : Int32) (a1 : Int32) (σ : zSt) (r0 : Int32) (hf : fX0_valueOf a0 a1 σ = some r0) (hl : lv_has ls 3 [(0, .ref (g 3)), (1, .int a0), (2, .int a1)]) (hs : gS D cI g s σ H locs) : W p l e rmX0_valueOf s m args below meth c H locs 0 0 (MQ below (gQi D cI g r0 σ) args s 0 0 (gA g)) (F0 m 0 ls []) := by
  unfold fX0_valueOf at hf
  refine lv_aload_n S.1 S.2.1 dX0_valueOf_0 rfl (lv_at hl 0 rfl) ?_
  refine ggX0_15_3 S K hs dX0_valueOf_1 ?_
  refine lv_iload_n S.1 S.2.1 dX0_valueOf_4 rfl (lv_at hl 1 rfl) ?_
  refine lv_bipush S.1 S.2.1 dX0_valueOf_5 k_bipush_32 ?_
  refine lv_imul S.1 S.2.1 dX0_valueOf_7 ?_
  refine lv_iload_n S.1 S.2.1 dX0_valueOf_8 rfl (lv_at hl 2 rfl) ?_
  refine lv_iadd S.1 S.2.1 dX0_valueOf_9 ?_
  refine gld5 S K hs hf dX0_valueOf_10 (fun x1 hf => ?_)
  exact grP S K hr hk hs hf dX0_valueOf_11
theorem metX0_valueOf (l : Launch) (D : va_G) (cI : ClassId) (g : Nat → Nat) (a0 : Int32) (a1 : Int32) (σ : zSt) (r0 : Int32) (hf : fX0_valueOf a0 a1 σ = some r0) : Met l yX0_valueOf (Cond.code yX0_valueOf cX0_valueOf 3 (some .int) :: WA) rmX0_valueOf (gPc D cI g σ [.ref (g 3), .int a0, .int a1]) ((gQi D cI g r0 σ)) 0 0 (gA g) :=
  gMet (by decide) (Nat.le_of_ble_eq_true rfl) (fun p e s m args below meth c H locs ls S K hr hk hl hs => bdX0_valueOf S K hr hk _ _ _ _ hf hl hs)
set_option maxHeartbeats 4000000 in
set_option maxRecDepth 100000 in
theorem bdX1_empty {p : Program} {l : Launch} {e : Env} {s : State} {m : MethodId} {args : Array Value} {below : List Frame} {meth : Method} {c : Code} {H : Heap} {locs : List Loc} {ls : Array Slot} {D : va_G} {cI : ClassId} {g : Nat → Nat} (S : CallFix p m c cX1_empty 2 s args WA RX1) (K : va_K D vwCl [(cI, .int)] s) (hr : meth.sig.returnType = none) (hk : meth.locks = false) (a0 : Int32) (σ : zSt) (σ0 : zSt) (hf : fX1_empty a0 σ = some σ0) (hl : lv_has ls 2 [(0, .ref (g 8)), (1, .int a0)]) (hs : gS D cI g s σ H locs) : W p l e rmX1_empty s m args below meth c H locs 0 0 (MQ below (gQv D cI g σ0) args s 0 0 (gA g)) (F0 m 0 ls []) := by
  unfold fX1_empty at hf
  refine lv_aload_n S.1 S.2.1 dX1_empty_0 rfl (lv_at hl 0 rfl) ?_
  refine ggX1_9_8 S K hs dX1_empty_1 ?_
  refine lv_iconst S.1 S.2.1 dX1_empty_4 k_iconst_0 ?_
  refine gfl9 S K hs hl.1 u_101 hf dX1_empty_5 ⟨Nat.le_of_ble_eq_true rfl, Nat.le_of_ble_eq_true rfl⟩ (Nat.le_of_ble_eq_true rfl) ⟨Nat.le_refl _, Nat.le_refl _⟩ (fun σ1 H locs hs hf => ?_)
  refine lv_aload_n S.1 S.2.1 dX1_empty_8 rfl (lv_at hl 0 rfl) ?_
  refine lv_iconst S.1 S.2.1 dX1_empty_9 k_iconst_0 ?_
  refine gpX1_21_8 S K hs hf dX1_empty_10 (fun σ2 H locs hs hf => ?_)
  refine lv_aload_n S.1 S.2.1 dX1_empty_13 rfl (lv_at hl 0 rfl) ?_
  refine lv_iconst S.1 S.2.1 dX1_empty_14 k_iconst_0 ?_
  refine gpX1_25_8 S K hs hf dX1_empty_15 (fun σ3 H locs hs hf => ?_)
  refine lv_aload_n S.1 S.2.1 dX1_empty_18 rfl (lv_at hl 0 rfl) ?_
  refine lv_iload_n S.1 S.2.1 dX1_empty_19 rfl (lv_at hl 1 rfl) ?_
  refine gpX1_28_8 S K hs hf dX1_empty_20 (fun σ4 H locs hs hf => ?_)
  refine lv_aload_n S.1 S.2.1 dX1_empty_23 rfl (lv_at hl 0 rfl) ?_
  refine lv_iconst S.1 S.2.1 dX1_empty_24 k_iconst_0 ?_
  refine gpX1_31_8 S K hs hf dX1_empty_25 (fun σ5 H locs hs hf => ?_)
  refine lv_aload_n S.1 S.2.1 dX1_empty_28 rfl (lv_at hl 0 rfl) ?_
  refine lv_iconst S.1 S.2.1 dX1_empty_29 k_iconst_0 ?_
  refine gpX1_34_8 S K hs hf dX1_empty_30 (fun σ6 H locs hs hf => ?_)
  refine lv_aload_n S.1 S.2.1 dX1_empty_33 rfl (lv_at hl 0 rfl) ?_
  refine lv_iconst S.1 S.2.1 dX1_empty_34 k_iconst_0 ?_
  refine gpX1_37_8 S K hs hf dX1_empty_35 (fun σ7 H locs hs hf => ?_)
  exact grV S K hr hk hs hf dX1_empty_38
theorem metX1_empty (l : Launch) (D : va_G) (cI : ClassId) (g : Nat → Nat) (a0 : Int32) (σ : zSt) (σ0 : zSt) (hf : fX1_empty a0 σ = some σ0) : Met l yX1_empty (Cond.code yX1_empty cX1_empty 2 none :: WA) rmX1_empty (gPc D cI g σ [.ref (g 8), .int a0]) ((gQv D cI g σ0)) 0 0 (gA g) :=
  gMet (by decide) (Nat.le_of_ble_eq_true rfl) (fun p e s m args below meth c H locs ls S K hr hk hl hs => bdX1_empty S K hr hk _ _ _ hf hl hs)
set_option maxHeartbeats 4000000 in
set_option maxRecDepth 100000 in
theorem bdX1_hasPage {p : Program} {l : Launch} {e : Env} {s : State} {m : MethodId} {args : Array Value} {below : List Frame} {meth : Method} {c : Code} {H : Heap} {locs : List Loc} {ls : Array Slot} {D : va_G} {cI : ClassId} {g : Nat → Nat} (S : CallFix p m c cX1_hasPage 2 s args WA RX1) (K : va_K D vwCl [(cI, .int)] s) (hr : meth.sig.returnType = (some .boolean)) (hk : meth.locks = false) (a0 : Int32) (σ : zSt) (r0 : Int32) (hf : fX1_hasPage a0 σ = some r0) (hl : lv_has ls 2 [(0, .ref (g 8)), (1, .int a0)]) (hs : gS D cI g s σ H locs) : W p l e rmX1_hasPage s m args below meth c H locs 0 0 (MQ below (gQi D cI g r0 σ) args s 0 0 (gA g)) (F0 m 0 ls []) := by
  unfold fX1_hasPage at hf
  refine lv_aload_n S.1 S.2.1 dX1_hasPage_0 rfl (lv_at hl 0 rfl) ?_
  refine ggX1_9_8 S K hs dX1_hasPage_1 ?_
  refine lv_iload_n S.1 S.2.1 dX1_hasPage_4 rfl (lv_at hl 1 rfl) ?_
  refine gld9 S K hs hf dX1_hasPage_5 (fun x1 hf => ?_)
  refine z_if_le (tgt := 13) S hf dX1_hasPage_6 (by decide) (fun hf => ?_) (fun hf => ?_)
  · refine lv_iconst S.1 S.2.1 dX1_hasPage_13 k_iconst_0 ?_
    exact grB S K hr hk hs hf dX1_hasPage_14
  · refine lv_iconst S.1 S.2.1 dX1_hasPage_9 k_iconst_1 ?_
    refine lv_goto (tgt := 14) S.1 S.2.1 dX1_hasPage_10 (by decide) ?_
    exact grB S K hr hk hs hf dX1_hasPage_14
theorem metX1_hasPage (l : Launch) (D : va_G) (cI : ClassId) (g : Nat → Nat) (a0 : Int32) (σ : zSt) (r0 : Int32) (hf : fX1_hasPage a0 σ = some r0) : Met l yX1_hasPage (Cond.code yX1_hasPage cX1_hasPage 2 (some .boolean) :: WA) rmX1_hasPage (gPc D cI g σ [.ref (g 8), .int a0]) ((gQi D cI g r0 σ)) 0 0 (gA g) :=
  gMet (by decide) (Nat.le_of_ble_eq_true rfl) (fun p e s m args below meth c H locs ls S K hr hk hl hs => bdX1_hasPage S K hr hk _ _ _ hf hl hs)
set_option maxHeartbeats 4000000 in
set_option maxRecDepth 100000 in
theorem bdX1_isMarked {p : Program} {l : Launch} {e : Env} {s : State} {m : MethodId} {args : Array Value} {below : List Frame} {meth : Method} {c : Code} {H : Heap} {locs : List Loc} {ls : Array Slot} {D : va_G} {cI : ClassId} {g : Nat → Nat} (S : CallFix p m c cX1_isMarked 2 s args WA RX1) (K : va_K D vwCl [(cI, .int)] s) (hr : meth.sig.returnType = (some .boolean)) (hk : meth.locks = false) (a0 : Int32) (σ : zSt) (r0 : Int32) (hf : fX1_isMarked a0 σ = some r0) (hl : lv_has ls 2 [(0, .ref (g 8)), (1, .int a0)]) (hs : gS D cI g s σ H locs) : W p l e rmX1_isMarked s m args below meth c H locs 0 0 (MQ below (gQi D cI g r0 σ) args s 0 0 (gA g)) (F0 m 0 ls []) := by
  unfold fX1_isMarked at hf
  refine lv_aload_n S.1 S.2.1 dX1_isMarked_0 rfl (lv_at hl 0 rfl) ?_
  refine ggX1_25_8 S K hs dX1_isMarked_1 ?_
  refine lv_iload_n S.1 S.2.1 dX1_isMarked_4 rfl (lv_at hl 1 rfl) ?_
  refine lv_ishr S.1 S.2.1 dX1_isMarked_5 ?_
  refine lv_iconst S.1 S.2.1 dX1_isMarked_6 k_iconst_1 ?_
  refine lv_iand S.1 S.2.1 dX1_isMarked_7 ?_
  refine z_if_eq (tgt := 15) S hf dX1_isMarked_8 (by decide) (fun hf => ?_) (fun hf => ?_)
  · refine lv_iconst S.1 S.2.1 dX1_isMarked_15 k_iconst_0 ?_
    exact grB S K hr hk hs hf dX1_isMarked_16
  · refine lv_iconst S.1 S.2.1 dX1_isMarked_11 k_iconst_1 ?_
    refine lv_goto (tgt := 16) S.1 S.2.1 dX1_isMarked_12 (by decide) ?_
    exact grB S K hr hk hs hf dX1_isMarked_16
theorem metX1_isMarked (l : Launch) (D : va_G) (cI : ClassId) (g : Nat → Nat) (a0 : Int32) (σ : zSt) (r0 : Int32) (hf : fX1_isMarked a0 σ = some r0) : Met l yX1_isMarked (Cond.code yX1_isMarked cX1_isMarked 2 (some .boolean) :: WA) rmX1_isMarked (gPc D cI g σ [.ref (g 8), .int a0]) ((gQi D cI g r0 σ)) 0 0 (gA g) :=
  gMet (by decide) (Nat.le_of_ble_eq_true rfl) (fun p e s m args below meth c H locs ls S K hr hk hl hs => bdX1_isMarked S K hr hk _ _ _ hf hl hs)
set_option maxHeartbeats 4000000 in
set_option maxRecDepth 100000 in
theorem bdX1_lineToTear {p : Program} {l : Launch} {e : Env} {s : State} {m : MethodId} {args : Array Value} {below : List Frame} {meth : Method} {c : Code} {H : Heap} {locs : List Loc} {ls : Array Slot} {D : va_G} {cI : ClassId} {g : Nat → Nat} (S : CallFix p m c cX1_lineToTear 4 s args WA RX1) (K : va_K D vwCl [(cI, .int)] s) (hr : meth.sig.returnType = (some .int)) (hk : meth.locks = false) (σ : zSt) (r0 : Int32) (hf : fX1_lineToTear σ = some r0) (hl : lv_has ls 4 [(0, .ref (g 8))]) (hs : gS D cI g s σ H locs) : W p l e rmX1_lineToTear s m args below meth c H locs 0 0 (MQ below (gQi D cI g r0 σ) args s 0 0 (gA g)) (F0 m 0 ls []) := by
  obtain ⟨res, hres⟩ : ∃ q, q = r0 := ⟨_, rfl⟩
  rw [← hres] at hf
  have J49 : ∀ (C19 : Int32 → Int32 → Int32 → Option (Int32)) (hC19 : ∀ (y1 : Int32) (y2 : Int32) (y3 : Int32), C19 y1 y2 y3 = some res → gGo p l e rmX1_lineToTear s m args below meth c (MQ below (gQi D cI g r0 σ) args s 0 0 (gA g)) D cI g 4 σ [(0, .ref (g 8)), (1, .int y1), (2, .int y2), (3, .int y3)] 19 []) (y3 : Int32), fX1_lineToTear_j49 σ C19 y3 = some res → gGo p l e rmX1_lineToTear s m args below meth c (MQ below (gQi D cI g r0 σ) args s 0 0 (gA g)) D cI g 4 σ [(0, .ref (g 8)), (3, .int y3)] 49 [] := by
    intro C19 hC19 y3 hf H locs ls hl hs
    unfold fX1_lineToTear_j49 at hf
    refine lv_iload_n S.1 S.2.1 dX1_lineToTear_49 rfl (lv_at hl 1 rfl) ?_
    refine lv_istore_n (lv' := [(1, .int y3), (0, .ref (g 8)), (3, .int y3)]) S.1 S.2.1 dX1_lineToTear_50 rfl hl (by decide) rfl (fun ls hl => ?_)
    refine lv_aload_n S.1 S.2.1 dX1_lineToTear_51 rfl (lv_at hl 1 rfl) ?_
    refine ggX1_9_8 S K hs dX1_lineToTear_52 ?_
    refine lv_iload_n S.1 S.2.1 dX1_lineToTear_55 rfl (lv_at hl 2 rfl) ?_
    refine gld9 S K hs hf dX1_lineToTear_56 (fun x2 hf => ?_)
    refine lv_istore_n (lv' := [(2, .int x2), (1, .int y3), (0, .ref (g 8)), (3, .int y3)]) S.1 S.2.1 dX1_lineToTear_57 rfl hl (by decide) rfl (fun ls hl => ?_)
    refine lv_iinc (v := y3 + nI 1) (lv' := [(3, .int (y3 + nI 1)), (2, .int x2), (1, .int y3), (0, .ref (g 8))]) S.1 S.2.1 dX1_lineToTear_58 hl (k := 3) rfl (by rw [k_iconst_1]) (by decide) rfl (fun ls hl => ?_)
    refine lv_goto (tgt := 19) S.1 S.2.1 dX1_lineToTear_61 (by decide) ?_
    exact hC19 _ _ _ hf _ _ _ (lv_sub hl [3, 2, 1, 0] rfl) hs
  have L19 : ∀ (K19 : Int32 → Option (Int32)) (hK19 : ∀ (y1 : Int32), K19 y1 = some res → gGo p l e rmX1_lineToTear s m args below meth c (MQ below (gQi D cI g r0 σ) args s 0 0 (gA g)) D cI g 4 σ [(0, .ref (g 8)), (1, .int y1)] 64 []) (n : Nat) (y1 : Int32) (y2 : Int32) (y3 : Int32), fX1_lineToTear_l19 σ K19 n y1 y2 y3 = some res → gGo p l e rmX1_lineToTear s m args below meth c (MQ below (gQi D cI g r0 σ) args s 0 0 (gA g)) D cI g 4 σ [(0, .ref (g 8)), (1, .int y1), (2, .int y2), (3, .int y3)] 19 [] := by
    intro K19 hK19 n
    induction n with
    | zero =>
      intro y1 y2 y3 hf H locs ls hl hs
      rw [fX1_lineToTear_l19] at hf
      cases hf
    | succ n ih =>
      intro y1 y2 y3 hf H locs ls hl hs
      rw [fX1_lineToTear_l19] at hf
      refine lv_iload_n S.1 S.2.1 dX1_lineToTear_19 rfl (lv_at hl 3 rfl) ?_
      refine lv_bipush S.1 S.2.1 dX1_lineToTear_20 k_bipush_32 ?_
      refine z_icmp_ge (tgt := 64) S hf dX1_lineToTear_22 (by decide) (fun hf => ?_) (fun hf => ?_)
      · exact hK19 _ hf _ _ _ (lv_sub hl [0, 1] rfl) hs
      · refine lv_aload_n S.1 S.2.1 dX1_lineToTear_25 rfl (lv_at hl 0 rfl) ?_
        refine ggX1_9_8 S K hs dX1_lineToTear_26 ?_
        refine lv_iload_n S.1 S.2.1 dX1_lineToTear_29 rfl (lv_at hl 3 rfl) ?_
        refine gld9 S K hs hf dX1_lineToTear_30 (fun x1 hf => ?_)
        refine z_if_le (tgt := 58) S hf dX1_lineToTear_31 (by decide) (fun hf => ?_) (fun hf => ?_)
        · refine lv_iinc (v := y3 + nI 1) (lv' := [(3, .int (y3 + nI 1)), (0, .ref (g 8)), (1, .int y1), (2, .int y2)]) S.1 S.2.1 dX1_lineToTear_58 hl (k := 3) rfl (by rw [k_iconst_1]) (by decide) rfl (fun ls hl => ?_)
          refine lv_goto (tgt := 19) S.1 S.2.1 dX1_lineToTear_61 (by decide) ?_
          exact ih _ _ _ hf _ _ _ (lv_sub hl [1, 2, 3, 0] rfl) hs
        · refine lv_iload_n S.1 S.2.1 dX1_lineToTear_34 rfl (lv_at hl 1 rfl) ?_
          refine lv_iconst S.1 S.2.1 dX1_lineToTear_35 k_iconst_m1 ?_
          refine z_icmp_eq (tgt := 49) S hf dX1_lineToTear_36 (by decide) (fun hf => ?_) (fun hf => ?_)
          · exact J49 _ ih _ hf _ _ _ (lv_sub hl [0, 3] rfl) hs
          · refine lv_aload_n S.1 S.2.1 dX1_lineToTear_39 rfl (lv_at hl 0 rfl) ?_
            refine ggX1_9_8 S K hs dX1_lineToTear_40 ?_
            refine lv_iload_n S.1 S.2.1 dX1_lineToTear_43 rfl (lv_at hl 3 rfl) ?_
            refine gld9 S K hs hf dX1_lineToTear_44 (fun x3 hf => ?_)
            refine lv_iload_n S.1 S.2.1 dX1_lineToTear_45 rfl (lv_at hl 2 rfl) ?_
            refine z_icmp_ge (tgt := 58) S hf dX1_lineToTear_46 (by decide) (fun hf => ?_) (fun hf => ?_)
            · refine lv_iinc (v := y3 + nI 1) (lv' := [(3, .int (y3 + nI 1)), (0, .ref (g 8)), (1, .int y1), (2, .int y2)]) S.1 S.2.1 dX1_lineToTear_58 hl (k := 3) rfl (by rw [k_iconst_1]) (by decide) rfl (fun ls hl => ?_)
              refine lv_goto (tgt := 19) S.1 S.2.1 dX1_lineToTear_61 (by decide) ?_
              exact ih _ _ _ hf _ _ _ (lv_sub hl [1, 2, 3, 0] rfl) hs
            · exact J49 _ ih _ hf _ _ _ (lv_sub hl [0, 3] rfl) hs
  unfold fX1_lineToTear at hf
  refine lv_aload_n S.1 S.2.1 dX1_lineToTear_0 rfl (lv_at hl 0 rfl) ?_
  refine ggX1_31_8 S K hs dX1_lineToTear_1 ?_
  refine lv_aload_n S.1 S.2.1 dX1_lineToTear_4 rfl (lv_at hl 0 rfl) ?_
  refine ggX1_28_8 S K hs dX1_lineToTear_5 ?_
  refine z_icmp_ge (tgt := 13) S hf dX1_lineToTear_8 (by decide) (fun hf => ?_) (fun hf => ?_)
  · refine lv_iconst S.1 S.2.1 dX1_lineToTear_13 k_iconst_m1 ?_
    refine lv_istore_n (lv' := [(1, .int (-1)), (0, .ref (g 8))]) S.1 S.2.1 dX1_lineToTear_14 rfl hl (by decide) rfl (fun ls hl => ?_)
    refine lv_iconst S.1 S.2.1 dX1_lineToTear_15 k_iconst_0 ?_
    refine lv_istore_n (lv' := [(2, .int (nI 0)), (1, .int (-1)), (0, .ref (g 8))]) S.1 S.2.1 dX1_lineToTear_16 rfl hl (by decide) rfl (fun ls hl => ?_)
    refine lv_iconst S.1 S.2.1 dX1_lineToTear_17 k_iconst_0 ?_
    refine lv_istore_n (lv' := [(3, .int (nI 0)), (2, .int (nI 0)), (1, .int (-1)), (0, .ref (g 8))]) S.1 S.2.1 dX1_lineToTear_18 rfl hl (by decide) rfl (fun ls hl => ?_)
    refine L19 _ (fun x4 hf H locs ls hl hs => ?_) _ _ _ _ hf _ _ _ (lv_sub hl [3, 2, 1, 0] rfl) hs
    refine lv_iload_n S.1 S.2.1 dX1_lineToTear_64 rfl (lv_at hl 1 rfl) ?_
    exact grP S K hr hk hs (hf.trans (congrArg some hres)) dX1_lineToTear_65
  · refine lv_iconst S.1 S.2.1 dX1_lineToTear_11 k_iconst_m1 ?_
    exact grP S K hr hk hs (hf.trans (congrArg some hres)) dX1_lineToTear_12
theorem metX1_lineToTear (l : Launch) (D : va_G) (cI : ClassId) (g : Nat → Nat) (σ : zSt) (r0 : Int32) (hf : fX1_lineToTear σ = some r0) : Met l yX1_lineToTear (Cond.code yX1_lineToTear cX1_lineToTear 4 (some .int) :: WA) rmX1_lineToTear (gPc D cI g σ [.ref (g 8)]) ((gQi D cI g r0 σ)) 0 0 (gA g) :=
  gMet (by decide) (Nat.le_of_ble_eq_true rfl) (fun p e s m args below meth c H locs ls S K hr hk hl hs => bdX1_lineToTear S K hr hk  _ _ hf hl hs)
set_option maxHeartbeats 4000000 in
set_option maxRecDepth 100000 in
theorem bdX1_use {p : Program} {l : Launch} {e : Env} {s : State} {m : MethodId} {args : Array Value} {below : List Frame} {meth : Method} {c : Code} {H : Heap} {locs : List Loc} {ls : Array Slot} {D : va_G} {cI : ClassId} {g : Nat → Nat} (S : CallFix p m c cX1_use 2 s args WA RX1) (K : va_K D vwCl [(cI, .int)] s) (hr : meth.sig.returnType = none) (hk : meth.locks = false) (a0 : Int32) (σ : zSt) (σ0 : zSt) (hf : fX1_use a0 σ = some σ0) (hl : lv_has ls 2 [(0, .ref (g 8)), (1, .int a0)]) (hs : gS D cI g s σ H locs) : W p l e rmX1_use s m args below meth c H locs 0 0 (MQ below (gQv D cI g σ0) args s 0 0 (gA g)) (F0 m 0 ls []) := by
  unfold fX1_use at hf
  refine lv_aload_n S.1 S.2.1 dX1_use_0 rfl (lv_at hl 0 rfl) ?_
  refine lv_dup S.1 S.2.1 dX1_use_1 rfl ?_
  refine ggX1_21_8 S K hs dX1_use_2 ?_
  refine lv_iconst S.1 S.2.1 dX1_use_5 k_iconst_1 ?_
  refine lv_iadd S.1 S.2.1 dX1_use_6 ?_
  refine gpX1_21_8 S K hs hf dX1_use_7 (fun σ1 H locs hs hf => ?_)
  refine lv_aload_n S.1 S.2.1 dX1_use_10 rfl (lv_at hl 0 rfl) ?_
  refine ggX1_9_8 S K hs dX1_use_11 ?_
  refine lv_iload_n S.1 S.2.1 dX1_use_14 rfl (lv_at hl 1 rfl) ?_
  refine lv_aload_n S.1 S.2.1 dX1_use_15 rfl (lv_at hl 0 rfl) ?_
  refine ggX1_21_8 S K hs dX1_use_16 ?_
  refine gst9 S K hs hf dX1_use_19 (fun σ2 H locs hs hf => ?_)
  exact grV S K hr hk hs hf dX1_use_20
theorem metX1_use (l : Launch) (D : va_G) (cI : ClassId) (g : Nat → Nat) (a0 : Int32) (σ : zSt) (σ0 : zSt) (hf : fX1_use a0 σ = some σ0) : Met l yX1_use (Cond.code yX1_use cX1_use 2 none :: WA) rmX1_use (gPc D cI g σ [.ref (g 8), .int a0]) ((gQv D cI g σ0)) 0 0 (gA g) :=
  gMet (by decide) (Nat.le_of_ble_eq_true rfl) (fun p e s m args below meth c H locs ls S K hr hk hl hs => bdX1_use S K hr hk _ _ _ hf hl hs)
set_option maxHeartbeats 4000000 in
set_option maxRecDepth 100000 in
theorem bdX1_makePage {p : Program} {l : Launch} {e : Env} {s : State} {m : MethodId} {args : Array Value} {below : List Frame} {meth : Method} {c : Code} {H : Heap} {locs : List Loc} {ls : Array Slot} {D : va_G} {cI : ClassId} {g : Nat → Nat} (S : CallFix p m c cX1_makePage 2 s args WA RX1) (K : va_K D vwCl [(cI, .int)] s) (hr : meth.sig.returnType = none) (hk : meth.locks = false) (a0 : Int32) (σ : zSt) (σ0 : zSt) (hf : fX1_makePage a0 σ = some σ0) (hl : lv_has ls 2 [(0, .ref (g 8)), (1, .int a0)]) (hs : gS D cI g s σ H locs) : W p l e rmX1_makePage s m args below meth c H locs 0 0 (MQ below (gQv D cI g σ0) args s 0 0 (gA g)) (F0 m 0 ls []) := by
  obtain ⟨res, hres⟩ : ∃ q, q = σ0 := ⟨_, rfl⟩
  rw [← hres] at hf
  have J32 : ∀ (y1 : Int32) (σ : zSt), fX1_makePage_j32 y1 σ = some res → gGo p l e rmX1_makePage s m args below meth c (MQ below (gQv D cI g σ0) args s 0 0 (gA g)) D cI g 2 σ [(0, .ref (g 8)), (1, .int y1)] 32 [] := by
    intro y1 σ hf H locs ls hl hs
    unfold fX1_makePage_j32 at hf
    refine lv_aload_n S.1 S.2.1 dX1_makePage_32 rfl (lv_at hl 0 rfl) ?_
    refine lv_dup S.1 S.2.1 dX1_makePage_33 rfl ?_
    refine ggX1_31_8 S K hs dX1_makePage_34 ?_
    refine lv_iconst S.1 S.2.1 dX1_makePage_37 k_iconst_1 ?_
    refine lv_iadd S.1 S.2.1 dX1_makePage_38 ?_
    refine gpX1_31_8 S K hs hf dX1_makePage_39 (fun σ2 H locs hs hf => ?_)
    refine lv_aload_n S.1 S.2.1 dX1_makePage_42 rfl (lv_at hl 0 rfl) ?_
    refine lv_iload_n S.1 S.2.1 dX1_makePage_43 rfl (lv_at hl 1 rfl) ?_
    refine gcU (gV8 K hs) S K hs hl.1 hf (fun _ hX => metX1_use _ _ _ _ _ _ _ hX) (cwX1_50 S.2.2.2.2 ⟨Nat.le_of_ble_eq_true rfl, Nat.le_of_ble_eq_true rfl⟩) rfl dX1_makePage_44 rfl (Nat.le_of_ble_eq_true rfl) ⟨Nat.le_refl _, Nat.le_refl _⟩ (fun σ3 H locs hs hf => ?_)
    exact grV S K hr hk hs (hf.trans (congrArg some hres)) dX1_makePage_47
  unfold fX1_makePage at hf
  refine lv_aload_n S.1 S.2.1 dX1_makePage_0 rfl (lv_at hl 0 rfl) ?_
  refine lv_iload_n S.1 S.2.1 dX1_makePage_1 rfl (lv_at hl 1 rfl) ?_
  refine gcP (gV8 K hs) S K hs hl.1 hf (fun _ hX => metX1_isMarked _ _ _ _ _ _ _ hX) (cwX1_46 S.2.2.2.2 ⟨Nat.le_of_ble_eq_true rfl, Nat.le_of_ble_eq_true rfl⟩) rfl dX1_makePage_2 rfl (Nat.le_of_ble_eq_true rfl) ⟨Nat.le_refl _, Nat.le_refl _⟩ (fun x1 H locs hs hf => ?_)
  refine z_if_eq (tgt := 32) S hf dX1_makePage_5 (by decide) (fun hf => ?_) (fun hf => ?_)
  · exact J32 _ _ hf _ _ _ (lv_sub hl [0, 1] rfl) hs
  · refine lv_aload_n S.1 S.2.1 dX1_makePage_8 rfl (lv_at hl 0 rfl) ?_
    refine lv_dup S.1 S.2.1 dX1_makePage_9 rfl ?_
    refine ggX1_34_8 S K hs dX1_makePage_10 ?_
    refine lv_iconst S.1 S.2.1 dX1_makePage_13 k_iconst_1 ?_
    refine lv_iadd S.1 S.2.1 dX1_makePage_14 ?_
    refine gpX1_34_8 S K hs hf dX1_makePage_15 (fun σ4 H locs hs hf => ?_)
    refine lv_aload_n S.1 S.2.1 dX1_makePage_18 rfl (lv_at hl 0 rfl) ?_
    refine lv_dup S.1 S.2.1 dX1_makePage_19 rfl ?_
    refine ggX1_25_8 S K hs dX1_makePage_20 ?_
    refine lv_iconst S.1 S.2.1 dX1_makePage_23 k_iconst_1 ?_
    refine lv_iload_n S.1 S.2.1 dX1_makePage_24 rfl (lv_at hl 1 rfl) ?_
    refine lv_ishl S.1 S.2.1 dX1_makePage_25 ?_
    refine lv_iconst S.1 S.2.1 dX1_makePage_26 k_iconst_m1 ?_
    refine lv_ixor S.1 S.2.1 dX1_makePage_27 ?_
    refine lv_iand S.1 S.2.1 dX1_makePage_28 ?_
    refine gpX1_25_8 S K hs hf dX1_makePage_29 (fun σ5 H locs hs hf => ?_)
    exact J32 _ _ hf _ _ _ (lv_sub hl [0, 1] rfl) hs
theorem metX1_makePage (l : Launch) (D : va_G) (cI : ClassId) (g : Nat → Nat) (a0 : Int32) (σ : zSt) (σ0 : zSt) (hf : fX1_makePage a0 σ = some σ0) : Met l yX1_makePage (Cond.code yX1_makePage cX1_makePage 2 none :: WA) rmX1_makePage (gPc D cI g σ [.ref (g 8), .int a0]) ((gQv D cI g σ0)) 0 0 (gA g) :=
  gMet (by decide) (Nat.le_of_ble_eq_true rfl) (fun p e s m args below meth c H locs ls S K hr hk hl hs => bdX1_makePage S K hr hk _ _ _ hf hl hs)
set_option maxHeartbeats 4000000 in
set_option maxRecDepth 100000 in
theorem bdX1_tearOut {p : Program} {l : Launch} {e : Env} {s : State} {m : MethodId} {args : Array Value} {below : List Frame} {meth : Method} {c : Code} {H : Heap} {locs : List Loc} {ls : Array Slot} {D : va_G} {cI : ClassId} {g : Nat → Nat} (S : CallFix p m c cX1_tearOut 3 s args WA RX1) (K : va_K D vwCl [(cI, .int)] s) (hr : meth.sig.returnType = none) (hk : meth.locks = false) (a0 : Int32) (a1 : Int32) (σ : zSt) (σ0 : zSt) (hf : fX1_tearOut a0 a1 σ = some σ0) (hl : lv_has ls 3 [(0, .ref (g 8)), (1, .int a0), (2, .int a1)]) (hs : gS D cI g s σ H locs) : W p l e rmX1_tearOut s m args below meth c H locs 0 0 (MQ below (gQv D cI g σ0) args s 0 0 (gA g)) (F0 m 0 ls []) := by
  unfold fX1_tearOut at hf
  refine lv_aload_n S.1 S.2.1 dX1_tearOut_0 rfl (lv_at hl 0 rfl) ?_
  refine ggX1_9_8 S K hs dX1_tearOut_1 ?_
  refine lv_iload_n S.1 S.2.1 dX1_tearOut_4 rfl (lv_at hl 1 rfl) ?_
  refine lv_iconst S.1 S.2.1 dX1_tearOut_5 k_iconst_0 ?_
  refine gst9 S K hs hf dX1_tearOut_6 (fun σ1 H locs hs hf => ?_)
  refine lv_aload_n S.1 S.2.1 dX1_tearOut_7 rfl (lv_at hl 0 rfl) ?_
  refine lv_dup S.1 S.2.1 dX1_tearOut_8 rfl ?_
  refine ggX1_31_8 S K hs dX1_tearOut_9 ?_
  refine lv_iconst S.1 S.2.1 dX1_tearOut_12 k_iconst_1 ?_
  refine lv_isub S.1 S.2.1 dX1_tearOut_13 ?_
  refine gpX1_31_8 S K hs hf dX1_tearOut_14 (fun σ2 H locs hs hf => ?_)
  refine lv_aload_n S.1 S.2.1 dX1_tearOut_17 rfl (lv_at hl 0 rfl) ?_
  refine lv_dup S.1 S.2.1 dX1_tearOut_18 rfl ?_
  refine ggX1_37_8 S K hs dX1_tearOut_19 ?_
  refine lv_iconst S.1 S.2.1 dX1_tearOut_22 k_iconst_1 ?_
  refine lv_iadd S.1 S.2.1 dX1_tearOut_23 ?_
  refine gpX1_37_8 S K hs hf dX1_tearOut_24 (fun σ3 H locs hs hf => ?_)
  refine lv_iload_n S.1 S.2.1 dX1_tearOut_27 rfl (lv_at hl 2 rfl) ?_
  refine z_if_eq (tgt := 43) S hf dX1_tearOut_28 (by decide) (fun hf => ?_) (fun hf => ?_)
  · exact grV S K hr hk hs hf dX1_tearOut_43
  · refine lv_aload_n S.1 S.2.1 dX1_tearOut_31 rfl (lv_at hl 0 rfl) ?_
    refine lv_dup S.1 S.2.1 dX1_tearOut_32 rfl ?_
    refine ggX1_25_8 S K hs dX1_tearOut_33 ?_
    refine lv_iconst S.1 S.2.1 dX1_tearOut_36 k_iconst_1 ?_
    refine lv_iload_n S.1 S.2.1 dX1_tearOut_37 rfl (lv_at hl 1 rfl) ?_
    refine lv_ishl S.1 S.2.1 dX1_tearOut_38 ?_
    refine lv_ior S.1 S.2.1 dX1_tearOut_39 ?_
    refine gpX1_25_8 S K hs hf dX1_tearOut_40 (fun σ4 H locs hs hf => ?_)
    exact grV S K hr hk hs hf dX1_tearOut_43
theorem metX1_tearOut (l : Launch) (D : va_G) (cI : ClassId) (g : Nat → Nat) (a0 : Int32) (a1 : Int32) (σ : zSt) (σ0 : zSt) (hf : fX1_tearOut a0 a1 σ = some σ0) : Met l yX1_tearOut (Cond.code yX1_tearOut cX1_tearOut 3 none :: WA) rmX1_tearOut (gPc D cI g σ [.ref (g 8), .int a0, .int a1]) ((gQv D cI g σ0)) 0 0 (gA g) :=
  gMet (by decide) (Nat.le_of_ble_eq_true rfl) (fun p e s m args below meth c H locs ls S K hr hk hl hs => bdX1_tearOut S K hr hk _ _ _ _ hf hl hs)
set_option maxHeartbeats 4000000 in
set_option maxRecDepth 100000 in
theorem bdX3_add {p : Program} {l : Launch} {e : Env} {s : State} {m : MethodId} {args : Array Value} {below : List Frame} {meth : Method} {c : Code} {H : Heap} {locs : List Loc} {ls : Array Slot} {D : va_G} {cI : ClassId} {g : Nat → Nat} (S : CallFix p m c cX3_add 8 s args WA RX3) (K : va_K D vwCl [(cI, .int)] s) (hr : meth.sig.returnType = none) (hk : meth.locks = false) (a0 : Int32) (a1 : Int32) (a2 : Int32) (a3 : Int32) (a4 : Int32) (a5 : Int32) (σ : zSt) (σ0 : zSt) (hf : fX3_add a0 a1 a2 a3 a4 a5 σ = some σ0) (hl : lv_has ls 8 [(0, .ref (g 14)), (1, .int a0), (2, .int a1), (3, .int a2), (4, .int a3), (5, .int a4), (6, .int a5)]) (hs : gS D cI g s σ H locs) : W p l e rmX3_add s m args below meth c H locs 0 0 (MQ below (gQv D cI g σ0) args s 0 0 (gA g)) (F0 m 0 ls []) := by
  obtain ⟨res, hres⟩ : ∃ q, q = σ0 := ⟨_, rfl⟩
  rw [← hres] at hf
  have L9 : ∀ (K9 : Int32 → Int32 → Int32 → Int32 → Int32 → Int32 → zSt → Option (zSt)) (hK9 : ∀ (y1 : Int32) (y2 : Int32) (y3 : Int32) (y4 : Int32) (y5 : Int32) (y6 : Int32) (σ : zSt), K9 y1 y2 y3 y4 y5 y6 σ = some res → gGo p l e rmX3_add s m args below meth c (MQ below (gQv D cI g σ0) args s 0 0 (gA g)) D cI g 8 σ [(0, .ref (g 14)), (1, .int y1), (2, .int y2), (3, .int y3), (4, .int y4), (5, .int y5), (6, .int y6)] 39 []) (n : Nat) (y1 : Int32) (y2 : Int32) (y3 : Int32) (y4 : Int32) (y5 : Int32) (y6 : Int32) (y7 : Int32) (σ : zSt), fX3_add_l9 K9 n y1 y2 y3 y4 y5 y6 y7 σ = some res → gGo p l e rmX3_add s m args below meth c (MQ below (gQv D cI g σ0) args s 0 0 (gA g)) D cI g 8 σ [(0, .ref (g 14)), (1, .int y1), (2, .int y2), (3, .int y3), (4, .int y4), (5, .int y5), (6, .int y6), (7, .int y7)] 9 [] := by
    intro K9 hK9 n
    induction n with
    | zero =>
      intro y1 y2 y3 y4 y5 y6 y7 σ hf H locs ls hl hs
      rw [fX3_add_l9] at hf
      cases hf
    | succ n ih =>
      intro y1 y2 y3 y4 y5 y6 y7 σ hf H locs ls hl hs
      rw [fX3_add_l9] at hf
      refine lv_iload S.1 S.2.1 dX3_add_9 (lv_at hl 7 rfl) ?_
      refine lv_bipush S.1 S.2.1 dX3_add_11 k_bipush_6 ?_
      refine z_icmp_lt (tgt := 39) S hf dX3_add_13 (by decide) (fun hf => ?_) (fun hf => ?_)
      · exact hK9 _ _ _ _ _ _ _ hf _ _ _ (lv_sub hl [0, 1, 2, 3, 4, 5, 6] rfl) hs
      · refine lv_aload_n S.1 S.2.1 dX3_add_16 rfl (lv_at hl 0 rfl) ?_
        refine ggX3_9_14 S K hs dX3_add_17 ?_
        refine lv_iload S.1 S.2.1 dX3_add_20 (lv_at hl 7 rfl) ?_
        refine lv_aload_n S.1 S.2.1 dX3_add_22 rfl (lv_at hl 0 rfl) ?_
        refine ggX3_9_14 S K hs dX3_add_23 ?_
        refine lv_iload S.1 S.2.1 dX3_add_26 (lv_at hl 7 rfl) ?_
        refine lv_bipush S.1 S.2.1 dX3_add_28 k_bipush_6 ?_
        refine lv_isub S.1 S.2.1 dX3_add_30 ?_
        refine gld15 S K hs hf dX3_add_31 (fun x1 hf => ?_)
        refine gst15 S K hs hf dX3_add_32 (fun σ2 H locs hs hf => ?_)
        refine lv_iinc (v := y7 + (-1)) (lv' := [(7, .int (y7 + (-1))), (0, .ref (g 14)), (1, .int y1), (2, .int y2), (3, .int y3), (4, .int y4), (5, .int y5), (6, .int y6)]) S.1 S.2.1 dX3_add_33 hl (k := 7) rfl (by rw [k_iconst_m1]) (by decide) rfl (fun ls hl => ?_)
        refine lv_goto (tgt := 9) S.1 S.2.1 dX3_add_36 (by decide) ?_
        exact ih _ _ _ _ _ _ _ _ hf _ _ _ (lv_sub hl [1, 2, 3, 4, 5, 6, 7, 0] rfl) hs
  unfold fX3_add at hf
  refine lv_aload_n S.1 S.2.1 dX3_add_0 rfl (lv_at hl 0 rfl) ?_
  refine ggX3_9_14 S K hs dX3_add_1 ?_
  refine gal15 S K hs dX3_add_4 ?_
  refine lv_iconst S.1 S.2.1 dX3_add_5 k_iconst_1 ?_
  refine lv_isub S.1 S.2.1 dX3_add_6 ?_
  refine lv_istore (lv' := [(7, .int ((nI 72) - (nI 1))), (0, .ref (g 14)), (1, .int a0), (2, .int a1), (3, .int a2), (4, .int a3), (5, .int a4), (6, .int a5)]) S.1 S.2.1 dX3_add_7 hl (by decide) rfl (fun ls hl => ?_)
  refine L9 _ (fun x3 x4 x5 x6 x7 x8 σ9 hf H locs ls hl hs => ?_) _ _ _ _ _ _ _ _ _ hf _ _ _ (lv_sub hl [1, 2, 3, 4, 5, 6, 7, 0] rfl) hs
  refine lv_aload_n S.1 S.2.1 dX3_add_39 rfl (lv_at hl 0 rfl) ?_
  refine ggX3_9_14 S K hs dX3_add_40 ?_
  refine lv_iconst S.1 S.2.1 dX3_add_43 k_iconst_0 ?_
  refine lv_iload_n S.1 S.2.1 dX3_add_44 rfl (lv_at hl 1 rfl) ?_
  refine gst15 S K hs hf dX3_add_45 (fun σ10 H locs hs hf => ?_)
  refine lv_aload_n S.1 S.2.1 dX3_add_46 rfl (lv_at hl 0 rfl) ?_
  refine ggX3_9_14 S K hs dX3_add_47 ?_
  refine lv_iconst S.1 S.2.1 dX3_add_50 k_iconst_1 ?_
  refine lv_iload_n S.1 S.2.1 dX3_add_51 rfl (lv_at hl 2 rfl) ?_
  refine gst15 S K hs hf dX3_add_52 (fun σ11 H locs hs hf => ?_)
  refine lv_aload_n S.1 S.2.1 dX3_add_53 rfl (lv_at hl 0 rfl) ?_
  refine ggX3_9_14 S K hs dX3_add_54 ?_
  refine lv_iconst S.1 S.2.1 dX3_add_57 k_iconst_2 ?_
  refine lv_iload_n S.1 S.2.1 dX3_add_58 rfl (lv_at hl 3 rfl) ?_
  refine gst15 S K hs hf dX3_add_59 (fun σ12 H locs hs hf => ?_)
  refine lv_aload_n S.1 S.2.1 dX3_add_60 rfl (lv_at hl 0 rfl) ?_
  refine ggX3_9_14 S K hs dX3_add_61 ?_
  refine lv_iconst S.1 S.2.1 dX3_add_64 k_iconst_3 ?_
  refine lv_iload S.1 S.2.1 dX3_add_65 (lv_at hl 4 rfl) ?_
  refine gst15 S K hs hf dX3_add_67 (fun σ13 H locs hs hf => ?_)
  refine lv_aload_n S.1 S.2.1 dX3_add_68 rfl (lv_at hl 0 rfl) ?_
  refine ggX3_9_14 S K hs dX3_add_69 ?_
  refine lv_iconst S.1 S.2.1 dX3_add_72 k_iconst_4 ?_
  refine lv_iload S.1 S.2.1 dX3_add_73 (lv_at hl 5 rfl) ?_
  refine gst15 S K hs hf dX3_add_75 (fun σ14 H locs hs hf => ?_)
  refine lv_aload_n S.1 S.2.1 dX3_add_76 rfl (lv_at hl 0 rfl) ?_
  refine ggX3_9_14 S K hs dX3_add_77 ?_
  refine lv_iconst S.1 S.2.1 dX3_add_80 k_iconst_5 ?_
  refine lv_iload S.1 S.2.1 dX3_add_81 (lv_at hl 6 rfl) ?_
  refine gst15 S K hs hf dX3_add_83 (fun σ15 H locs hs hf => ?_)
  refine lv_aload_n S.1 S.2.1 dX3_add_84 rfl (lv_at hl 0 rfl) ?_
  refine ggX3_21_14 S K hs dX3_add_85 ?_
  refine lv_bipush S.1 S.2.1 dX3_add_88 k_bipush_12 ?_
  refine z_icmp_ge (tgt := 103) S hf dX3_add_90 (by decide) (fun hf => ?_) (fun hf => ?_)
  · exact grV S K hr hk hs (hf.trans (congrArg some hres)) dX3_add_103
  · refine lv_aload_n S.1 S.2.1 dX3_add_93 rfl (lv_at hl 0 rfl) ?_
    refine lv_dup S.1 S.2.1 dX3_add_94 rfl ?_
    refine ggX3_21_14 S K hs dX3_add_95 ?_
    refine lv_iconst S.1 S.2.1 dX3_add_98 k_iconst_1 ?_
    refine lv_iadd S.1 S.2.1 dX3_add_99 ?_
    refine gpX3_21_14 S K hs hf dX3_add_100 (fun σ16 H locs hs hf => ?_)
    exact grV S K hr hk hs (hf.trans (congrArg some hres)) dX3_add_103
theorem metX3_add (l : Launch) (D : va_G) (cI : ClassId) (g : Nat → Nat) (a0 : Int32) (a1 : Int32) (a2 : Int32) (a3 : Int32) (a4 : Int32) (a5 : Int32) (σ : zSt) (σ0 : zSt) (hf : fX3_add a0 a1 a2 a3 a4 a5 σ = some σ0) : Met l yX3_add (Cond.code yX3_add cX3_add 8 none :: WA) rmX3_add (gPc D cI g σ [.ref (g 14), .int a0, .int a1, .int a2, .int a3, .int a4, .int a5]) ((gQv D cI g σ0)) 0 0 (gA g) :=
  gMet (by decide) (Nat.le_of_ble_eq_true rfl) (fun p e s m args below meth c H locs ls S K hr hk hl hs => bdX3_add S K hr hk _ _ _ _ _ _ _ _ hf hl hs)
set_option maxHeartbeats 4000000 in
set_option maxRecDepth 100000 in
theorem bdX3_fact {p : Program} {l : Launch} {e : Env} {s : State} {m : MethodId} {args : Array Value} {below : List Frame} {meth : Method} {c : Code} {H : Heap} {locs : List Loc} {ls : Array Slot} {D : va_G} {cI : ClassId} {g : Nat → Nat} (S : CallFix p m c cX3_fact 3 s args WA RX3) (K : va_K D vwCl [(cI, .int)] s) (hr : meth.sig.returnType = (some .int)) (hk : meth.locks = false) (a0 : Int32) (a1 : Int32) (σ : zSt) (r0 : Int32) (hf : fX3_fact a0 a1 σ = some r0) (hl : lv_has ls 3 [(0, .ref (g 14)), (1, .int a0), (2, .int a1)]) (hs : gS D cI g s σ H locs) : W p l e rmX3_fact s m args below meth c H locs 0 0 (MQ below (gQi D cI g r0 σ) args s 0 0 (gA g)) (F0 m 0 ls []) := by
  unfold fX3_fact at hf
  refine lv_aload_n S.1 S.2.1 dX3_fact_0 rfl (lv_at hl 0 rfl) ?_
  refine ggX3_9_14 S K hs dX3_fact_1 ?_
  refine lv_iload_n S.1 S.2.1 dX3_fact_4 rfl (lv_at hl 1 rfl) ?_
  refine lv_bipush S.1 S.2.1 dX3_fact_5 k_bipush_6 ?_
  refine lv_imul S.1 S.2.1 dX3_fact_7 ?_
  refine lv_iload_n S.1 S.2.1 dX3_fact_8 rfl (lv_at hl 2 rfl) ?_
  refine lv_iadd S.1 S.2.1 dX3_fact_9 ?_
  refine gld15 S K hs hf dX3_fact_10 (fun x1 hf => ?_)
  exact grP S K hr hk hs hf dX3_fact_11
theorem metX3_fact (l : Launch) (D : va_G) (cI : ClassId) (g : Nat → Nat) (a0 : Int32) (a1 : Int32) (σ : zSt) (r0 : Int32) (hf : fX3_fact a0 a1 σ = some r0) : Met l yX3_fact (Cond.code yX3_fact cX3_fact 3 (some .int) :: WA) rmX3_fact (gPc D cI g σ [.ref (g 14), .int a0, .int a1]) ((gQi D cI g r0 σ)) 0 0 (gA g) :=
  gMet (by decide) (Nat.le_of_ble_eq_true rfl) (fun p e s m args below meth c H locs ls S K hr hk hl hs => bdX3_fact S K hr hk _ _ _ _ hf hl hs)
set_option maxHeartbeats 4000000 in
set_option maxRecDepth 100000 in
theorem bdX4_bringBack {p : Program} {l : Launch} {e : Env} {s : State} {m : MethodId} {args : Array Value} {below : List Frame} {meth : Method} {c : Code} {H : Heap} {locs : List Loc} {ls : Array Slot} {D : va_G} {cI : ClassId} {g : Nat → Nat} (S : CallFix p m c cX4_bringBack 3 s args WA RX4) (K : va_K D vwCl [(cI, .int)] s) (hr : meth.sig.returnType = none) (hk : meth.locks = false) (a0 : Int32) (a1 : Int32) (σ : zSt) (σ0 : zSt) (hf : fX4_bringBack a0 a1 σ = some σ0) (hl : lv_has ls 3 [(0, .ref (g 0)), (1, .int a0), (2, .int a1)]) (hs : gS D cI g s σ H locs) : W p l e rmX4_bringBack s m args below meth c H locs 0 0 (MQ below (gQv D cI g σ0) args s 0 0 (gA g)) (F0 m 0 ls []) := by
  unfold fX4_bringBack at hf
  refine lv_aload_n S.1 S.2.1 dX4_bringBack_0 rfl (lv_at hl 0 rfl) ?_
  refine ggX4_9_0 S K hs dX4_bringBack_1 ?_
  refine lv_iload_n S.1 S.2.1 dX4_bringBack_4 rfl (lv_at hl 2 rfl) ?_
  refine lv_aload_n S.1 S.2.1 dX4_bringBack_5 rfl (lv_at hl 0 rfl) ?_
  refine ggX4_21_0 S K hs dX4_bringBack_6 ?_
  refine lv_iload_n S.1 S.2.1 dX4_bringBack_9 rfl (lv_at hl 1 rfl) ?_
  refine lv_iload_n S.1 S.2.1 dX4_bringBack_10 rfl (lv_at hl 2 rfl) ?_
  refine gcP (gV3 K hs) S K hs hl.1 hf (fun _ hX => metX0_valueOf _ _ _ _ _ _ _ _ hX) (cwX4_180 S.2.2.2.2 ⟨Nat.le_of_ble_eq_true rfl, Nat.le_of_ble_eq_true rfl⟩) rfl dX4_bringBack_11 rfl (Nat.le_of_ble_eq_true rfl) ⟨Nat.le_refl _, Nat.le_refl _⟩ (fun x1 H locs hs hf => ?_)
  refine gst1 S K hs hf dX4_bringBack_14 (fun σ2 H locs hs hf => ?_)
  refine lv_aload_n S.1 S.2.1 dX4_bringBack_15 rfl (lv_at hl 0 rfl) ?_
  refine lv_dup S.1 S.2.1 dX4_bringBack_16 rfl ?_
  refine ggX4_87_0 S K hs dX4_bringBack_17 ?_
  refine lv_iconst S.1 S.2.1 dX4_bringBack_20 k_iconst_1 ?_
  refine lv_iadd S.1 S.2.1 dX4_bringBack_21 ?_
  refine gpX4_87_0 S K hs hf dX4_bringBack_22 (fun σ3 H locs hs hf => ?_)
  exact grV S K hr hk hs hf dX4_bringBack_25
theorem metX4_bringBack (l : Launch) (D : va_G) (cI : ClassId) (g : Nat → Nat) (a0 : Int32) (a1 : Int32) (σ : zSt) (σ0 : zSt) (hf : fX4_bringBack a0 a1 σ = some σ0) : Met l yX4_bringBack (Cond.code yX4_bringBack cX4_bringBack 3 none :: WA) rmX4_bringBack (gPc D cI g σ [.ref (g 0), .int a0, .int a1]) ((gQv D cI g σ0)) 0 0 (gA g) :=
  gMet (by decide) (Nat.le_of_ble_eq_true rfl) (fun p e s m args below meth c H locs ls S K hr hk hl hs => bdX4_bringBack S K hr hk _ _ _ _ hf hl hs)
set_option maxHeartbeats 4000000 in
set_option maxRecDepth 100000 in
theorem bdX4_isHit {p : Program} {l : Launch} {e : Env} {s : State} {m : MethodId} {args : Array Value} {below : List Frame} {meth : Method} {c : Code} {H : Heap} {locs : List Loc} {ls : Array Slot} {D : va_G} {cI : ClassId} {g : Nat → Nat} (S : CallFix p m c cX4_isHit 5 s args WA RX4) (K : va_K D vwCl [(cI, .int)] s) (hr : meth.sig.returnType = (some .boolean)) (hk : meth.locks = false) (a0 : Int32) (a1 : Int32) (a2 : Int32) (σ : zSt) (r0 : Int32) (hf : fX4_isHit a0 a1 a2 σ = some r0) (hl : lv_has ls 5 [(0, .ref (g 0)), (1, .int a0), (2, .int a1), (3, .int a2)]) (hs : gS D cI g s σ H locs) : W p l e rmX4_isHit s m args below meth c H locs 0 0 (MQ below (gQi D cI g r0 σ) args s 0 0 (gA g)) (F0 m 0 ls []) := by
  unfold fX4_isHit at hf
  refine lv_aload_n S.1 S.2.1 dX4_isHit_0 rfl (lv_at hl 0 rfl) ?_
  refine ggX4_21_0 S K hs dX4_isHit_1 ?_
  refine lv_iload_n S.1 S.2.1 dX4_isHit_4 rfl (lv_at hl 1 rfl) ?_
  refine lv_iload_n S.1 S.2.1 dX4_isHit_5 rfl (lv_at hl 2 rfl) ?_
  refine gcP (gV3 K hs) S K hs hl.1 hf (fun _ hX => metX0_kindOf _ _ _ _ _ _ _ _ hX) (cwX4_137 S.2.2.2.2 ⟨Nat.le_of_ble_eq_true rfl, Nat.le_of_ble_eq_true rfl⟩) rfl dX4_isHit_6 rfl (Nat.le_of_ble_eq_true rfl) ⟨Nat.le_refl _, Nat.le_refl _⟩ (fun x1 H locs hs hf => ?_)
  refine lv_istore (lv' := [(4, .int x1), (0, .ref (g 0)), (1, .int a0), (2, .int a1), (3, .int a2)]) S.1 S.2.1 dX4_isHit_9 hl (by decide) rfl (fun ls hl => ?_)
  refine lv_iload_n S.1 S.2.1 dX4_isHit_11 rfl (lv_at hl 4 rfl) ?_
  refine z_if_eq (tgt := 29) S hf dX4_isHit_12 (by decide) (fun hf => ?_) (fun hf => ?_)
  · refine lv_iload S.1 S.2.1 dX4_isHit_29 (lv_at hl 0 rfl) ?_
    refine z_if_eq (tgt := 38) S hf dX4_isHit_31 (by decide) (fun hf => ?_) (fun hf => ?_)
    · refine lv_iconst S.1 S.2.1 dX4_isHit_38 k_iconst_0 ?_
      exact grB S K hr hk hs hf dX4_isHit_39
    · refine lv_iconst S.1 S.2.1 dX4_isHit_34 k_iconst_1 ?_
      refine lv_goto (tgt := 39) S.1 S.2.1 dX4_isHit_35 (by decide) ?_
      exact grB S K hr hk hs hf dX4_isHit_39
  · refine lv_iload S.1 S.2.1 dX4_isHit_15 (lv_at hl 0 rfl) ?_
    refine lv_iconst S.1 S.2.1 dX4_isHit_17 k_iconst_2 ?_
    refine z_icmp_ne (tgt := 25) S hf dX4_isHit_18 (by decide) (fun hf => ?_) (fun hf => ?_)
    · refine lv_iconst S.1 S.2.1 dX4_isHit_25 k_iconst_0 ?_
      refine lv_goto (tgt := 39) S.1 S.2.1 dX4_isHit_26 (by decide) ?_
      exact grB S K hr hk hs hf dX4_isHit_39
    · refine lv_iconst S.1 S.2.1 dX4_isHit_21 k_iconst_1 ?_
      refine lv_goto (tgt := 39) S.1 S.2.1 dX4_isHit_22 (by decide) ?_
      exact grB S K hr hk hs hf dX4_isHit_39
theorem metX4_isHit (l : Launch) (D : va_G) (cI : ClassId) (g : Nat → Nat) (a0 : Int32) (a1 : Int32) (a2 : Int32) (σ : zSt) (r0 : Int32) (hf : fX4_isHit a0 a1 a2 σ = some r0) : Met l yX4_isHit (Cond.code yX4_isHit cX4_isHit 5 (some .boolean) :: WA) rmX4_isHit (gPc D cI g σ [.ref (g 0), .int a0, .int a1, .int a2]) ((gQi D cI g r0 σ)) 0 0 (gA g) :=
  gMet (by decide) (Nat.le_of_ble_eq_true rfl) (fun p e s m args below meth c H locs ls S K hr hk hl hs => bdX4_isHit S K hr hk _ _ _ _ _ hf hl hs)
set_option maxHeartbeats 4000000 in
set_option maxRecDepth 100000 in
theorem bdX4_lineToDrop {p : Program} {l : Launch} {e : Env} {s : State} {m : MethodId} {args : Array Value} {below : List Frame} {meth : Method} {c : Code} {H : Heap} {locs : List Loc} {ls : Array Slot} {D : va_G} {cI : ClassId} {g : Nat → Nat} (S : CallFix p m c cX4_lineToDrop 2 s args WA RX4) (K : va_K D vwCl [(cI, .int)] s) (hr : meth.sig.returnType = (some .int)) (hk : meth.locks = false) (a0 : Int32) (σ : zSt) (r0 : Int32) (hf : fX4_lineToDrop a0 σ = some r0) (hl : lv_has ls 2 [(0, .ref (g 0)), (1, .int a0)]) (hs : gS D cI g s σ H locs) : W p l e rmX4_lineToDrop s m args below meth c H locs 0 0 (MQ below (gQi D cI g r0 σ) args s 0 0 (gA g)) (F0 m 0 ls []) := by
  unfold fX4_lineToDrop at hf
  refine lv_aload_n S.1 S.2.1 dX4_lineToDrop_0 rfl (lv_at hl 0 rfl) ?_
  refine ggX4_21_0 S K hs dX4_lineToDrop_1 ?_
  refine lv_iload_n S.1 S.2.1 dX4_lineToDrop_4 rfl (lv_at hl 1 rfl) ?_
  refine lv_aload_n S.1 S.2.1 dX4_lineToDrop_5 rfl (lv_at hl 0 rfl) ?_
  refine ggX4_69_0 S K hs dX4_lineToDrop_6 ?_
  refine gcP (gV3 K hs) S K hs hl.1 hf (fun _ hX => metX0_freeSlot _ _ _ _ _ _ _ _ hX) (cwX4_208 S.2.2.2.2 ⟨Nat.le_of_ble_eq_true rfl, Nat.le_of_ble_eq_true rfl⟩) rfl dX4_lineToDrop_9 rfl (Nat.le_of_ble_eq_true rfl) ⟨Nat.le_refl _, Nat.le_refl _⟩ (fun x1 H locs hs hf => ?_)
  refine lv_iconst S.1 S.2.1 dX4_lineToDrop_12 k_iconst_m1 ?_
  refine z_icmp_eq (tgt := 20) S hf dX4_lineToDrop_13 (by decide) (fun hf => ?_) (fun hf => ?_)
  · refine lv_aload_n S.1 S.2.1 dX4_lineToDrop_20 rfl (lv_at hl 0 rfl) ?_
    refine ggX4_21_0 S K hs dX4_lineToDrop_21 ?_
    refine lv_iload_n S.1 S.2.1 dX4_lineToDrop_24 rfl (lv_at hl 1 rfl) ?_
    refine gcP (gV3 K hs) S K hs hl.1 hf (fun _ hX => metX0_leastUsed _ _ _ _ _ _ _ hX) (cwX4_229 S.2.2.2.2 ⟨Nat.le_of_ble_eq_true rfl, Nat.le_of_ble_eq_true rfl⟩) rfl dX4_lineToDrop_25 rfl (Nat.le_of_ble_eq_true rfl) ⟨Nat.le_refl _, Nat.le_refl _⟩ (fun x2 H locs hs hf => ?_)
    exact grP S K hr hk hs hf dX4_lineToDrop_28
  · refine lv_iconst S.1 S.2.1 dX4_lineToDrop_16 k_iconst_m1 ?_
    refine lv_goto (tgt := 28) S.1 S.2.1 dX4_lineToDrop_17 (by decide) ?_
    exact grP S K hr hk hs hf dX4_lineToDrop_28
theorem metX4_lineToDrop (l : Launch) (D : va_G) (cI : ClassId) (g : Nat → Nat) (a0 : Int32) (σ : zSt) (r0 : Int32) (hf : fX4_lineToDrop a0 σ = some r0) : Met l yX4_lineToDrop (Cond.code yX4_lineToDrop cX4_lineToDrop 2 (some .int) :: WA) rmX4_lineToDrop (gPc D cI g σ [.ref (g 0), .int a0]) ((gQi D cI g r0 σ)) 0 0 (gA g) :=
  gMet (by decide) (Nat.le_of_ble_eq_true rfl) (fun p e s m args below meth c H locs ls S K hr hk hl hs => bdX4_lineToDrop S K hr hk _ _ _ hf hl hs)
set_option maxHeartbeats 4000000 in
set_option maxRecDepth 100000 in
theorem bdX4_costOf {p : Program} {l : Launch} {e : Env} {s : State} {m : MethodId} {args : Array Value} {below : List Frame} {meth : Method} {c : Code} {H : Heap} {locs : List Loc} {ls : Array Slot} {D : va_G} {cI : ClassId} {g : Nat → Nat} (S : CallFix p m c cX4_costOf 6 s args WA RX4) (K : va_K D vwCl [(cI, .int)] s) (hr : meth.sig.returnType = (some .int)) (hk : meth.locks = false) (a0 : Int32) (a1 : Int32) (a2 : Int32) (σ : zSt) (r0 : Int32) (hf : fX4_costOf a0 a1 a2 σ = some r0) (hl : lv_has ls 6 [(0, .ref (g 0)), (1, .int a0), (2, .int a1), (3, .int a2)]) (hs : gS D cI g s σ H locs) : W p l e rmX4_costOf s m args below meth c H locs 0 0 (MQ below (gQi D cI g r0 σ) args s 0 0 (gA g)) (F0 m 0 ls []) := by
  obtain ⟨res, hres⟩ : ∃ q, q = r0 := ⟨_, rfl⟩
  rw [← hres] at hf
  have J87 : ∀ (y1 : Int32) (y2 : Int32) (y4 : Int32), fX4_costOf_j87 σ y1 y2 y4 = some res → gGo p l e rmX4_costOf s m args below meth c (MQ below (gQi D cI g r0 σ) args s 0 0 (gA g)) D cI g 6 σ [(0, .ref (g 0)), (1, .int y1), (2, .int y2), (4, .int y4)] 87 [] := by
    intro y1 y2 y4 hf H locs ls hl hs
    unfold fX4_costOf_j87 at hf
    refine lv_aload_n S.1 S.2.1 dX4_costOf_87 rfl (lv_at hl 0 rfl) ?_
    refine ggX4_21_0 S K hs dX4_costOf_88 ?_
    refine lv_iload_n S.1 S.2.1 dX4_costOf_91 rfl (lv_at hl 1 rfl) ?_
    refine lv_iload_n S.1 S.2.1 dX4_costOf_92 rfl (lv_at hl 2 rfl) ?_
    refine gcP (gV3 K hs) S K hs hl.1 hf (fun _ hX => metX0_kindOf _ _ _ _ _ _ _ _ hX) (cwX4_137 S.2.2.2.2 ⟨Nat.le_of_ble_eq_true rfl, Nat.le_of_ble_eq_true rfl⟩) rfl dX4_costOf_93 rfl (Nat.le_of_ble_eq_true rfl) ⟨Nat.le_refl _, Nat.le_refl _⟩ (fun x4 H locs hs hf => ?_)
    refine z_if_ne (tgt := 129) S hf dX4_costOf_96 (by decide) (fun hf => ?_) (fun hf => ?_)
    · refine lv_iload S.1 S.2.1 dX4_costOf_129 (lv_at hl 3 rfl) ?_
      exact grP S K hr hk hs (hf.trans (congrArg some hres)) dX4_costOf_131
    · refine lv_aload_n S.1 S.2.1 dX4_costOf_99 rfl (lv_at hl 0 rfl) ?_
      refine lv_iload_n S.1 S.2.1 dX4_costOf_100 rfl (lv_at hl 1 rfl) ?_
      refine gcP (gV0 K hs) S K hs hl.1 hf (fun _ hX => metX4_lineToDrop _ _ _ _ _ _ _ hX) (cwX4_159 S.2.2.2.2 ⟨Nat.le_of_ble_eq_true rfl, Nat.le_of_ble_eq_true rfl⟩) rfl dX4_costOf_101 rfl (Nat.le_of_ble_eq_true rfl) ⟨Nat.le_refl _, Nat.le_refl _⟩ (fun x5 H locs hs hf => ?_)
      refine lv_istore (lv' := [(5, .int x5), (0, .ref (g 0)), (1, .int y1), (2, .int y2), (4, .int y4)]) S.1 S.2.1 dX4_costOf_104 hl (by decide) rfl (fun ls hl => ?_)
      refine lv_iload S.1 S.2.1 dX4_costOf_106 (lv_at hl 0 rfl) ?_
      refine lv_iconst S.1 S.2.1 dX4_costOf_108 k_iconst_m1 ?_
      refine z_icmp_eq (tgt := 129) S hf dX4_costOf_109 (by decide) (fun hf => ?_) (fun hf => ?_)
      · refine lv_iload S.1 S.2.1 dX4_costOf_129 (lv_at hl 4 rfl) ?_
        exact grP S K hr hk hs (hf.trans (congrArg some hres)) dX4_costOf_131
      · refine lv_aload_n S.1 S.2.1 dX4_costOf_112 rfl (lv_at hl 1 rfl) ?_
        refine ggX4_21_0 S K hs dX4_costOf_113 ?_
        refine lv_iload_n S.1 S.2.1 dX4_costOf_116 rfl (lv_at hl 2 rfl) ?_
        refine lv_iload S.1 S.2.1 dX4_costOf_117 (lv_at hl 0 rfl) ?_
        refine gcP (gV3 K hs) S K hs hl.1 hf (fun _ hX => metX0_kindOf _ _ _ _ _ _ _ _ hX) (cwX4_137 S.2.2.2.2 ⟨Nat.le_of_ble_eq_true rfl, Nat.le_of_ble_eq_true rfl⟩) rfl dX4_costOf_119 rfl (Nat.le_of_ble_eq_true rfl) ⟨Nat.le_refl _, Nat.le_refl _⟩ (fun x6 H locs hs hf => ?_)
        refine lv_iconst S.1 S.2.1 dX4_costOf_122 k_iconst_2 ?_
        refine z_icmp_ne (tgt := 129) S hf dX4_costOf_123 (by decide) (fun hf => ?_) (fun hf => ?_)
        · refine lv_iload S.1 S.2.1 dX4_costOf_129 (lv_at hl 4 rfl) ?_
          exact grP S K hr hk hs (hf.trans (congrArg some hres)) dX4_costOf_131
        · refine lv_iinc (v := y4 + nI 1) (lv' := [(4, .int (y4 + nI 1)), (5, .int x5), (0, .ref (g 0)), (1, .int y1), (2, .int y2)]) S.1 S.2.1 dX4_costOf_126 hl (k := 4) rfl (by rw [k_iconst_1]) (by decide) rfl (fun ls hl => ?_)
          refine lv_iload S.1 S.2.1 dX4_costOf_129 (lv_at hl 0 rfl) ?_
          exact grP S K hr hk hs (hf.trans (congrArg some hres)) dX4_costOf_131
  have J61 : ∀ (y1 : Int32) (y2 : Int32) (y3 : Int32) (y4 : Int32), fX4_costOf_j61 σ y1 y2 y3 y4 = some res → gGo p l e rmX4_costOf s m args below meth c (MQ below (gQi D cI g r0 σ) args s 0 0 (gA g)) D cI g 6 σ [(0, .ref (g 0)), (1, .int y1), (2, .int y2), (3, .int y3), (4, .int y4)] 61 [] := by
    intro y1 y2 y3 y4 hf H locs ls hl hs
    unfold fX4_costOf_j61 at hf
    refine lv_iload_n S.1 S.2.1 dX4_costOf_61 rfl (lv_at hl 3 rfl) ?_
    refine z_if_eq (tgt := 87) S hf dX4_costOf_62 (by decide) (fun hf => ?_) (fun hf => ?_)
    · exact J87 _ _ _ hf _ _ _ (lv_sub hl [0, 1, 2, 4] rfl) hs
    · refine lv_iload S.1 S.2.1 dX4_costOf_65 (lv_at hl 4 rfl) ?_
      refine lv_aload_n S.1 S.2.1 dX4_costOf_67 rfl (lv_at hl 0 rfl) ?_
      refine ggX4_21_0 S K hs dX4_costOf_68 ?_
      refine lv_iload_n S.1 S.2.1 dX4_costOf_71 rfl (lv_at hl 2 rfl) ?_
      refine gcP (gV3 K hs) S K hs hl.1 hf (fun _ hX => metX0_sharersOf _ _ _ _ _ _ _ hX) (cwX4_151 S.2.2.2.2 ⟨Nat.le_of_ble_eq_true rfl, Nat.le_of_ble_eq_true rfl⟩) rfl dX4_costOf_72 rfl (Nat.le_of_ble_eq_true rfl) ⟨Nat.le_refl _, Nat.le_refl _⟩ (fun x7 H locs hs hf => ?_)
      refine lv_iconst S.1 S.2.1 dX4_costOf_75 k_iconst_1 ?_
      refine lv_iload_n S.1 S.2.1 dX4_costOf_76 rfl (lv_at hl 1 rfl) ?_
      refine lv_ishl S.1 S.2.1 dX4_costOf_77 ?_
      refine lv_iconst S.1 S.2.1 dX4_costOf_78 k_iconst_m1 ?_
      refine lv_ixor S.1 S.2.1 dX4_costOf_79 ?_
      refine lv_iand S.1 S.2.1 dX4_costOf_80 ?_
      refine gcT S K hs hl.1 hf (fun _ hX => metJ6_bitCount_0f7a4 _ _ _ _ _ _ _ hX) (cwX4_154 S.2.2.2.2 ⟨Nat.le_of_ble_eq_true rfl, Nat.le_of_ble_eq_true rfl⟩) rfl dX4_costOf_81 rfl (Nat.le_of_ble_eq_true rfl) ⟨Nat.le_refl _, Nat.le_refl _⟩ (fun x8 H locs hs hf => ?_)
      refine lv_iadd S.1 S.2.1 dX4_costOf_84 ?_
      refine lv_istore (lv' := [(4, .int (y4 + x8)), (0, .ref (g 0)), (1, .int y1), (2, .int y2), (3, .int y3)]) S.1 S.2.1 dX4_costOf_85 hl (by decide) rfl (fun ls hl => ?_)
      exact J87 _ _ _ hf _ _ _ (lv_sub hl [1, 2, 3, 0] rfl) hs
  have J44 : ∀ (y1 : Int32) (y2 : Int32) (y3 : Int32) (w0 : Int32), fX4_costOf_j44 σ y1 y2 y3 w0 = some res → gGo p l e rmX4_costOf s m args below meth c (MQ below (gQi D cI g r0 σ) args s 0 0 (gA g)) D cI g 6 σ [(0, .ref (g 0)), (1, .int y1), (2, .int y2), (3, .int y3)] 44 [.int w0] := by
    intro y1 y2 y3 w0 hf H locs ls hl hs
    unfold fX4_costOf_j44 at hf
    refine lv_istore (lv' := [(4, .int w0), (0, .ref (g 0)), (1, .int y1), (2, .int y2), (3, .int y3)]) S.1 S.2.1 dX4_costOf_44 hl (by decide) rfl (fun ls hl => ?_)
    refine lv_aload_n S.1 S.2.1 dX4_costOf_46 rfl (lv_at hl 1 rfl) ?_
    refine ggX4_21_0 S K hs dX4_costOf_47 ?_
    refine lv_iload_n S.1 S.2.1 dX4_costOf_50 rfl (lv_at hl 3 rfl) ?_
    refine gcP (gV3 K hs) S K hs hl.1 hf (fun _ hX => metX0_ownerOf _ _ _ _ _ _ _ hX) (cwX4_147 S.2.2.2.2 ⟨Nat.le_of_ble_eq_true rfl, Nat.le_of_ble_eq_true rfl⟩) rfl dX4_costOf_51 rfl (Nat.le_of_ble_eq_true rfl) ⟨Nat.le_refl _, Nat.le_refl _⟩ (fun x3 H locs hs hf => ?_)
    refine lv_iconst S.1 S.2.1 dX4_costOf_54 k_iconst_m1 ?_
    refine z_icmp_eq (tgt := 61) S hf dX4_costOf_55 (by decide) (fun hf => ?_) (fun hf => ?_)
    · exact J61 _ _ _ _ hf _ _ _ (lv_sub hl [1, 2, 3, 4, 0] rfl) hs
    · refine lv_iinc (v := w0 + nI 2) (lv' := [(4, .int (w0 + nI 2)), (0, .ref (g 0)), (1, .int y1), (2, .int y2), (3, .int y3)]) S.1 S.2.1 dX4_costOf_58 hl (k := 0) rfl (by rw [k_iconst_2]) (by decide) rfl (fun ls hl => ?_)
      exact J61 _ _ _ _ hf _ _ _ (lv_sub hl [1, 2, 3, 4, 0] rfl) hs
  have J43 : ∀ (y1 : Int32) (y2 : Int32) (y3 : Int32), fX4_costOf_j43 σ y1 y2 y3 = some res → gGo p l e rmX4_costOf s m args below meth c (MQ below (gQi D cI g r0 σ) args s 0 0 (gA g)) D cI g 6 σ [(0, .ref (g 0)), (1, .int y1), (2, .int y2), (3, .int y3)] 43 [] := by
    intro y1 y2 y3 hf H locs ls hl hs
    unfold fX4_costOf_j43 at hf
    refine lv_iconst S.1 S.2.1 dX4_costOf_43 k_iconst_1 ?_
    exact J44 _ _ _ _ hf _ _ _ (lv_sub hl [0, 1, 2, 3] rfl) hs
  unfold fX4_costOf at hf
  refine lv_aload_n S.1 S.2.1 dX4_costOf_0 rfl (lv_at hl 0 rfl) ?_
  refine lv_iload_n S.1 S.2.1 dX4_costOf_1 rfl (lv_at hl 1 rfl) ?_
  refine lv_iload_n S.1 S.2.1 dX4_costOf_2 rfl (lv_at hl 2 rfl) ?_
  refine lv_iload_n S.1 S.2.1 dX4_costOf_3 rfl (lv_at hl 3 rfl) ?_
  refine gcP (gV0 K hs) S K hs hl.1 hf (fun _ hX => metX4_isHit _ _ _ _ _ _ _ _ _ hX) (cwX4_126 S.2.2.2.2 ⟨Nat.le_of_ble_eq_true rfl, Nat.le_of_ble_eq_true rfl⟩) rfl dX4_costOf_4 rfl (Nat.le_of_ble_eq_true rfl) ⟨Nat.le_refl _, Nat.le_refl _⟩ (fun x1 H locs hs hf => ?_)
  refine z_if_eq (tgt := 12) S hf dX4_costOf_7 (by decide) (fun hf => ?_) (fun hf => ?_)
  · refine lv_aload_n S.1 S.2.1 dX4_costOf_12 rfl (lv_at hl 0 rfl) ?_
    refine ggX4_28_0 S K hs dX4_costOf_13 ?_
    refine lv_iload_n S.1 S.2.1 dX4_costOf_16 rfl (lv_at hl 2 rfl) ?_
    refine gcP (gV8 K hs) S K hs hl.1 hf (fun _ hX => metX1_hasPage _ _ _ _ _ _ _ hX) (cwX4_141 S.2.2.2.2 ⟨Nat.le_of_ble_eq_true rfl, Nat.le_of_ble_eq_true rfl⟩) rfl dX4_costOf_17 rfl (Nat.le_of_ble_eq_true rfl) ⟨Nat.le_refl _, Nat.le_refl _⟩ (fun x2 H locs hs hf => ?_)
    refine z_if_ne (tgt := 43) S hf dX4_costOf_20 (by decide) (fun hf => ?_) (fun hf => ?_)
    · exact J43 _ _ _ hf _ _ _ (lv_sub hl [0, 1, 2, 3] rfl) hs
    · refine lv_aload_n S.1 S.2.1 dX4_costOf_23 rfl (lv_at hl 0 rfl) ?_
      refine ggX4_28_0 S K hs dX4_costOf_24 ?_
      refine lv_iload_n S.1 S.2.1 dX4_costOf_27 rfl (lv_at hl 2 rfl) ?_
      refine gcP (gV8 K hs) S K hs hl.1 hf (fun _ hX => metX1_isMarked _ _ _ _ _ _ _ hX) (cwX4_144 S.2.2.2.2 ⟨Nat.le_of_ble_eq_true rfl, Nat.le_of_ble_eq_true rfl⟩) rfl dX4_costOf_28 rfl (Nat.le_of_ble_eq_true rfl) ⟨Nat.le_refl _, Nat.le_refl _⟩ (fun x9 H locs hs hf => ?_)
      refine z_if_eq (tgt := 43) S hf dX4_costOf_31 (by decide) (fun hf => ?_) (fun hf => ?_)
      · exact J43 _ _ _ hf _ _ _ (lv_sub hl [0, 1, 2, 3] rfl) hs
      · refine lv_aload_n S.1 S.2.1 dX4_costOf_34 rfl (lv_at hl 0 rfl) ?_
        refine ggX4_66_0 S K hs dX4_costOf_35 ?_
        refine lv_iconst S.1 S.2.1 dX4_costOf_38 k_iconst_1 ?_
        refine lv_isub S.1 S.2.1 dX4_costOf_39 ?_
        refine lv_goto (tgt := 44) S.1 S.2.1 dX4_costOf_40 (by decide) ?_
        exact J44 _ _ _ _ hf _ _ _ (lv_sub hl [0, 1, 2, 3] rfl) hs
  · refine lv_iconst S.1 S.2.1 dX4_costOf_10 k_iconst_0 ?_
    exact grP S K hr hk hs (hf.trans (congrArg some hres)) dX4_costOf_11
theorem metX4_costOf (l : Launch) (D : va_G) (cI : ClassId) (g : Nat → Nat) (a0 : Int32) (a1 : Int32) (a2 : Int32) (σ : zSt) (r0 : Int32) (hf : fX4_costOf a0 a1 a2 σ = some r0) : Met l yX4_costOf (Cond.code yX4_costOf cX4_costOf 6 (some .int) :: WA) rmX4_costOf (gPc D cI g σ [.ref (g 0), .int a0, .int a1, .int a2]) ((gQi D cI g r0 σ)) 0 0 (gA g) :=
  gMet (by decide) (Nat.le_of_ble_eq_true rfl) (fun p e s m args below meth c H locs ls S K hr hk hl hs => bdX4_costOf S K hr hk _ _ _ _ _ hf hl hs)
