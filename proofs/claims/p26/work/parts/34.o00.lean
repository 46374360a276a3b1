/-! a machine: contracts (by wip/tools/gworld.py) -/
set_option maxHeartbeats 4000000 in
set_option maxRecDepth 100000 in
theorem bdX5_isTicks {p : Program} {l : Launch} {e : Env} {s : State} {m : MethodId} {args : Array Value} {below : List Frame} {meth : Method} {c : Code} {H : Heap} {locs : List Loc} {ls : Array Slot} {D : va_G} {cI : ClassId} {cB : ClassId} {o : Nat → Nat} {tx : Nat} {ad6 : Nat → Nat} (S : CallFix p m c cX5_isTicks 2 s args WA RX5) (K : oK D cI cB ad6 (oA cB o tx ad6) s) (hr : meth.sig.returnType = (some .boolean)) (hk : meth.locks = false) (a0 : Int32) (σ : zSt) (r0 : Int32) (hf : fX5_isTicks a0 σ = some r0) (hl : lv_has ls 2 [(0, .ref (o 0)), (1, .int a0)]) (hs : oS D cI cB o tx ad6 s σ H locs) : W p l e rmX5_isTicks s m args below meth c H locs 0 0 (MQ below (oQi D cI cB o tx ad6 r0 σ) args s 0 0 (oA cB o tx ad6)) (F0 m 0 ls []) := by
  unfold fX5_isTicks at hf
  refine lv_aload_n S.1 S.2.1 dX5_isTicks_0 rfl (lv_at hl 0 rfl) ?_
  refine ogX5_9_0 S K hs dX5_isTicks_1 ?_
  refine lv_iload_n S.1 S.2.1 dX5_isTicks_4 rfl (lv_at hl 1 rfl) ?_
  refine old1 S K hs hf dX5_isTicks_5 (fun x1 hf => ?_)
  refine lv_iconst S.1 S.2.1 dX5_isTicks_6 k_iconst_m1 ?_
  refine z_icmp_ne (tgt := 14) S hf dX5_isTicks_7 (by decide) (fun hf => ?_) (fun hf => ?_)
  · refine lv_iconst S.1 S.2.1 dX5_isTicks_14 k_iconst_0 ?_
    exact orB S K hr hk hs hf dX5_isTicks_15
  · refine lv_iconst S.1 S.2.1 dX5_isTicks_10 k_iconst_1 ?_
    refine lv_goto (tgt := 15) S.1 S.2.1 dX5_isTicks_11 (by decide) ?_
    exact orB S K hr hk hs hf dX5_isTicks_15
theorem metX5_isTicks (l : Launch) (D : va_G) (cI : ClassId) (cB : ClassId) (o : Nat → Nat) (tx : Nat) (ad6 : Nat → Nat) (a0 : Int32) (σ : zSt) (r0 : Int32) (hf : fX5_isTicks a0 σ = some r0) : Met l yX5_isTicks (Cond.code yX5_isTicks cX5_isTicks 2 (some .boolean) :: WA) rmX5_isTicks (oPc D cI cB o tx ad6 σ [.ref (o 0), .int a0]) ((oQi D cI cB o tx ad6 r0 σ)) 0 0 (oA cB o tx ad6) :=
  oMet (by decide) (Nat.le_of_ble_eq_true rfl) (fun p e s m args below meth c H locs ls S K hr hk hl hs => bdX5_isTicks S K hr hk _ _ _ hf hl hs)
set_option maxHeartbeats 4000000 in
set_option maxRecDepth 100000 in
theorem bdX5_keepOrder {p : Program} {l : Launch} {e : Env} {s : State} {m : MethodId} {args : Array Value} {below : List Frame} {meth : Method} {c : Code} {H : Heap} {locs : List Loc} {ls : Array Slot} {D : va_G} {cI : ClassId} {cB : ClassId} {o : Nat → Nat} {tx : Nat} {ad6 : Nat → Nat} (S : CallFix p m c cX5_keepOrder 1 s args WA RX5) (K : oK D cI cB ad6 (oA cB o tx ad6) s) (hr : meth.sig.returnType = none) (hk : meth.locks = false) (σ : zSt) (σ0 : zSt) (hf : fX5_keepOrder σ = some σ0) (hl : lv_has ls 1 [(0, .ref (o 0))]) (hs : oS D cI cB o tx ad6 s σ H locs) : W p l e rmX5_keepOrder s m args below meth c H locs 0 0 (MQ below (oQv D cI cB o tx ad6 σ0) args s 0 0 (oA cB o tx ad6)) (F0 m 0 ls []) := by
  obtain ⟨res, hres⟩ : ∃ q, q = σ0 := ⟨_, rfl⟩
  rw [← hres] at hf
  have J72 : ∀ (σ : zSt), fX5_keepOrder_j72 σ = some res → oGo p l e rmX5_keepOrder s m args below meth c (MQ below (oQv D cI cB o tx ad6 σ0) args s 0 0 (oA cB o tx ad6)) D cI cB o tx ad6 1 σ [(0, .ref (o 0))] 72 [] := by
    intro σ hf H locs ls hl hs
    unfold fX5_keepOrder_j72 at hf
    refine lv_aload_n S.1 S.2.1 dX5_keepOrder_72 rfl (lv_at hl 0 rfl) ?_
    refine ogsX5_21 S K hs dX5_keepOrder_73 ?_
    refine opX5_27_0 S K hs hf dX5_keepOrder_76 (fun σ1 H locs hs hf => ?_)
    exact orV S K hr hk hs (hf.trans (congrArg some hres)) dX5_keepOrder_79
  have J61 : ∀ (w0 : Int32) (w1 : Int32) (σ : zSt), fX5_keepOrder_j61 w0 w1 σ = some res → oGo p l e rmX5_keepOrder s m args below meth c (MQ below (oQv D cI cB o tx ad6 σ0) args s 0 0 (oA cB o tx ad6)) D cI cB o tx ad6 1 σ [(0, .ref (o 0))] 61 [.int w0, .int w1, .ref (o 3)] := by
    intro w0 w1 σ hf H locs ls hl hs
    unfold fX5_keepOrder_j61 at hf
    refine ost3 S K hs hf dX5_keepOrder_61 (fun σ4 H locs hs hf => ?_)
    refine lv_aload_n S.1 S.2.1 dX5_keepOrder_62 rfl (lv_at hl 0 rfl) ?_
    refine lv_dup S.1 S.2.1 dX5_keepOrder_63 rfl ?_
    refine ogX5_30_0 S K hs dX5_keepOrder_64 ?_
    refine lv_iconst S.1 S.2.1 dX5_keepOrder_67 k_iconst_1 ?_
    refine lv_iadd S.1 S.2.1 dX5_keepOrder_68 ?_
    refine opX5_30_0 S K hs hf dX5_keepOrder_69 (fun σ5 H locs hs hf => ?_)
    exact J72 _ hf _ _ _ (lv_sub hl [0] rfl) hs
  unfold fX5_keepOrder at hf
  refine lv_aload_n S.1 S.2.1 dX5_keepOrder_0 rfl (lv_at hl 0 rfl) ?_
  refine ogX5_30_0 S K hs dX5_keepOrder_1 ?_
  refine lv_bipush S.1 S.2.1 dX5_keepOrder_4 k_bipush_34 ?_
  refine z_icmp_ge (tgt := 72) S hf dX5_keepOrder_6 (by decide) (fun hf => ?_) (fun hf => ?_)
  · exact J72 _ hf _ _ _ (lv_sub hl [0] rfl) hs
  · refine lv_aload_n S.1 S.2.1 dX5_keepOrder_9 rfl (lv_at hl 0 rfl) ?_
    refine ogX5_9_0 S K hs dX5_keepOrder_10 ?_
    refine lv_aload_n S.1 S.2.1 dX5_keepOrder_13 rfl (lv_at hl 0 rfl) ?_
    refine ogX5_30_0 S K hs dX5_keepOrder_14 ?_
    refine lv_aload_n S.1 S.2.1 dX5_keepOrder_17 rfl (lv_at hl 0 rfl) ?_
    refine ogX5_57_0 S K hs dX5_keepOrder_18 ?_
    refine ost1 S K hs hf dX5_keepOrder_21 (fun σ2 H locs hs hf => ?_)
    refine lv_aload_n S.1 S.2.1 dX5_keepOrder_22 rfl (lv_at hl 0 rfl) ?_
    refine ogX5_15_0 S K hs dX5_keepOrder_23 ?_
    refine lv_aload_n S.1 S.2.1 dX5_keepOrder_26 rfl (lv_at hl 0 rfl) ?_
    refine ogX5_30_0 S K hs dX5_keepOrder_27 ?_
    refine lv_aload_n S.1 S.2.1 dX5_keepOrder_30 rfl (lv_at hl 0 rfl) ?_
    refine ogX5_92_0 S K hs dX5_keepOrder_31 ?_
    refine ost2 S K hs hf dX5_keepOrder_34 (fun σ3 H locs hs hf => ?_)
    refine lv_aload_n S.1 S.2.1 dX5_keepOrder_35 rfl (lv_at hl 0 rfl) ?_
    refine ogX5_18_0 S K hs dX5_keepOrder_36 ?_
    refine lv_aload_n S.1 S.2.1 dX5_keepOrder_39 rfl (lv_at hl 0 rfl) ?_
    refine ogX5_30_0 S K hs dX5_keepOrder_40 ?_
    refine lv_aload_n S.1 S.2.1 dX5_keepOrder_43 rfl (lv_at hl 0 rfl) ?_
    refine ogX5_27_0 S K hs dX5_keepOrder_44 ?_
    refine ogsX5_71 S K hs dX5_keepOrder_47 ?_
    refine oac_ne (tgt := 57) S K hs hf dX5_keepOrder_50 (by decide) (fun hf => ?_) (fun hf => ?_)
    · refine lv_aload_n S.1 S.2.1 dX5_keepOrder_57 rfl (lv_at hl 0 rfl) ?_
      refine ogX5_74_0 S K hs dX5_keepOrder_58 ?_
      exact J61 _ _ _ hf _ _ _ (lv_sub hl [0] rfl) hs
    · refine lv_iconst S.1 S.2.1 dX5_keepOrder_53 k_iconst_m1 ?_
      refine lv_goto (tgt := 61) S.1 S.2.1 dX5_keepOrder_54 (by decide) ?_
      exact J61 _ _ _ hf _ _ _ (lv_sub hl [0] rfl) hs
theorem metX5_keepOrder (l : Launch) (D : va_G) (cI : ClassId) (cB : ClassId) (o : Nat → Nat) (tx : Nat) (ad6 : Nat → Nat) (σ : zSt) (σ0 : zSt) (hf : fX5_keepOrder σ = some σ0) : Met l yX5_keepOrder (Cond.code yX5_keepOrder cX5_keepOrder 1 none :: WA) rmX5_keepOrder (oPc D cI cB o tx ad6 σ [.ref (o 0)]) ((oQv D cI cB o tx ad6 σ0)) 0 0 (oA cB o tx ad6) :=
  oMet (by decide) (Nat.le_of_ble_eq_true rfl) (fun p e s m args below meth c H locs ls S K hr hk hl hs => bdX5_keepOrder S K hr hk  _ _ hf hl hs)
set_option maxHeartbeats 4000000 in
set_option maxRecDepth 100000 in
theorem bdX5_startNumber {p : Program} {l : Launch} {e : Env} {s : State} {m : MethodId} {args : Array Value} {below : List Frame} {meth : Method} {c : Code} {H : Heap} {locs : List Loc} {ls : Array Slot} {D : va_G} {cI : ClassId} {cB : ClassId} {o : Nat → Nat} {tx : Nat} {ad6 : Nat → Nat} (S : CallFix p m c cX5_startNumber 2 s args WA RX5) (K : oK D cI cB ad6 (oA cB o tx ad6) s) (hr : meth.sig.returnType = none) (hk : meth.locks = false) (a0 : Int32) (σ : zSt) (σ0 : zSt) (hf : fX5_startNumber a0 σ = some σ0) (hl : lv_has ls 2 [(0, .ref (o 0)), (1, .ref (ad6 a0.toNatClampNeg))]) (hs : oS D cI cB o tx ad6 s σ H locs) : W p l e rmX5_startNumber s m args below meth c H locs 0 0 (MQ below (oQv D cI cB o tx ad6 σ0) args s 0 0 (oA cB o tx ad6)) (F0 m 0 ls []) := by
  unfold fX5_startNumber at hf
  refine lv_aload_n S.1 S.2.1 dX5_startNumber_0 rfl (lv_at hl 0 rfl) ?_
  refine lv_aload_n S.1 S.2.1 dX5_startNumber_1 rfl (lv_at hl 1 rfl) ?_
  refine opX5_27_0 S K hs hf dX5_startNumber_2 (fun σ1 H locs hs hf => ?_)
  refine lv_aload_n S.1 S.2.1 dX5_startNumber_5 rfl (lv_at hl 0 rfl) ?_
  refine lv_iconst S.1 S.2.1 dX5_startNumber_6 k_iconst_0 ?_
  refine opX5_74_0 S K hs hf dX5_startNumber_7 (fun σ2 H locs hs hf => ?_)
  refine lv_aload_n S.1 S.2.1 dX5_startNumber_10 rfl (lv_at hl 0 rfl) ?_
  refine lv_iconst S.1 S.2.1 dX5_startNumber_11 k_iconst_0 ?_
  refine opX5_77_0 S K hs hf dX5_startNumber_12 (fun σ3 H locs hs hf => ?_)
  exact orV S K hr hk hs hf dX5_startNumber_15
theorem metX5_startNumber (l : Launch) (D : va_G) (cI : ClassId) (cB : ClassId) (o : Nat → Nat) (tx : Nat) (ad6 : Nat → Nat) (a0 : Int32) (σ : zSt) (σ0 : zSt) (hf : fX5_startNumber a0 σ = some σ0) : Met l yX5_startNumber (Cond.code yX5_startNumber cX5_startNumber 2 none :: WA) rmX5_startNumber (oPc D cI cB o tx ad6 σ [.ref (o 0), .ref (ad6 a0.toNatClampNeg)]) ((oQv D cI cB o tx ad6 σ0)) 0 0 (oA cB o tx ad6) :=
  oMet (by decide) (Nat.le_of_ble_eq_true rfl) (fun p e s m args below meth c H locs ls S K hr hk hl hs => bdX5_startNumber S K hr hk _ _ _ hf hl hs)
set_option maxHeartbeats 4000000 in
set_option maxRecDepth 100000 in
theorem bdX5_takeKind {p : Program} {l : Launch} {e : Env} {s : State} {m : MethodId} {args : Array Value} {below : List Frame} {meth : Method} {c : Code} {H : Heap} {locs : List Loc} {ls : Array Slot} {D : va_G} {cI : ClassId} {cB : ClassId} {o : Nat → Nat} {tx : Nat} {ad6 : Nat → Nat} (S : CallFix p m c cX5_takeKind 2 s args WA RX5) (K : oK D cI cB ad6 (oA cB o tx ad6) s) (hr : meth.sig.returnType = (some .boolean)) (hk : meth.locks = false) (a0 : Int32) (σ : zSt) (r0 : Int32) (σ0 : zSt) (hf : fX5_takeKind a0 σ = some (r0, σ0)) (hl : lv_has ls 2 [(0, .ref (o 0)), (1, .int a0)]) (hs : oS D cI cB o tx ad6 s σ H locs) : W p l e rmX5_takeKind s m args below meth c H locs 0 0 (MQ below (oQi D cI cB o tx ad6 r0 σ0) args s 0 0 (oA cB o tx ad6)) (F0 m 0 ls []) := by
  obtain ⟨res, hres⟩ : ∃ q, q = (r0, σ0) := ⟨_, rfl⟩
  rw [← hres] at hf
  have J44 : ∀ (w0 : Int32) (σ : zSt), fX5_takeKind_j44 w0 σ = some res → oGo p l e rmX5_takeKind s m args below meth c (MQ below (oQi D cI cB o tx ad6 r0 σ0) args s 0 0 (oA cB o tx ad6)) D cI cB o tx ad6 2 σ [(0, .ref (o 0))] 44 [.int w0, .ref (o 0)] := by
    intro w0 σ hf H locs ls hl hs
    unfold fX5_takeKind_j44 at hf
    refine opX5_67_0 S K hs hf dX5_takeKind_44 (fun σ1 H locs hs hf => ?_)
    refine lv_aload_n S.1 S.2.1 dX5_takeKind_47 rfl (lv_at hl 0 rfl) ?_
    refine ogsX5_42 S K hs dX5_takeKind_48 ?_
    refine opX5_27_0 S K hs hf dX5_takeKind_51 (fun σ2 H locs hs hf => ?_)
    refine lv_iconst S.1 S.2.1 dX5_takeKind_54 k_iconst_1 ?_
    exact orZ S K hr hk hs (hf.trans (congrArg some hres)) dX5_takeKind_55
  have J32 : ∀ (y1 : Int32) (σ : zSt), fX5_takeKind_j32 y1 σ = some res → oGo p l e rmX5_takeKind s m args below meth c (MQ below (oQi D cI cB o tx ad6 r0 σ0) args s 0 0 (oA cB o tx ad6)) D cI cB o tx ad6 2 σ [(0, .ref (o 0)), (1, .int y1)] 32 [] := by
    intro y1 σ hf H locs ls hl hs
    unfold fX5_takeKind_j32 at hf
    refine lv_aload_n S.1 S.2.1 dX5_takeKind_32 rfl (lv_at hl 0 rfl) ?_
    refine lv_iload_n S.1 S.2.1 dX5_takeKind_33 rfl (lv_at hl 1 rfl) ?_
    refine lv_bipush S.1 S.2.1 dX5_takeKind_34 k_bipush_119 ?_
    refine z_icmp_ne (tgt := 43) S hf dX5_takeKind_36 (by decide) (fun hf => ?_) (fun hf => ?_)
    · refine lv_iconst S.1 S.2.1 dX5_takeKind_43 k_iconst_0 ?_
      exact J44 _ _ hf _ _ _ (lv_sub hl [0] rfl) hs
    · refine lv_iconst S.1 S.2.1 dX5_takeKind_39 k_iconst_1 ?_
      refine lv_goto (tgt := 44) S.1 S.2.1 dX5_takeKind_40 (by decide) ?_
      exact J44 _ _ hf _ _ _ (lv_sub hl [0] rfl) hs
  unfold fX5_takeKind at hf
  refine lv_iload_n S.1 S.2.1 dX5_takeKind_0 rfl (lv_at hl 1 rfl) ?_
  refine lv_bipush S.1 S.2.1 dX5_takeKind_1 k_bipush_116 ?_
  refine z_icmp_ne (tgt := 20) S hf dX5_takeKind_3 (by decide) (fun hf => ?_) (fun hf => ?_)
  · refine lv_iload_n S.1 S.2.1 dX5_takeKind_20 rfl (lv_at hl 1 rfl) ?_
    refine lv_bipush S.1 S.2.1 dX5_takeKind_21 k_bipush_114 ?_
    refine z_icmp_eq (tgt := 32) S hf dX5_takeKind_23 (by decide) (fun hf => ?_) (fun hf => ?_)
    · exact J32 _ _ hf _ _ _ (lv_sub hl [0, 1] rfl) hs
    · refine lv_iload_n S.1 S.2.1 dX5_takeKind_26 rfl (lv_at hl 1 rfl) ?_
      refine lv_bipush S.1 S.2.1 dX5_takeKind_27 k_bipush_119 ?_
      refine z_icmp_ne (tgt := 56) S hf dX5_takeKind_29 (by decide) (fun hf => ?_) (fun hf => ?_)
      · refine lv_iload_n S.1 S.2.1 dX5_takeKind_56 rfl (lv_at hl 1 rfl) ?_
        refine lv_iconst S.1 S.2.1 dX5_takeKind_57 k_iconst_m1 ?_
        refine z_icmp_ne (tgt := 65) S hf dX5_takeKind_58 (by decide) (fun hf => ?_) (fun hf => ?_)
        · refine lv_iconst S.1 S.2.1 dX5_takeKind_65 k_iconst_0 ?_
          exact orZ S K hr hk hs (hf.trans (congrArg some hres)) dX5_takeKind_66
        · refine lv_iconst S.1 S.2.1 dX5_takeKind_61 k_iconst_1 ?_
          refine lv_goto (tgt := 66) S.1 S.2.1 dX5_takeKind_62 (by decide) ?_
          exact orZ S K hr hk hs (hf.trans (congrArg some hres)) dX5_takeKind_66
      · exact J32 _ _ hf _ _ _ (lv_sub hl [0, 1] rfl) hs
  · refine lv_aload_n S.1 S.2.1 dX5_takeKind_6 rfl (lv_at hl 0 rfl) ?_
    refine lv_iconst S.1 S.2.1 dX5_takeKind_7 k_iconst_m1 ?_
    refine opX5_57_0 S K hs hf dX5_takeKind_8 (fun σ3 H locs hs hf => ?_)
    refine lv_aload_n S.1 S.2.1 dX5_takeKind_11 rfl (lv_at hl 0 rfl) ?_
    refine ogsX5_60 S K hs dX5_takeKind_12 ?_
    refine ocU (oV0 K hs) S K hs hl.1 hf (fun _ hX => metX5_startNumber _ _ _ _ _ _ _ _ _ _ hX) (cwX5_63 S.2.2.2.2 ⟨Nat.le_of_ble_eq_true rfl, Nat.le_of_ble_eq_true rfl⟩) rfl dX5_takeKind_15 rfl (Nat.le_of_ble_eq_true rfl) ⟨Nat.le_refl _, Nat.le_refl _⟩ (fun σ4 H locs hs hf => ?_)
    refine lv_iconst S.1 S.2.1 dX5_takeKind_18 k_iconst_1 ?_
    exact orZ S K hr hk hs (hf.trans (congrArg some hres)) dX5_takeKind_19
theorem metX5_takeKind (l : Launch) (D : va_G) (cI : ClassId) (cB : ClassId) (o : Nat → Nat) (tx : Nat) (ad6 : Nat → Nat) (a0 : Int32) (σ : zSt) (r0 : Int32) (σ0 : zSt) (hf : fX5_takeKind a0 σ = some (r0, σ0)) : Met l yX5_takeKind (Cond.code yX5_takeKind cX5_takeKind 2 (some .boolean) :: WA) rmX5_takeKind (oPc D cI cB o tx ad6 σ [.ref (o 0), .int a0]) ((oQi D cI cB o tx ad6 r0 σ0)) 0 0 (oA cB o tx ad6) :=
  oMet (by decide) (Nat.le_of_ble_eq_true rfl) (fun p e s m args below meth c H locs ls S K hr hk hl hs => bdX5_takeKind S K hr hk _ _ _ _ hf hl hs)
set_option maxHeartbeats 4000000 in
set_option maxRecDepth 100000 in
theorem bdX5_takeCache {p : Program} {l : Launch} {e : Env} {s : State} {m : MethodId} {args : Array Value} {below : List Frame} {meth : Method} {c : Code} {H : Heap} {locs : List Loc} {ls : Array Slot} {D : va_G} {cI : ClassId} {cB : ClassId} {o : Nat → Nat} {tx : Nat} {ad6 : Nat → Nat} (S : CallFix p m c cX5_takeCache 2 s args WA RX5) (K : oK D cI cB ad6 (oA cB o tx ad6) s) (hr : meth.sig.returnType = (some .boolean)) (hk : meth.locks = false) (a0 : Int32) (σ : zSt) (r0 : Int32) (σ0 : zSt) (hf : fX5_takeCache a0 σ = some (r0, σ0)) (hl : lv_has ls 2 [(0, .ref (o 0)), (1, .int a0)]) (hs : oS D cI cB o tx ad6 s σ H locs) : W p l e rmX5_takeCache s m args below meth c H locs 0 0 (MQ below (oQi D cI cB o tx ad6 r0 σ0) args s 0 0 (oA cB o tx ad6)) (F0 m 0 ls []) := by
  unfold fX5_takeCache at hf
  refine lv_iload_n S.1 S.2.1 dX5_takeCache_0 rfl (lv_at hl 1 rfl) ?_
  refine lv_bipush S.1 S.2.1 dX5_takeCache_1 k_bipush_48 ?_
  refine z_icmp_lt (tgt := 12) S hf dX5_takeCache_3 (by decide) (fun hf => ?_) (fun hf => ?_)
  · refine lv_iconst S.1 S.2.1 dX5_takeCache_12 k_iconst_0 ?_
    exact orZ S K hr hk hs hf dX5_takeCache_13
  · refine lv_iload_n S.1 S.2.1 dX5_takeCache_6 rfl (lv_at hl 1 rfl) ?_
    refine lv_bipush S.1 S.2.1 dX5_takeCache_7 k_bipush_53 ?_
    refine z_icmp_le (tgt := 14) S hf dX5_takeCache_9 (by decide) (fun hf => ?_) (fun hf => ?_)
    · refine lv_aload_n S.1 S.2.1 dX5_takeCache_14 rfl (lv_at hl 0 rfl) ?_
      refine lv_iload_n S.1 S.2.1 dX5_takeCache_15 rfl (lv_at hl 1 rfl) ?_
      refine lv_bipush S.1 S.2.1 dX5_takeCache_16 k_bipush_48 ?_
      refine lv_isub S.1 S.2.1 dX5_takeCache_18 ?_
      refine opX5_57_0 S K hs hf dX5_takeCache_19 (fun σ1 H locs hs hf => ?_)
      refine lv_aload_n S.1 S.2.1 dX5_takeCache_22 rfl (lv_at hl 0 rfl) ?_
      refine ogsX5_48 S K hs dX5_takeCache_23 ?_
      refine opX5_27_0 S K hs hf dX5_takeCache_26 (fun σ2 H locs hs hf => ?_)
      refine lv_iconst S.1 S.2.1 dX5_takeCache_29 k_iconst_1 ?_
      exact orZ S K hr hk hs hf dX5_takeCache_30
    · refine lv_iconst S.1 S.2.1 dX5_takeCache_12 k_iconst_0 ?_
      exact orZ S K hr hk hs hf dX5_takeCache_13
theorem metX5_takeCache (l : Launch) (D : va_G) (cI : ClassId) (cB : ClassId) (o : Nat → Nat) (tx : Nat) (ad6 : Nat → Nat) (a0 : Int32) (σ : zSt) (r0 : Int32) (σ0 : zSt) (hf : fX5_takeCache a0 σ = some (r0, σ0)) : Met l yX5_takeCache (Cond.code yX5_takeCache cX5_takeCache 2 (some .boolean) :: WA) rmX5_takeCache (oPc D cI cB o tx ad6 σ [.ref (o 0), .int a0]) ((oQi D cI cB o tx ad6 r0 σ0)) 0 0 (oA cB o tx ad6) :=
  oMet (by decide) (Nat.le_of_ble_eq_true rfl) (fun p e s m args below meth c H locs ls S K hr hk hl hs => bdX5_takeCache S K hr hk _ _ _ _ hf hl hs)
set_option maxHeartbeats 4000000 in
set_option maxRecDepth 100000 in
theorem bdX5_takeColon {p : Program} {l : Launch} {e : Env} {s : State} {m : MethodId} {args : Array Value} {below : List Frame} {meth : Method} {c : Code} {H : Heap} {locs : List Loc} {ls : Array Slot} {D : va_G} {cI : ClassId} {cB : ClassId} {o : Nat → Nat} {tx : Nat} {ad6 : Nat → Nat} (S : CallFix p m c cX5_takeColon 2 s args WA RX5) (K : oK D cI cB ad6 (oA cB o tx ad6) s) (hr : meth.sig.returnType = (some .boolean)) (hk : meth.locks = false) (a0 : Int32) (σ : zSt) (r0 : Int32) (σ0 : zSt) (hf : fX5_takeColon a0 σ = some (r0, σ0)) (hl : lv_has ls 2 [(0, .ref (o 0)), (1, .int a0)]) (hs : oS D cI cB o tx ad6 s σ H locs) : W p l e rmX5_takeColon s m args below meth c H locs 0 0 (MQ below (oQi D cI cB o tx ad6 r0 σ0) args s 0 0 (oA cB o tx ad6)) (F0 m 0 ls []) := by
  unfold fX5_takeColon at hf
  refine lv_iload_n S.1 S.2.1 dX5_takeColon_0 rfl (lv_at hl 1 rfl) ?_
  refine lv_bipush S.1 S.2.1 dX5_takeColon_1 k_bipush_58 ?_
  refine z_icmp_eq (tgt := 8) S hf dX5_takeColon_3 (by decide) (fun hf => ?_) (fun hf => ?_)
  · refine lv_aload_n S.1 S.2.1 dX5_takeColon_8 rfl (lv_at hl 0 rfl) ?_
    refine ogsX5_71 S K hs dX5_takeColon_9 ?_
    refine ocU (oV0 K hs) S K hs hl.1 hf (fun _ hX => metX5_startNumber _ _ _ _ _ _ _ _ _ _ hX) (cwX5_63 S.2.2.2.2 ⟨Nat.le_of_ble_eq_true rfl, Nat.le_of_ble_eq_true rfl⟩) rfl dX5_takeColon_12 rfl (Nat.le_of_ble_eq_true rfl) ⟨Nat.le_refl _, Nat.le_refl _⟩ (fun σ1 H locs hs hf => ?_)
    refine lv_iconst S.1 S.2.1 dX5_takeColon_15 k_iconst_1 ?_
    exact orZ S K hr hk hs hf dX5_takeColon_16
  · refine lv_iconst S.1 S.2.1 dX5_takeColon_6 k_iconst_0 ?_
    exact orZ S K hr hk hs hf dX5_takeColon_7
theorem metX5_takeColon (l : Launch) (D : va_G) (cI : ClassId) (cB : ClassId) (o : Nat → Nat) (tx : Nat) (ad6 : Nat → Nat) (a0 : Int32) (σ : zSt) (r0 : Int32) (σ0 : zSt) (hf : fX5_takeColon a0 σ = some (r0, σ0)) : Met l yX5_takeColon (Cond.code yX5_takeColon cX5_takeColon 2 (some .boolean) :: WA) rmX5_takeColon (oPc D cI cB o tx ad6 σ [.ref (o 0), .int a0]) ((oQi D cI cB o tx ad6 r0 σ0)) 0 0 (oA cB o tx ad6) :=
  oMet (by decide) (Nat.le_of_ble_eq_true rfl) (fun p e s m args below meth c H locs ls S K hr hk hl hs => bdX5_takeColon S K hr hk _ _ _ _ hf hl hs)
set_option maxHeartbeats 4000000 in
set_option maxRecDepth 100000 in
theorem bdX5_takeDigit {p : Program} {l : Launch} {e : Env} {s : State} {m : MethodId} {args : Array Value} {below : List Frame} {meth : Method} {c : Code} {H : Heap} {locs : List Loc} {ls : Array Slot} {D : va_G} {cI : ClassId} {cB : ClassId} {o : Nat → Nat} {tx : Nat} {ad6 : Nat → Nat} (S : CallFix p m c cX5_takeDigit 3 s args WA RX5) (K : oK D cI cB ad6 (oA cB o tx ad6) s) (hr : meth.sig.returnType = (some .int)) (hk : meth.locks = false) (a0 : Int32) (a1 : Int32) (σ : zSt) (r0 : Int32) (σ0 : zSt) (hf : fX5_takeDigit a0 a1 σ = some (r0, σ0)) (hl : lv_has ls 3 [(0, .ref (o 0)), (1, .int a0), (2, .int a1)]) (hs : oS D cI cB o tx ad6 s σ H locs) : W p l e rmX5_takeDigit s m args below meth c H locs 0 0 (MQ below (oQi D cI cB o tx ad6 r0 σ0) args s 0 0 (oA cB o tx ad6)) (F0 m 0 ls []) := by
  obtain ⟨res, hres⟩ : ∃ q, q = (r0, σ0) := ⟨_, rfl⟩
  rw [← hres] at hf
  have J28 : ∀ (y1 : Int32) (σ : zSt), fX5_takeDigit_j28 y1 σ = some res → oGo p l e rmX5_takeDigit s m args below meth c (MQ below (oQi D cI cB o tx ad6 r0 σ0) args s 0 0 (oA cB o tx ad6)) D cI cB o tx ad6 3 σ [(0, .ref (o 0)), (1, .int y1)] 28 [] := by
    intro y1 σ hf H locs ls hl hs
    unfold fX5_takeDigit_j28 at hf
    refine lv_aload_n S.1 S.2.1 dX5_takeDigit_28 rfl (lv_at hl 0 rfl) ?_
    refine lv_aload_n S.1 S.2.1 dX5_takeDigit_29 rfl (lv_at hl 0 rfl) ?_
    refine ogX5_74_0 S K hs dX5_takeDigit_30 ?_
    refine lv_bipush S.1 S.2.1 dX5_takeDigit_33 k_bipush_10 ?_
    refine lv_imul S.1 S.2.1 dX5_takeDigit_35 ?_
    refine lv_iload_n S.1 S.2.1 dX5_takeDigit_36 rfl (lv_at hl 1 rfl) ?_
    refine lv_iadd S.1 S.2.1 dX5_takeDigit_37 ?_
    refine opX5_74_0 S K hs hf dX5_takeDigit_38 (fun σ2 H locs hs hf => ?_)
    refine lv_aload_n S.1 S.2.1 dX5_takeDigit_41 rfl (lv_at hl 0 rfl) ?_
    refine lv_dup S.1 S.2.1 dX5_takeDigit_42 rfl ?_
    refine ogX5_77_0 S K hs dX5_takeDigit_43 ?_
    refine lv_iconst S.1 S.2.1 dX5_takeDigit_46 k_iconst_1 ?_
    refine lv_iadd S.1 S.2.1 dX5_takeDigit_47 ?_
    refine opX5_77_0 S K hs hf dX5_takeDigit_48 (fun σ3 H locs hs hf => ?_)
    refine lv_iconst S.1 S.2.1 dX5_takeDigit_51 k_iconst_m1 ?_
    exact orI S K hr hk hs (hf.trans (congrArg some hres)) dX5_takeDigit_52
  unfold fX5_takeDigit at hf
  refine lv_aload_n S.1 S.2.1 dX5_takeDigit_0 rfl (lv_at hl 0 rfl) ?_
  refine ogX5_77_0 S K hs dX5_takeDigit_1 ?_
  refine lv_aload_n S.1 S.2.1 dX5_takeDigit_4 rfl (lv_at hl 0 rfl) ?_
  refine ogX5_27_0 S K hs dX5_takeDigit_5 ?_
  refine ogeX5_101 S K hs hf dX5_takeDigit_8 (fun x1 hf => ?_)
  refine z_icmp_ne (tgt := 16) S hf dX5_takeDigit_11 (by decide) (fun hf => ?_) (fun hf => ?_)
  · refine lv_aload_n S.1 S.2.1 dX5_takeDigit_16 rfl (lv_at hl 0 rfl) ?_
    refine ogX5_77_0 S K hs dX5_takeDigit_17 ?_
    refine z_if_ne (tgt := 28) S hf dX5_takeDigit_20 (by decide) (fun hf => ?_) (fun hf => ?_)
    · exact J28 _ _ hf _ _ _ (lv_sub hl [0, 1] rfl) hs
    · refine lv_aload_n S.1 S.2.1 dX5_takeDigit_23 rfl (lv_at hl 0 rfl) ?_
      refine lv_iload_n S.1 S.2.1 dX5_takeDigit_24 rfl (lv_at hl 2 rfl) ?_
      refine opX5_89_0 S K hs hf dX5_takeDigit_25 (fun σ4 H locs hs hf => ?_)
      exact J28 _ _ hf _ _ _ (lv_sub hl [0, 1] rfl) hs
  · refine lv_iload_n S.1 S.2.1 dX5_takeDigit_14 rfl (lv_at hl 2 rfl) ?_
    exact orI S K hr hk hs (hf.trans (congrArg some hres)) dX5_takeDigit_15
theorem metX5_takeDigit (l : Launch) (D : va_G) (cI : ClassId) (cB : ClassId) (o : Nat → Nat) (tx : Nat) (ad6 : Nat → Nat) (a0 : Int32) (a1 : Int32) (σ : zSt) (r0 : Int32) (σ0 : zSt) (hf : fX5_takeDigit a0 a1 σ = some (r0, σ0)) : Met l yX5_takeDigit (Cond.code yX5_takeDigit cX5_takeDigit 3 (some .int) :: WA) rmX5_takeDigit (oPc D cI cB o tx ad6 σ [.ref (o 0), .int a0, .int a1]) ((oQi D cI cB o tx ad6 r0 σ0)) 0 0 (oA cB o tx ad6) :=
  oMet (by decide) (Nat.le_of_ble_eq_true rfl) (fun p e s m args below meth c H locs ls S K hr hk hl hs => bdX5_takeDigit S K hr hk _ _ _ _ _ hf hl hs)
set_option maxHeartbeats 4000000 in
set_option maxRecDepth 100000 in
theorem bdX5_takeOfNumber {p : Program} {l : Launch} {e : Env} {s : State} {m : MethodId} {args : Array Value} {below : List Frame} {meth : Method} {c : Code} {H : Heap} {locs : List Loc} {ls : Array Slot} {D : va_G} {cI : ClassId} {cB : ClassId} {o : Nat → Nat} {tx : Nat} {ad6 : Nat → Nat} (S : CallFix p m c cX5_takeOfNumber 4 s args WA RX5) (K : oK D cI cB ad6 (oA cB o tx ad6) s) (hr : meth.sig.returnType = (some .int)) (hk : meth.locks = false) (a0 : Int32) (a1 : Int32) (σ : zSt) (r0 : Int32) (σ0 : zSt) (hf : fX5_takeOfNumber a0 a1 σ = some (r0, σ0)) (hl : lv_has ls 4 [(0, .ref (o 0)), (1, .int a0), (2, .int a1)]) (hs : oS D cI cB o tx ad6 s σ H locs) : W p l e rmX5_takeOfNumber s m args below meth c H locs 0 0 (MQ below (oQi D cI cB o tx ad6 r0 σ0) args s 0 0 (oA cB o tx ad6)) (F0 m 0 ls []) := by
  obtain ⟨res, hres⟩ : ∃ q, q = (r0, σ0) := ⟨_, rfl⟩
  rw [← hres] at hf
  have J59 : ∀ (σ : zSt), fX5_takeOfNumber_j59 σ = some res → oGo p l e rmX5_takeOfNumber s m args below meth c (MQ below (oQi D cI cB o tx ad6 r0 σ0) args s 0 0 (oA cB o tx ad6)) D cI cB o tx ad6 4 σ [(0, .ref (o 0))] 59 [] := by
    intro σ hf H locs ls hl hs
    unfold fX5_takeOfNumber_j59 at hf
    refine lv_aload_n S.1 S.2.1 dX5_takeOfNumber_59 rfl (lv_at hl 0 rfl) ?_
    refine ogX5_89_0 S K hs dX5_takeOfNumber_60 ?_
    exact orI S K hr hk hs (hf.trans (congrArg some hres)) dX5_takeOfNumber_63
  have J122 : ∀ (y3 : Int32) (σ : zSt), fX5_takeOfNumber_j122 y3 σ = some res → oGo p l e rmX5_takeOfNumber s m args below meth c (MQ below (oQi D cI cB o tx ad6 r0 σ0) args s 0 0 (oA cB o tx ad6)) D cI cB o tx ad6 4 σ [(0, .ref (o 0)), (3, .int y3)] 122 [] := by
    intro y3 σ hf H locs ls hl hs
    unfold fX5_takeOfNumber_j122 at hf
    refine lv_iload_n S.1 S.2.1 dX5_takeOfNumber_122 rfl (lv_at hl 1 rfl) ?_
    refine z_if_eq (tgt := 136) S hf dX5_takeOfNumber_123 (by decide) (fun hf => ?_) (fun hf => ?_)
    · refine lv_aload_n S.1 S.2.1 dX5_takeOfNumber_136 rfl (lv_at hl 0 rfl) ?_
      refine ocU (oV0 K hs) S K hs hl.1 hf (fun _ hX => metX5_keepOrder _ _ _ _ _ _ _ _ _ hX) (cwX5_98 S.2.2.2.2 ⟨Nat.le_of_ble_eq_true rfl, Nat.le_of_ble_eq_true rfl⟩) rfl dX5_takeOfNumber_137 rfl (Nat.le_of_ble_eq_true rfl) ⟨Nat.le_refl _, Nat.le_refl _⟩ (fun σ3 H locs hs hf => ?_)
      refine lv_iconst S.1 S.2.1 dX5_takeOfNumber_140 k_iconst_m1 ?_
      exact orI S K hr hk hs (hf.trans (congrArg some hres)) dX5_takeOfNumber_141
    · refine lv_aload_n S.1 S.2.1 dX5_takeOfNumber_126 rfl (lv_at hl 0 rfl) ?_
      refine ogsX5_95 S K hs dX5_takeOfNumber_127 ?_
      refine ocU (oV0 K hs) S K hs hl.1 hf (fun _ hX => metX5_startNumber _ _ _ _ _ _ _ _ _ _ hX) (cwX5_63 S.2.2.2.2 ⟨Nat.le_of_ble_eq_true rfl, Nat.le_of_ble_eq_true rfl⟩) rfl dX5_takeOfNumber_130 rfl (Nat.le_of_ble_eq_true rfl) ⟨Nat.le_refl _, Nat.le_refl _⟩ (fun σ4 H locs hs hf => ?_)
      refine lv_goto (tgt := 140) S.1 S.2.1 dX5_takeOfNumber_133 (by decide) ?_
      refine lv_iconst S.1 S.2.1 dX5_takeOfNumber_140 k_iconst_m1 ?_
      exact orI S K hr hk hs (hf.trans (congrArg some hres)) dX5_takeOfNumber_141
  have J99 : ∀ (y2 : Int32) (y3 : Int32) (w0 : Int32) (w1 : Int32) (σ : zSt), fX5_takeOfNumber_j99 y2 y3 w0 w1 σ = some res → oGo p l e rmX5_takeOfNumber s m args below meth c (MQ below (oQi D cI cB o tx ad6 r0 σ0) args s 0 0 (oA cB o tx ad6)) D cI cB o tx ad6 4 σ [(0, .ref (o 0)), (2, .int y2), (3, .int y3)] 99 [.int w0, .int w1] := by
    intro y2 y3 w0 w1 σ hf H locs ls hl hs
    unfold fX5_takeOfNumber_j99 at hf
    refine z_icmp_eq (tgt := 104) S hf dX5_takeOfNumber_99 (by decide) (fun hf => ?_) (fun hf => ?_)
    · refine lv_aload_n S.1 S.2.1 dX5_takeOfNumber_104 rfl (lv_at hl 0 rfl) ?_
      refine ogX5_27_0 S K hs dX5_takeOfNumber_105 ?_
      refine ogsX5_71 S K hs dX5_takeOfNumber_108 ?_
      refine oac_ne (tgt := 122) S K hs hf dX5_takeOfNumber_111 (by decide) (fun hf => ?_) (fun hf => ?_)
      · exact J122 _ _ hf _ _ _ (lv_sub hl [0, 2] rfl) hs
      · refine lv_aload_n S.1 S.2.1 dX5_takeOfNumber_114 rfl (lv_at hl 0 rfl) ?_
        refine lv_aload_n S.1 S.2.1 dX5_takeOfNumber_115 rfl (lv_at hl 0 rfl) ?_
        refine ogX5_74_0 S K hs dX5_takeOfNumber_116 ?_
        refine opX5_92_0 S K hs hf dX5_takeOfNumber_119 (fun σ5 H locs hs hf => ?_)
        exact J122 _ _ hf _ _ _ (lv_sub hl [0, 2] rfl) hs
    · refine lv_iload_n S.1 S.2.1 dX5_takeOfNumber_102 rfl (lv_at hl 1 rfl) ?_
      exact orI S K hr hk hs (hf.trans (congrArg some hres)) dX5_takeOfNumber_103
  have J86 : ∀ (y1 : Int32) (y2 : Int32) (w0 : Int32) (σ : zSt), fX5_takeOfNumber_j86 y1 y2 w0 σ = some res → oGo p l e rmX5_takeOfNumber s m args below meth c (MQ below (oQi D cI cB o tx ad6 r0 σ0) args s 0 0 (oA cB o tx ad6)) D cI cB o tx ad6 4 σ [(0, .ref (o 0)), (1, .int y1), (2, .int y2)] 86 [.int w0] := by
    intro y1 y2 w0 σ hf H locs ls hl hs
    unfold fX5_takeOfNumber_j86 at hf
    refine lv_istore_n (lv' := [(3, .int w0), (0, .ref (o 0)), (1, .int y1), (2, .int y2)]) S.1 S.2.1 dX5_takeOfNumber_86 rfl hl (by decide) rfl (fun ls hl => ?_)
    refine lv_iload_n S.1 S.2.1 dX5_takeOfNumber_87 rfl (lv_at hl 2 rfl) ?_
    refine lv_iload_n S.1 S.2.1 dX5_takeOfNumber_88 rfl (lv_at hl 0 rfl) ?_
    refine z_if_eq (tgt := 97) S hf dX5_takeOfNumber_89 (by decide) (fun hf => ?_) (fun hf => ?_)
    · refine lv_bipush S.1 S.2.1 dX5_takeOfNumber_97 k_bipush_59 ?_
      exact J99 _ _ _ _ _ hf _ _ _ (lv_sub hl [1, 3, 0] rfl) hs
    · refine lv_bipush S.1 S.2.1 dX5_takeOfNumber_92 k_bipush_61 ?_
      refine lv_goto (tgt := 99) S.1 S.2.1 dX5_takeOfNumber_94 (by decide) ?_
      exact J99 _ _ _ _ _ hf _ _ _ (lv_sub hl [1, 3, 0] rfl) hs
  have J85 : ∀ (y1 : Int32) (y2 : Int32) (σ : zSt), fX5_takeOfNumber_j85 y1 y2 σ = some res → oGo p l e rmX5_takeOfNumber s m args below meth c (MQ below (oQi D cI cB o tx ad6 r0 σ0) args s 0 0 (oA cB o tx ad6)) D cI cB o tx ad6 4 σ [(0, .ref (o 0)), (1, .int y1), (2, .int y2)] 85 [] := by
    intro y1 y2 σ hf H locs ls hl hs
    unfold fX5_takeOfNumber_j85 at hf
    refine lv_iconst S.1 S.2.1 dX5_takeOfNumber_85 k_iconst_0 ?_
    exact J86 _ _ _ _ hf _ _ _ (lv_sub hl [0, 1, 2] rfl) hs
  have J22 : ∀ (y1 : Int32) (y2 : Int32) (σ : zSt), fX5_takeOfNumber_j22 y1 y2 σ = some res → oGo p l e rmX5_takeOfNumber s m args below meth c (MQ below (oQi D cI cB o tx ad6 r0 σ0) args s 0 0 (oA cB o tx ad6)) D cI cB o tx ad6 4 σ [(0, .ref (o 0)), (1, .int y1), (2, .int y2)] 22 [] := by
    intro y1 y2 σ hf H locs ls hl hs
    unfold fX5_takeOfNumber_j22 at hf
    refine lv_aload_n S.1 S.2.1 dX5_takeOfNumber_22 rfl (lv_at hl 0 rfl) ?_
    refine ogX5_77_0 S K hs dX5_takeOfNumber_23 ?_
    refine z_if_ne (tgt := 31) S hf dX5_takeOfNumber_26 (by decide) (fun hf => ?_) (fun hf => ?_)
    · refine lv_aload_n S.1 S.2.1 dX5_takeOfNumber_31 rfl (lv_at hl 0 rfl) ?_
      refine ogX5_74_0 S K hs dX5_takeOfNumber_32 ?_
      refine lv_aload_n S.1 S.2.1 dX5_takeOfNumber_35 rfl (lv_at hl 0 rfl) ?_
      refine ogX5_27_0 S K hs dX5_takeOfNumber_36 ?_
      refine ogeX5_83 S K hs hf dX5_takeOfNumber_39 (fun x1 hf => ?_)
      refine z_icmp_lt (tgt := 59) S hf dX5_takeOfNumber_42 (by decide) (fun hf => ?_) (fun hf => ?_)
      · exact J59 _ hf _ _ _ (lv_sub hl [0] rfl) hs
      · refine lv_aload_n S.1 S.2.1 dX5_takeOfNumber_45 rfl (lv_at hl 0 rfl) ?_
        refine ogX5_74_0 S K hs dX5_takeOfNumber_46 ?_
        refine lv_aload_n S.1 S.2.1 dX5_takeOfNumber_49 rfl (lv_at hl 0 rfl) ?_
        refine ogX5_27_0 S K hs dX5_takeOfNumber_50 ?_
        refine ogeX5_86 S K hs hf dX5_takeOfNumber_53 (fun x2 hf => ?_)
        refine z_icmp_le (tgt := 64) S hf dX5_takeOfNumber_56 (by decide) (fun hf => ?_) (fun hf => ?_)
        · refine lv_aload_n S.1 S.2.1 dX5_takeOfNumber_64 rfl (lv_at hl 0 rfl) ?_
          refine ogX5_67_0 S K hs dX5_takeOfNumber_65 ?_
          refine z_if_eq (tgt := 85) S hf dX5_takeOfNumber_68 (by decide) (fun hf => ?_) (fun hf => ?_)
          · exact J85 _ _ _ hf _ _ _ (lv_sub hl [0, 1, 2] rfl) hs
          · refine lv_aload_n S.1 S.2.1 dX5_takeOfNumber_71 rfl (lv_at hl 0 rfl) ?_
            refine ogX5_27_0 S K hs dX5_takeOfNumber_72 ?_
            refine ogsX5_71 S K hs dX5_takeOfNumber_75 ?_
            refine oac_ne (tgt := 85) S K hs hf dX5_takeOfNumber_78 (by decide) (fun hf => ?_) (fun hf => ?_)
            · exact J85 _ _ _ hf _ _ _ (lv_sub hl [0, 1, 2] rfl) hs
            · refine lv_iconst S.1 S.2.1 dX5_takeOfNumber_81 k_iconst_1 ?_
              refine lv_goto (tgt := 86) S.1 S.2.1 dX5_takeOfNumber_82 (by decide) ?_
              exact J86 _ _ _ _ hf _ _ _ (lv_sub hl [0, 1, 2] rfl) hs
        · exact J59 _ hf _ _ _ (lv_sub hl [0] rfl) hs
    · refine lv_iload_n S.1 S.2.1 dX5_takeOfNumber_29 rfl (lv_at hl 2 rfl) ?_
      exact orI S K hr hk hs (hf.trans (congrArg some hres)) dX5_takeOfNumber_30
  unfold fX5_takeOfNumber at hf
  refine lv_iload_n S.1 S.2.1 dX5_takeOfNumber_0 rfl (lv_at hl 1 rfl) ?_
  refine lv_bipush S.1 S.2.1 dX5_takeOfNumber_1 k_bipush_48 ?_
  refine z_icmp_lt (tgt := 22) S hf dX5_takeOfNumber_3 (by decide) (fun hf => ?_) (fun hf => ?_)
  · exact J22 _ _ _ hf _ _ _ (lv_sub hl [0, 1, 2] rfl) hs
  · refine lv_iload_n S.1 S.2.1 dX5_takeOfNumber_6 rfl (lv_at hl 1 rfl) ?_
    refine lv_bipush S.1 S.2.1 dX5_takeOfNumber_7 k_bipush_57 ?_
    refine z_icmp_gt (tgt := 22) S hf dX5_takeOfNumber_9 (by decide) (fun hf => ?_) (fun hf => ?_)
    · exact J22 _ _ _ hf _ _ _ (lv_sub hl [0, 1, 2] rfl) hs
    · refine lv_aload_n S.1 S.2.1 dX5_takeOfNumber_12 rfl (lv_at hl 0 rfl) ?_
      refine lv_iload_n S.1 S.2.1 dX5_takeOfNumber_13 rfl (lv_at hl 1 rfl) ?_
      refine lv_bipush S.1 S.2.1 dX5_takeOfNumber_14 k_bipush_48 ?_
      refine lv_isub S.1 S.2.1 dX5_takeOfNumber_16 ?_
      refine lv_iload_n S.1 S.2.1 dX5_takeOfNumber_17 rfl (lv_at hl 2 rfl) ?_
      refine ocV (oV0 K hs) S K hs hl.1 hf (fun _ _ hX => metX5_takeDigit _ _ _ _ _ _ _ _ _ _ _ _ hX) (cwX5_80 S.2.2.2.2 ⟨Nat.le_of_ble_eq_true rfl, Nat.le_of_ble_eq_true rfl⟩) rfl dX5_takeOfNumber_18 rfl (Nat.le_of_ble_eq_true rfl) ⟨Nat.le_refl _, Nat.le_refl _⟩ (fun x6 σ7 H locs hs hf => ?_)
      exact orI S K hr hk hs (hf.trans (congrArg some hres)) dX5_takeOfNumber_21
theorem metX5_takeOfNumber (l : Launch) (D : va_G) (cI : ClassId) (cB : ClassId) (o : Nat → Nat) (tx : Nat) (ad6 : Nat → Nat) (a0 : Int32) (a1 : Int32) (σ : zSt) (r0 : Int32) (σ0 : zSt) (hf : fX5_takeOfNumber a0 a1 σ = some (r0, σ0)) : Met l yX5_takeOfNumber (Cond.code yX5_takeOfNumber cX5_takeOfNumber 4 (some .int) :: WA) rmX5_takeOfNumber (oPc D cI cB o tx ad6 σ [.ref (o 0), .int a0, .int a1]) ((oQi D cI cB o tx ad6 r0 σ0)) 0 0 (oA cB o tx ad6) :=
  oMet (by decide) (Nat.le_of_ble_eq_true rfl) (fun p e s m args below meth c H locs ls S K hr hk hl hs => bdX5_takeOfNumber S K hr hk _ _ _ _ _ hf hl hs)
set_option maxHeartbeats 4000000 in
set_option maxRecDepth 100000 in
theorem bdX5_take {p : Program} {l : Launch} {e : Env} {s : State} {m : MethodId} {args : Array Value} {below : List Frame} {meth : Method} {c : Code} {H : Heap} {locs : List Loc} {ls : Array Slot} {D : va_G} {cI : ClassId} {cB : ClassId} {o : Nat → Nat} {tx : Nat} {ad6 : Nat → Nat} (S : CallFix p m c cX5_take 3 s args WA RX5) (K : oK D cI cB ad6 (oA cB o tx ad6) s) (hr : meth.sig.returnType = (some .int)) (hk : meth.locks = false) (a0 : Int32) (a1 : Int32) (σ : zSt) (r0 : Int32) (σ0 : zSt) (hf : fX5_take a0 a1 σ = some (r0, σ0)) (hl : lv_has ls 3 [(0, .ref (o 0)), (1, .int a0), (2, .int a1)]) (hs : oS D cI cB o tx ad6 s σ H locs) : W p l e rmX5_take s m args below meth c H locs 0 0 (MQ below (oQi D cI cB o tx ad6 r0 σ0) args s 0 0 (oA cB o tx ad6)) (F0 m 0 ls []) := by
  unfold fX5_take at hf
  refine lv_aload_n S.1 S.2.1 dX5_take_0 rfl (lv_at hl 0 rfl) ?_
  refine ogX5_27_0 S K hs dX5_take_1 ?_
  refine ogsX5_21 S K hs dX5_take_4 ?_
  refine oac_ne (tgt := 24) S K hs hf dX5_take_7 (by decide) (fun hf => ?_) (fun hf => ?_)
  · refine lv_aload_n S.1 S.2.1 dX5_take_24 rfl (lv_at hl 0 rfl) ?_
    refine ogX5_27_0 S K hs dX5_take_25 ?_
    refine ogsX5_42 S K hs dX5_take_28 ?_
    refine oac_ne (tgt := 48) S K hs hf dX5_take_31 (by decide) (fun hf => ?_) (fun hf => ?_)
    · refine lv_aload_n S.1 S.2.1 dX5_take_48 rfl (lv_at hl 0 rfl) ?_
      refine ogX5_27_0 S K hs dX5_take_49 ?_
      refine ogsX5_48 S K hs dX5_take_52 ?_
      refine oac_ne (tgt := 72) S K hs hf dX5_take_55 (by decide) (fun hf => ?_) (fun hf => ?_)
      · refine lv_aload_n S.1 S.2.1 dX5_take_72 rfl (lv_at hl 0 rfl) ?_
        refine lv_iload_n S.1 S.2.1 dX5_take_73 rfl (lv_at hl 1 rfl) ?_
        refine lv_iload_n S.1 S.2.1 dX5_take_74 rfl (lv_at hl 2 rfl) ?_
        refine ocV (oV0 K hs) S K hs hl.1 hf (fun _ _ hX => metX5_takeOfNumber _ _ _ _ _ _ _ _ _ _ _ _ hX) (cwX5_54 S.2.2.2.2 ⟨Nat.le_of_ble_eq_true rfl, Nat.le_of_ble_eq_true rfl⟩) rfl dX5_take_75 rfl (Nat.le_of_ble_eq_true rfl) ⟨Nat.le_refl _, Nat.le_refl _⟩ (fun x1 σ2 H locs hs hf => ?_)
        exact orI S K hr hk hs hf dX5_take_78
      · refine lv_aload_n S.1 S.2.1 dX5_take_58 rfl (lv_at hl 0 rfl) ?_
        refine lv_iload_n S.1 S.2.1 dX5_take_59 rfl (lv_at hl 1 rfl) ?_
        refine ocV (oV0 K hs) S K hs hl.1 hf (fun _ _ hX => metX5_takeColon _ _ _ _ _ _ _ _ _ _ _ hX) (cwX5_51 S.2.2.2.2 ⟨Nat.le_of_ble_eq_true rfl, Nat.le_of_ble_eq_true rfl⟩) rfl dX5_take_60 rfl (Nat.le_of_ble_eq_true rfl) ⟨Nat.le_refl _, Nat.le_refl _⟩ (fun x3 σ4 H locs hs hf => ?_)
        refine z_if_eq (tgt := 70) S hf dX5_take_63 (by decide) (fun hf => ?_) (fun hf => ?_)
        · refine lv_iload_n S.1 S.2.1 dX5_take_70 rfl (lv_at hl 2 rfl) ?_
          exact orI S K hr hk hs hf dX5_take_71
        · refine lv_iconst S.1 S.2.1 dX5_take_66 k_iconst_m1 ?_
          refine lv_goto (tgt := 71) S.1 S.2.1 dX5_take_67 (by decide) ?_
          exact orI S K hr hk hs hf dX5_take_71
    · refine lv_aload_n S.1 S.2.1 dX5_take_34 rfl (lv_at hl 0 rfl) ?_
      refine lv_iload_n S.1 S.2.1 dX5_take_35 rfl (lv_at hl 1 rfl) ?_
      refine ocV (oV0 K hs) S K hs hl.1 hf (fun _ _ hX => metX5_takeCache _ _ _ _ _ _ _ _ _ _ _ hX) (cwX5_45 S.2.2.2.2 ⟨Nat.le_of_ble_eq_true rfl, Nat.le_of_ble_eq_true rfl⟩) rfl dX5_take_36 rfl (Nat.le_of_ble_eq_true rfl) ⟨Nat.le_refl _, Nat.le_refl _⟩ (fun x5 σ6 H locs hs hf => ?_)
      refine z_if_eq (tgt := 46) S hf dX5_take_39 (by decide) (fun hf => ?_) (fun hf => ?_)
      · refine lv_iload_n S.1 S.2.1 dX5_take_46 rfl (lv_at hl 2 rfl) ?_
        exact orI S K hr hk hs hf dX5_take_47
      · refine lv_iconst S.1 S.2.1 dX5_take_42 k_iconst_m1 ?_
        refine lv_goto (tgt := 47) S.1 S.2.1 dX5_take_43 (by decide) ?_
        exact orI S K hr hk hs hf dX5_take_47
  · refine lv_aload_n S.1 S.2.1 dX5_take_10 rfl (lv_at hl 0 rfl) ?_
    refine lv_iload_n S.1 S.2.1 dX5_take_11 rfl (lv_at hl 1 rfl) ?_
    refine ocV (oV0 K hs) S K hs hl.1 hf (fun _ _ hX => metX5_takeKind _ _ _ _ _ _ _ _ _ _ _ hX) (cwX5_38 S.2.2.2.2 ⟨Nat.le_of_ble_eq_true rfl, Nat.le_of_ble_eq_true rfl⟩) rfl dX5_take_12 rfl (Nat.le_of_ble_eq_true rfl) ⟨Nat.le_refl _, Nat.le_refl _⟩ (fun x7 σ8 H locs hs hf => ?_)
    refine z_if_eq (tgt := 22) S hf dX5_take_15 (by decide) (fun hf => ?_) (fun hf => ?_)
    · refine lv_iload_n S.1 S.2.1 dX5_take_22 rfl (lv_at hl 2 rfl) ?_
      exact orI S K hr hk hs hf dX5_take_23
    · refine lv_iconst S.1 S.2.1 dX5_take_18 k_iconst_m1 ?_
      refine lv_goto (tgt := 23) S.1 S.2.1 dX5_take_19 (by decide) ?_
      exact orI S K hr hk hs hf dX5_take_23
theorem metX5_take (l : Launch) (D : va_G) (cI : ClassId) (cB : ClassId) (o : Nat → Nat) (tx : Nat) (ad6 : Nat → Nat) (a0 : Int32) (a1 : Int32) (σ : zSt) (r0 : Int32) (σ0 : zSt) (hf : fX5_take a0 a1 σ = some (r0, σ0)) : Met l yX5_take (Cond.code yX5_take cX5_take 3 (some .int) :: WA) rmX5_take (oPc D cI cB o tx ad6 σ [.ref (o 0), .int a0, .int a1]) ((oQi D cI cB o tx ad6 r0 σ0)) 0 0 (oA cB o tx ad6) :=
  oMet (by decide) (Nat.le_of_ble_eq_true rfl) (fun p e s m args below meth c H locs ls S K hr hk hl hs => bdX5_take S K hr hk _ _ _ _ _ hf hl hs)
set_option maxHeartbeats 4000000 in
set_option maxRecDepth 100000 in
theorem bdX5_readAll {p : Program} {l : Launch} {e : Env} {s : State} {m : MethodId} {args : Array Value} {below : List Frame} {meth : Method} {c : Code} {H : Heap} {locs : List Loc} {ls : Array Slot} {D : va_G} {cI : ClassId} {cB : ClassId} {o : Nat → Nat} {tx : Nat} {ad6 : Nat → Nat} (S : CallFix p m c cX5_readAll 6 s args WA RX5) (K : oK D cI cB ad6 (oA cB o tx ad6) s) (hr : meth.sig.returnType = (some .int)) (hk : meth.locks = false) (a1 : Int32) (σ : zSt) (r0 : Int32) (σ0 : zSt) (hf : fX5_readAll a1 σ = some (r0, σ0)) (hl : lv_has ls 6 [(0, .ref (o 0)), (1, .ref tx), (2, .int a1)]) (hs : oS D cI cB o tx ad6 s σ H locs) : W p l e rmX5_readAll s m args below meth c H locs 0 0 (MQ below (oQi D cI cB o tx ad6 r0 σ0) args s 0 0 (oA cB o tx ad6)) (F0 m 0 ls []) := by
  obtain ⟨res, hres⟩ : ∃ q, q = (r0, σ0) := ⟨_, rfl⟩
  rw [← hres] at hf
  have J37 : ∀ (C14 : Int32 → Int32 → zSt → Option (Int32 × zSt)) (hC14 : ∀ (y2 : Int32) (y3 : Int32) (σ : zSt), C14 y2 y3 σ = some res → oGo p l e rmX5_readAll s m args below meth c (MQ below (oQi D cI cB o tx ad6 r0 σ0) args s 0 0 (oA cB o tx ad6)) D cI cB o tx ad6 6 σ [(0, .ref (o 0)), (1, .ref tx), (2, .int y2), (3, .int y3)] 14 []) (y2 : Int32) (y3 : Int32) (w0 : Int32) (σ : zSt), fX5_readAll_j37 C14 y2 y3 w0 σ = some res → oGo p l e rmX5_readAll s m args below meth c (MQ below (oQi D cI cB o tx ad6 r0 σ0) args s 0 0 (oA cB o tx ad6)) D cI cB o tx ad6 6 σ [(0, .ref (o 0)), (1, .ref tx), (2, .int y2), (3, .int y3)] 37 [.int w0] := by
    intro C14 hC14 y2 y3 w0 σ hf H locs ls hl hs
    unfold fX5_readAll_j37 at hf
    refine lv_istore (lv' := [(4, .int w0), (0, .ref (o 0)), (1, .ref tx), (2, .int y2), (3, .int y3)]) S.1 S.2.1 dX5_readAll_37 hl (by decide) rfl (fun ls hl => ?_)
    refine lv_aload_n S.1 S.2.1 dX5_readAll_39 rfl (lv_at hl 1 rfl) ?_
    refine lv_iload S.1 S.2.1 dX5_readAll_40 (lv_at hl 0 rfl) ?_
    refine lv_iload_n S.1 S.2.1 dX5_readAll_42 rfl (lv_at hl 4 rfl) ?_
    refine ocV (oV0 K hs) S K hs hl.1 hf (fun _ _ hX => metX5_take _ _ _ _ _ _ _ _ _ _ _ _ hX) (cwX5_34 S.2.2.2.2 ⟨Nat.le_of_ble_eq_true rfl, Nat.le_of_ble_eq_true rfl⟩) rfl dX5_readAll_43 rfl (Nat.le_of_ble_eq_true rfl) ⟨Nat.le_refl _, Nat.le_refl _⟩ (fun x3 σ4 H locs hs hf => ?_)
    refine lv_istore (lv' := [(5, .int x3), (4, .int w0), (0, .ref (o 0)), (1, .ref tx), (2, .int y2), (3, .int y3)]) S.1 S.2.1 dX5_readAll_46 hl (by decide) rfl (fun ls hl => ?_)
    refine lv_iload S.1 S.2.1 dX5_readAll_48 (lv_at hl 0 rfl) ?_
    refine lv_iconst S.1 S.2.1 dX5_readAll_50 k_iconst_m1 ?_
    refine z_icmp_eq (tgt := 57) S hf dX5_readAll_51 (by decide) (fun hf => ?_) (fun hf => ?_)
    · refine lv_iinc (v := y3 + nI 1) (lv' := [(3, .int (y3 + nI 1)), (5, .int x3), (4, .int w0), (0, .ref (o 0)), (1, .ref tx), (2, .int y2)]) S.1 S.2.1 dX5_readAll_57 hl (k := 5) rfl (by rw [k_iconst_1]) (by decide) rfl (fun ls hl => ?_)
      refine lv_goto (tgt := 14) S.1 S.2.1 dX5_readAll_60 (by decide) ?_
      exact hC14 _ _ _ hf _ _ _ (lv_sub hl [3, 4, 5, 0] rfl) hs
    · refine lv_iload S.1 S.2.1 dX5_readAll_54 (lv_at hl 0 rfl) ?_
      exact orI S K hr hk hs (hf.trans (congrArg some hres)) dX5_readAll_56
  have J36 : ∀ (C14 : Int32 → Int32 → zSt → Option (Int32 × zSt)) (hC14 : ∀ (y2 : Int32) (y3 : Int32) (σ : zSt), C14 y2 y3 σ = some res → oGo p l e rmX5_readAll s m args below meth c (MQ below (oQi D cI cB o tx ad6 r0 σ0) args s 0 0 (oA cB o tx ad6)) D cI cB o tx ad6 6 σ [(0, .ref (o 0)), (1, .ref tx), (2, .int y2), (3, .int y3)] 14 []) (y2 : Int32) (y3 : Int32) (σ : zSt), fX5_readAll_j36 C14 y2 y3 σ = some res → oGo p l e rmX5_readAll s m args below meth c (MQ below (oQi D cI cB o tx ad6 r0 σ0) args s 0 0 (oA cB o tx ad6)) D cI cB o tx ad6 6 σ [(0, .ref (o 0)), (1, .ref tx), (2, .int y2), (3, .int y3)] 36 [] := by
    intro C14 hC14 y2 y3 σ hf H locs ls hl hs
    unfold fX5_readAll_j36 at hf
    refine lv_iconst S.1 S.2.1 dX5_readAll_36 k_iconst_m1 ?_
    exact J37 _ hC14 _ _ _ _ hf _ _ _ (lv_sub hl [0, 1, 2, 3] rfl) hs
  have L14 : ∀ (K14 : zSt → Option (Int32 × zSt)) (hK14 : ∀ (σ : zSt), K14 σ = some res → oGo p l e rmX5_readAll s m args below meth c (MQ below (oQi D cI cB o tx ad6 r0 σ0) args s 0 0 (oA cB o tx ad6)) D cI cB o tx ad6 6 σ [(0, .ref (o 0))] 63 []) (n : Nat) (y2 : Int32) (y3 : Int32) (σ : zSt), fX5_readAll_l14 K14 n y2 y3 σ = some res → oGo p l e rmX5_readAll s m args below meth c (MQ below (oQi D cI cB o tx ad6 r0 σ0) args s 0 0 (oA cB o tx ad6)) D cI cB o tx ad6 6 σ [(0, .ref (o 0)), (1, .ref tx), (2, .int y2), (3, .int y3)] 14 [] := by
    intro K14 hK14 n
    induction n with
    | zero =>
      intro y2 y3 σ hf H locs ls hl hs
      rw [fX5_readAll_l14] at hf
      cases hf
    | succ n ih =>
      intro y2 y3 σ hf H locs ls hl hs
      rw [fX5_readAll_l14] at hf
      refine lv_iload_n S.1 S.2.1 dX5_readAll_14 rfl (lv_at hl 3 rfl) ?_
      refine lv_iload_n S.1 S.2.1 dX5_readAll_15 rfl (lv_at hl 2 rfl) ?_
      refine z_icmp_gt (tgt := 63) S hf dX5_readAll_16 (by decide) (fun hf => ?_) (fun hf => ?_)
      · exact hK14 _ hf _ _ _ (lv_sub hl [0] rfl) hs
      · refine lv_iload_n S.1 S.2.1 dX5_readAll_19 rfl (lv_at hl 3 rfl) ?_
        refine lv_iload_n S.1 S.2.1 dX5_readAll_20 rfl (lv_at hl 2 rfl) ?_
        refine z_icmp_ge (tgt := 36) S hf dX5_readAll_21 (by decide) (fun hf => ?_) (fun hf => ?_)
        · exact J36 _ ih _ _ _ hf _ _ _ (lv_sub hl [0, 1, 2, 3] rfl) hs
        · refine lv_iload_n S.1 S.2.1 dX5_readAll_24 rfl (lv_at hl 3 rfl) ?_
          refine lv_aload_n S.1 S.2.1 dX5_readAll_25 rfl (lv_at hl 1 rfl) ?_
          refine oal4 S K hs dX5_readAll_26 ?_
          refine z_icmp_ge (tgt := 36) S hf dX5_readAll_27 (by decide) (fun hf => ?_) (fun hf => ?_)
          · exact J36 _ ih _ _ _ hf _ _ _ (lv_sub hl [0, 1, 2, 3] rfl) hs
          · refine lv_aload_n S.1 S.2.1 dX5_readAll_30 rfl (lv_at hl 1 rfl) ?_
            refine lv_iload_n S.1 S.2.1 dX5_readAll_31 rfl (lv_at hl 3 rfl) ?_
            refine old4 S K hs hf dX5_readAll_32 (fun x5 hf => ?_)
            refine lv_goto (tgt := 37) S.1 S.2.1 dX5_readAll_33 (by decide) ?_
            exact J37 _ ih _ _ _ _ hf _ _ _ (lv_sub hl [0, 1, 2, 3] rfl) hs
  unfold fX5_readAll at hf
  refine lv_aload_n S.1 S.2.1 dX5_readAll_0 rfl (lv_at hl 0 rfl) ?_
  refine lv_iconst S.1 S.2.1 dX5_readAll_1 k_iconst_0 ?_
  refine opX5_30_0 S K hs hf dX5_readAll_2 (fun σ1 H locs hs hf => ?_)
  refine lv_aload_n S.1 S.2.1 dX5_readAll_5 rfl (lv_at hl 0 rfl) ?_
  refine ogsX5_21 S K hs dX5_readAll_6 ?_
  refine opX5_27_0 S K hs hf dX5_readAll_9 (fun σ2 H locs hs hf => ?_)
  refine lv_iconst S.1 S.2.1 dX5_readAll_12 k_iconst_0 ?_
  refine lv_istore_n (lv' := [(3, .int (nI 0)), (0, .ref (o 0)), (1, .ref tx), (2, .int a1)]) S.1 S.2.1 dX5_readAll_13 rfl hl (by decide) rfl (fun ls hl => ?_)
  refine L14 _ (fun σ6 hf H locs ls hl hs => ?_) _ _ _ _ hf _ _ _ (lv_sub hl [1, 2, 3, 0] rfl) hs
  refine lv_iconst S.1 S.2.1 dX5_readAll_63 k_iconst_m1 ?_
  exact orI S K hr hk hs (hf.trans (congrArg some hres)) dX5_readAll_64
theorem metX5_readAll (l : Launch) (D : va_G) (cI : ClassId) (cB : ClassId) (o : Nat → Nat) (tx : Nat) (ad6 : Nat → Nat) (a1 : Int32) (σ : zSt) (r0 : Int32) (σ0 : zSt) (hf : fX5_readAll a1 σ = some (r0, σ0)) : Met l yX5_readAll (Cond.code yX5_readAll cX5_readAll 6 (some .int) :: WA) rmX5_readAll (oPc D cI cB o tx ad6 σ [.ref (o 0), .ref tx, .int a1]) ((oQi D cI cB o tx ad6 r0 σ0)) 0 0 (oA cB o tx ad6) :=
  oMet (by decide) (Nat.le_of_ble_eq_true rfl) (fun p e s m args below meth c H locs ls S K hr hk hl hs => bdX5_readAll S K hr hk _ _ _ _ hf hl hs)
