/-! the whole object: contracts (by wip/tools/rworld.py) -/
set_option maxHeartbeats 4000000 in
set_option maxRecDepth 100000 in
theorem bdX8_append {p : Program} {l : Launch} {e : Env} {s : State} {m : MethodId} {args : Array Value} {below : List Frame} {meth : Method} {c : Code} {H : Heap} {locs : List Loc} {ls : Array Slot} {D : va_G} {cI : ClassId} {cB cM : ClassId} {ad6 : Nat → Nat} {a : Nat → Nat → Nat} {A : Nat → Prop} (S : CallFix p m c cX8_append 2 s args WA RX8) (K : qK D cI cB cM ad6 A s) (hr : meth.sig.returnType = (some .int)) (hk : meth.locks = false) (a0 : Int32) (σ : cSt) (r0 : Int32) (σ0 : cSt) (hf : fX8_append a0 σ = some (r0, σ0)) (hl : lv_has ls 2 [(0, .ref (a 0 0)), (1, .int a0)]) (hs : qS D cI cB cM ad6 a A s σ H locs) : W p l e rmX8_append s m args below meth c H locs 0 0 (MQ below (qQi D cI cB cM ad6 a A r0 σ0) args s 0 0 (A)) (F0 m 0 ls []) := by
  obtain ⟨res, hres⟩ : ∃ q, q = (r0, σ0) := ⟨_, rfl⟩
  rw [← hres] at hf
  have J21 : ∀ (y1 : Int32) (w0 : Int32) (σ : cSt), fX8_append_j21 y1 w0 σ = some res → qGo p l e rmX8_append s m args below meth c (MQ below (qQi D cI cB cM ad6 a A r0 σ0) args s 0 0 (A)) D cI cB cM ad6 a A 0 0 2 σ [(0, .ref (a 0 0)), (1, .int y1)] 21 [.int w0] := by
    intro y1 w0 σ hf H locs ls hl hs
    unfold fX8_append_j21 at hf
    refine qm2 S K hs hl.1 hf dX8_append_21 ⟨Nat.le_of_ble_eq_true rfl, Nat.le_of_ble_eq_true rfl⟩ (Nat.le_of_ble_eq_true rfl) ⟨Nat.le_of_ble_eq_true rfl, Nat.le_of_ble_eq_true rfl⟩ (fun H locs hs hf => ?_)
    refine lv_aload_n S.1 S.2.1 dX8_append_24 rfl (lv_at hl 0 rfl) ?_
    refine qgX8_30_0 S K hs dX8_append_25 ?_
    refine lv_aload_n S.1 S.2.1 dX8_append_28 rfl (lv_at hl 0 rfl) ?_
    refine qgX8_34_0 S K hs dX8_append_29 ?_
    refine lv_iload_n S.1 S.2.1 dX8_append_32 rfl (lv_at hl 1 rfl) ?_
    refine lv_i2b S.1 S.2.1 dX8_append_33 rfl ?_
    refine qbst S K hs hf dX8_append_34 (fun σ1 H locs hs hf => ?_)
    refine lv_aload_n S.1 S.2.1 dX8_append_35 rfl (lv_at hl 0 rfl) ?_
    refine lv_dup S.1 S.2.1 dX8_append_36 rfl ?_
    refine qgX8_34_0 S K hs dX8_append_37 ?_
    refine lv_iconst S.1 S.2.1 dX8_append_40 k_iconst_1 ?_
    refine lv_iadd S.1 S.2.1 dX8_append_41 ?_
    refine qpX8_34_0 S K hs hf dX8_append_42 (fun σ2 H locs hs hf => ?_)
    refine lv_aload_n S.1 S.2.1 dX8_append_45 rfl (lv_at hl 0 rfl) ?_
    refine qgX8_34_0 S K hs dX8_append_46 ?_
    exact qrI S K hr hk hs (hf.trans (congrArg some hres)) dX8_append_49
  unfold fX8_append at hf
  refine lv_iload_n S.1 S.2.1 dX8_append_0 rfl (lv_at hl 1 rfl) ?_
  refine lv_iconst S.1 S.2.1 dX8_append_1 k_iconst_0 ?_
  refine lv_bipush S.1 S.2.1 dX8_append_2 k_bipush_127 ?_
  refine qm1 S K hs hl.1 hf dX8_append_4 ⟨Nat.le_of_ble_eq_true rfl, Nat.le_of_ble_eq_true rfl⟩ (Nat.le_of_ble_eq_true rfl) ⟨Nat.le_of_ble_eq_true rfl, Nat.le_of_ble_eq_true rfl⟩ (fun H locs hs hf => ?_)
  refine lv_aload_n S.1 S.2.1 dX8_append_7 rfl (lv_at hl 0 rfl) ?_
  refine qgX8_34_0 S K hs dX8_append_8 ?_
  refine lv_bipush S.1 S.2.1 dX8_append_11 k_bipush_100 ?_
  refine z_icmp_ge (tgt := 20) S hf dX8_append_13 (by decide) (fun hf => ?_) (fun hf => ?_)
  · refine lv_iconst S.1 S.2.1 dX8_append_20 k_iconst_0 ?_
    exact J21 _ _ _ hf _ _ _ (lv_sub hl [0, 1] rfl) hs
  · refine lv_iconst S.1 S.2.1 dX8_append_16 k_iconst_1 ?_
    refine lv_goto (tgt := 21) S.1 S.2.1 dX8_append_17 (by decide) ?_
    exact J21 _ _ _ hf _ _ _ (lv_sub hl [0, 1] rfl) hs
theorem metX8_append (l : Launch) (D : va_G) (cI : ClassId) (cB cM : ClassId) (ad6 : Nat → Nat) (a : Nat → Nat → Nat) (A : Nat → Prop) (a0 : Int32) (σ : cSt) (r0 : Int32) (σ0 : cSt) (hf : fX8_append a0 σ = some (r0, σ0)) : Met l yX8_append (Cond.code yX8_append cX8_append 2 (some .int) :: WA) rmX8_append (qPc D cI cB cM ad6 a A σ [.ref (a 0 0), .int a0]) ((qQi D cI cB cM ad6 a A r0 σ0)) 0 0 (A) :=
  qMet (by decide) (Nat.le_of_ble_eq_true rfl) (fun p e s m args below meth c H locs ls S K hr hk hl hs => bdX8_append S K hr hk _ _ _ _ hf hl hs)
set_option maxHeartbeats 4000000 in
set_option maxRecDepth 100000 in
theorem bdX8_begin {p : Program} {l : Launch} {e : Env} {s : State} {m : MethodId} {args : Array Value} {below : List Frame} {meth : Method} {c : Code} {H : Heap} {locs : List Loc} {ls : Array Slot} {D : va_G} {cI : ClassId} {cB cM : ClassId} {ad6 : Nat → Nat} {a : Nat → Nat → Nat} {A : Nat → Prop} (S : CallFix p m c cX8_begin 5 s args WA RX8) (K : qK D cI cB cM ad6 A s) (hr : meth.sig.returnType = (some .int)) (hk : meth.locks = false) (a0 : Int32) (a1 : Int32) (a2 : Int32) (σ : cSt) (r0 : Int32) (σ0 : cSt) (hf : fX8_begin a0 a1 a2 σ = some (r0, σ0)) (hl : lv_has ls 5 [(0, .ref (a 0 0)), (1, .int a0), (2, .int a1), (3, .int a2)]) (hs : qS D cI cB cM ad6 a A s σ H locs) : W p l e rmX8_begin s m args below meth c H locs 0 0 (MQ below (qQi D cI cB cM ad6 a A r0 σ0) args s 0 0 (A)) (F0 m 0 ls []) := by
  unfold fX8_begin at hf
  refine lv_iload_n S.1 S.2.1 dX8_begin_0 rfl (lv_at hl 1 rfl) ?_
  refine lv_iconst S.1 S.2.1 dX8_begin_1 k_iconst_2 ?_
  refine lv_bipush S.1 S.2.1 dX8_begin_2 k_bipush_6 ?_
  refine qm1 S K hs hl.1 hf dX8_begin_4 ⟨Nat.le_of_ble_eq_true rfl, Nat.le_of_ble_eq_true rfl⟩ (Nat.le_of_ble_eq_true rfl) ⟨Nat.le_of_ble_eq_true rfl, Nat.le_of_ble_eq_true rfl⟩ (fun H locs hs hf => ?_)
  refine lv_iload_n S.1 S.2.1 dX8_begin_7 rfl (lv_at hl 2 rfl) ?_
  refine lv_iconst S.1 S.2.1 dX8_begin_8 k_iconst_1 ?_
  refine lv_bipush S.1 S.2.1 dX8_begin_9 k_bipush_8 ?_
  refine qm1 S K hs hl.1 hf dX8_begin_11 ⟨Nat.le_of_ble_eq_true rfl, Nat.le_of_ble_eq_true rfl⟩ (Nat.le_of_ble_eq_true rfl) ⟨Nat.le_of_ble_eq_true rfl, Nat.le_of_ble_eq_true rfl⟩ (fun H locs hs hf => ?_)
  refine lv_iload_n S.1 S.2.1 dX8_begin_14 rfl (lv_at hl 3 rfl) ?_
  refine lv_iconst S.1 S.2.1 dX8_begin_15 k_iconst_1 ?_
  refine lv_bipush S.1 S.2.1 dX8_begin_16 k_bipush_16 ?_
  refine qm1 S K hs hl.1 hf dX8_begin_18 ⟨Nat.le_of_ble_eq_true rfl, Nat.le_of_ble_eq_true rfl⟩ (Nat.le_of_ble_eq_true rfl) ⟨Nat.le_of_ble_eq_true rfl, Nat.le_of_ble_eq_true rfl⟩ (fun H locs hs hf => ?_)
  refine lv_aload_n S.1 S.2.1 dX8_begin_21 rfl (lv_at hl 0 rfl) ?_
  refine qgX8_26_0 S K hs dX8_begin_22 ?_
  refine lv_aload_n S.1 S.2.1 dX8_begin_25 rfl (lv_at hl 0 rfl) ?_
  refine qgX8_12_0 S K hs dX8_begin_26 ?_
  refine qcU (qV1 K hs) S K hs hl.1 hf (fun _ hX => metX2_save _ _ _ _ _ _ _ _ _ _ hX) (cwX8_48 S.2.2.2.2 ⟨Nat.le_of_ble_eq_true rfl, Nat.le_of_ble_eq_true rfl⟩) rfl dX8_begin_29 rfl (Nat.le_of_ble_eq_true rfl) ⟨Nat.le_of_ble_eq_true rfl, Nat.le_of_ble_eq_true rfl⟩ (fun σ1 H locs hs hf => ?_)
  refine lv_aload_n S.1 S.2.1 dX8_begin_32 rfl (lv_at hl 0 rfl) ?_
  refine qgX8_12_0 S K hs dX8_begin_33 ?_
  refine qgX8_52_8 S K hs dX8_begin_36 ?_
  refine lv_istore (lv' := [(4, .int (σ1 0 21 0)), (0, .ref (a 0 0)), (1, .int a0), (2, .int a1), (3, .int a2)]) S.1 S.2.1 dX8_begin_39 hl (by decide) rfl (fun ls hl => ?_)
  refine lv_aload_n S.1 S.2.1 dX8_begin_41 rfl (lv_at hl 1 rfl) ?_
  refine qgX8_12_0 S K hs dX8_begin_42 ?_
  refine lv_iload_n S.1 S.2.1 dX8_begin_45 rfl (lv_at hl 2 rfl) ?_
  refine lv_iload_n S.1 S.2.1 dX8_begin_46 rfl (lv_at hl 3 rfl) ?_
  refine lv_iload_n S.1 S.2.1 dX8_begin_47 rfl (lv_at hl 4 rfl) ?_
  refine qgU0 (qV8 K hs) S K hs hl.1 hf (fun _ hX => metX4_startAnew _ _ _ _ _ _ _ _ _ hX) (cwX8_16 S.2.2.2.2 ⟨Nat.le_of_ble_eq_true rfl, Nat.le_of_ble_eq_true rfl⟩) rfl dX8_begin_48 rfl (Nat.le_of_ble_eq_true rfl) ⟨Nat.le_of_ble_eq_true rfl, Nat.le_of_ble_eq_true rfl⟩ (fun σ2 H locs hs hf => ?_)
  refine lv_iload S.1 S.2.1 dX8_begin_51 (lv_at hl 0 rfl) ?_
  exact qrI S K hr hk hs hf dX8_begin_53
theorem metX8_begin (l : Launch) (D : va_G) (cI : ClassId) (cB cM : ClassId) (ad6 : Nat → Nat) (a : Nat → Nat → Nat) (A : Nat → Prop) (a0 : Int32) (a1 : Int32) (a2 : Int32) (σ : cSt) (r0 : Int32) (σ0 : cSt) (hf : fX8_begin a0 a1 a2 σ = some (r0, σ0)) : Met l yX8_begin (Cond.code yX8_begin cX8_begin 5 (some .int) :: WA) rmX8_begin (qPc D cI cB cM ad6 a A σ [.ref (a 0 0), .int a0, .int a1, .int a2]) ((qQi D cI cB cM ad6 a A r0 σ0)) 0 0 (A) :=
  qMet (by decide) (Nat.le_of_ble_eq_true rfl) (fun p e s m args below meth c H locs ls S K hr hk hl hs => bdX8_begin S K hr hk _ _ _ _ _ _ hf hl hs)
set_option maxHeartbeats 4000000 in
set_option maxRecDepth 100000 in
theorem bdX8_isPossible {p : Program} {l : Launch} {e : Env} {s : State} {m : MethodId} {args : Array Value} {below : List Frame} {meth : Method} {c : Code} {H : Heap} {locs : List Loc} {ls : Array Slot} {D : va_G} {cI : ClassId} {cB cM : ClassId} {ad6 : Nat → Nat} {a : Nat → Nat → Nat} {A : Nat → Prop} (S : CallFix p m c cX8_isPossible 3 s args WA RX8) (K : qK D cI cB cM ad6 A s) (hr : meth.sig.returnType = (some .boolean)) (hk : meth.locks = false) (a0 : Int32) (σ : cSt) (r0 : Int32) (hf : fX8_isPossible a0 σ = some r0) (hl : lv_has ls 3 [(0, .ref (a 0 0)), (1, .int a0)]) (hs : qS D cI cB cM ad6 a A s σ H locs) : W p l e rmX8_isPossible s m args below meth c H locs 0 0 (MQ below (qQi D cI cB cM ad6 a A r0 σ) args s 0 0 (A)) (F0 m 0 ls []) := by
  unfold fX8_isPossible at hf
  refine lv_aload_n S.1 S.2.1 dX8_isPossible_0 rfl (lv_at hl 0 rfl) ?_
  refine qgX8_41_0 S K hs dX8_isPossible_1 ?_
  refine lv_iload_n S.1 S.2.1 dX8_isPossible_4 rfl (lv_at hl 1 rfl) ?_
  refine qoP (qV3 K hs) S K hs hl.1 hf (fun _ hX => metX5_isTicks _ _ _ _ _ _ _ _ _ _ hX) (cwX8_185 S.2.2.2.2 ⟨Nat.le_of_ble_eq_true rfl, Nat.le_of_ble_eq_true rfl⟩) rfl dX8_isPossible_5 rfl (Nat.le_of_ble_eq_true rfl) ⟨Nat.le_of_ble_eq_true rfl, Nat.le_of_ble_eq_true rfl⟩ (fun x1 H locs hs hf => ?_)
  refine z_if_eq (tgt := 28) S hf dX8_isPossible_8 (by decide) (fun hf => ?_) (fun hf => ?_)
  · refine lv_aload_n S.1 S.2.1 dX8_isPossible_28 rfl (lv_at hl 0 rfl) ?_
    refine qgX8_41_0 S K hs dX8_isPossible_29 ?_
    refine qgX8_190_3 S K hs dX8_isPossible_32 ?_
    refine lv_iload_n S.1 S.2.1 dX8_isPossible_35 rfl (lv_at hl 1 rfl) ?_
    refine qld4 S K hs hf dX8_isPossible_36 (fun x2 hf => ?_)
    refine lv_istore_n (lv' := [(2, .int x2), (0, .ref (a 0 0)), (1, .int a0)]) S.1 S.2.1 dX8_isPossible_37 rfl hl (by decide) rfl (fun ls hl => ?_)
    refine lv_iload_n S.1 S.2.1 dX8_isPossible_38 rfl (lv_at hl 0 rfl) ?_
    refine lv_aload_n S.1 S.2.1 dX8_isPossible_39 rfl (lv_at hl 1 rfl) ?_
    refine qgX8_12_0 S K hs dX8_isPossible_40 ?_
    refine qgX8_55_8 S K hs dX8_isPossible_43 ?_
    refine z_icmp_ge (tgt := 67) S hf dX8_isPossible_46 (by decide) (fun hf => ?_) (fun hf => ?_)
    · refine lv_iconst S.1 S.2.1 dX8_isPossible_67 k_iconst_0 ?_
      exact qrB S K hr hk hs hf dX8_isPossible_68
    · refine lv_aload_n S.1 S.2.1 dX8_isPossible_49 rfl (lv_at hl 1 rfl) ?_
      refine qgX8_12_0 S K hs dX8_isPossible_50 ?_
      refine qgX8_62_8 S K hs dX8_isPossible_53 ?_
      refine lv_iload_n S.1 S.2.1 dX8_isPossible_56 rfl (lv_at hl 0 rfl) ?_
      refine qgP0 (qV18 K hs) S K hs hl.1 hf (fun _ hX => metX7_isPending _ _ _ _ _ _ _ hX) (cwX8_66 S.2.2.2.2 ⟨Nat.le_of_ble_eq_true rfl, Nat.le_of_ble_eq_true rfl⟩) rfl dX8_isPossible_57 rfl (Nat.le_of_ble_eq_true rfl) ⟨Nat.le_of_ble_eq_true rfl, Nat.le_of_ble_eq_true rfl⟩ (fun x3 H locs hs hf => ?_)
      refine z_if_ne (tgt := 67) S hf dX8_isPossible_60 (by decide) (fun hf => ?_) (fun hf => ?_)
      · refine lv_iconst S.1 S.2.1 dX8_isPossible_67 k_iconst_0 ?_
        exact qrB S K hr hk hs hf dX8_isPossible_68
      · refine lv_iconst S.1 S.2.1 dX8_isPossible_63 k_iconst_1 ?_
        refine lv_goto (tgt := 68) S.1 S.2.1 dX8_isPossible_64 (by decide) ?_
        exact qrB S K hr hk hs hf dX8_isPossible_68
  · refine lv_aload_n S.1 S.2.1 dX8_isPossible_11 rfl (lv_at hl 0 rfl) ?_
    refine qgX8_12_0 S K hs dX8_isPossible_12 ?_
    refine lv_aload_n S.1 S.2.1 dX8_isPossible_15 rfl (lv_at hl 0 rfl) ?_
    refine qgX8_41_0 S K hs dX8_isPossible_16 ?_
    refine qgX8_188_3 S K hs dX8_isPossible_19 ?_
    refine lv_iload_n S.1 S.2.1 dX8_isPossible_22 rfl (lv_at hl 1 rfl) ?_
    refine qld6 S K hs hf dX8_isPossible_23 (fun x4 hf => ?_)
    refine qgP0 (qV8 K hs) S K hs hl.1 hf (fun _ hX => metX4_hasTimeFor _ _ _ _ _ _ _ hX) (cwX8_91 S.2.2.2.2 ⟨Nat.le_of_ble_eq_true rfl, Nat.le_of_ble_eq_true rfl⟩) rfl dX8_isPossible_24 rfl (Nat.le_of_ble_eq_true rfl) ⟨Nat.le_of_ble_eq_true rfl, Nat.le_of_ble_eq_true rfl⟩ (fun x5 H locs hs hf => ?_)
    exact qrB S K hr hk hs hf dX8_isPossible_27
theorem metX8_isPossible (l : Launch) (D : va_G) (cI : ClassId) (cB cM : ClassId) (ad6 : Nat → Nat) (a : Nat → Nat → Nat) (A : Nat → Prop) (a0 : Int32) (σ : cSt) (r0 : Int32) (hf : fX8_isPossible a0 σ = some r0) : Met l yX8_isPossible (Cond.code yX8_isPossible cX8_isPossible 3 (some .boolean) :: WA) rmX8_isPossible (qPc D cI cB cM ad6 a A σ [.ref (a 0 0), .int a0]) ((qQi D cI cB cM ad6 a A r0 σ)) 0 0 (A) :=
  qMet (by decide) (Nat.le_of_ble_eq_true rfl) (fun p e s m args below meth c H locs ls S K hr hk hl hs => bdX8_isPossible S K hr hk _ _ _ hf hl hs)
set_option maxHeartbeats 4000000 in
set_option maxRecDepth 100000 in
theorem bdX8_carryOut {p : Program} {l : Launch} {e : Env} {s : State} {m : MethodId} {args : Array Value} {below : List Frame} {meth : Method} {c : Code} {H : Heap} {locs : List Loc} {ls : Array Slot} {D : va_G} {cI : ClassId} {cB cM : ClassId} {ad6 : Nat → Nat} {a : Nat → Nat → Nat} {A : Nat → Prop} (S : CallFix p m c cX8_carryOut 3 s args WA RX8) (K : qK D cI cB cM ad6 A s) (hr : meth.sig.returnType = (some .int)) (hk : meth.locks = false) (σ : cSt) (r0 : Int32) (σ0 : cSt) (hf : fX8_carryOut σ = some (r0, σ0)) (hl : lv_has ls 3 [(0, .ref (a 0 0))]) (hs : qS D cI cB cM ad6 a A s σ H locs) : W p l e rmX8_carryOut s m args below meth c H locs 0 0 (MQ below (qQi D cI cB cM ad6 a A r0 σ0) args s 0 0 (A)) (F0 m 0 ls []) := by
  obtain ⟨res, hres⟩ : ∃ q, q = (r0, σ0) := ⟨_, rfl⟩
  rw [← hres] at hf
  have L39 : ∀ (K39 : cSt → Option (Int32 × cSt)) (hK39 : ∀ (σ : cSt), K39 σ = some res → qGo p l e rmX8_carryOut s m args below meth c (MQ below (qQi D cI cB cM ad6 a A r0 σ0) args s 0 0 (A)) D cI cB cM ad6 a A 0 0 3 σ [(0, .ref (a 0 0))] 134 []) (n : Nat) (y2 : Int32) (σ : cSt), fX8_carryOut_l39 K39 n y2 σ = some res → qGo p l e rmX8_carryOut s m args below meth c (MQ below (qQi D cI cB cM ad6 a A r0 σ0) args s 0 0 (A)) D cI cB cM ad6 a A 0 0 3 σ [(0, .ref (a 0 0)), (2, .int y2)] 39 [] := by
    intro K39 hK39 n
    induction n with
    | zero =>
      intro y2 σ hf H locs ls hl hs
      rw [fX8_carryOut_l39] at hf
      cases hf
    | succ n ih =>
      intro y2 σ hf H locs ls hl hs
      rw [fX8_carryOut_l39] at hf
      refine lv_iload_n S.1 S.2.1 dX8_carryOut_39 rfl (lv_at hl 1 rfl) ?_
      refine lv_aload_n S.1 S.2.1 dX8_carryOut_40 rfl (lv_at hl 0 rfl) ?_
      refine qgX8_41_0 S K hs dX8_carryOut_41 ?_
      refine qgX8_181_3 S K hs dX8_carryOut_44 ?_
      refine z_icmp_ge (tgt := 134) S hf dX8_carryOut_47 (by decide) (fun hf => ?_) (fun hf => ?_)
      · exact hK39 _ hf _ _ _ (lv_sub hl [0] rfl) hs
      · refine lv_aload_n S.1 S.2.1 dX8_carryOut_50 rfl (lv_at hl 0 rfl) ?_
        refine lv_iload_n S.1 S.2.1 dX8_carryOut_51 rfl (lv_at hl 1 rfl) ?_
        refine qcP (qV0 K hs) S K hs hl.1 hf (fun _ hX => metX8_isPossible _ _ _ _ _ _ _ _ _ _ _ hX) (cwX8_182 S.2.2.2.2 ⟨Nat.le_of_ble_eq_true rfl, Nat.le_of_ble_eq_true rfl⟩) rfl dX8_carryOut_52 rfl (Nat.le_of_ble_eq_true rfl) ⟨Nat.le_of_ble_eq_true rfl, Nat.le_of_ble_eq_true rfl⟩ (fun x4 H locs hs hf => ?_)
        refine z_if_ne (tgt := 60) S hf dX8_carryOut_55 (by decide) (fun hf => ?_) (fun hf => ?_)
        · refine lv_aload_n S.1 S.2.1 dX8_carryOut_60 rfl (lv_at hl 0 rfl) ?_
          refine qgX8_41_0 S K hs dX8_carryOut_61 ?_
          refine lv_iload_n S.1 S.2.1 dX8_carryOut_64 rfl (lv_at hl 1 rfl) ?_
          refine qoP (qV3 K hs) S K hs hl.1 hf (fun _ hX => metX5_isTicks _ _ _ _ _ _ _ _ _ _ hX) (cwX8_185 S.2.2.2.2 ⟨Nat.le_of_ble_eq_true rfl, Nat.le_of_ble_eq_true rfl⟩) rfl dX8_carryOut_65 rfl (Nat.le_of_ble_eq_true rfl) ⟨Nat.le_of_ble_eq_true rfl, Nat.le_of_ble_eq_true rfl⟩ (fun x5 H locs hs hf => ?_)
          refine z_if_eq (tgt := 91) S hf dX8_carryOut_68 (by decide) (fun hf => ?_) (fun hf => ?_)
          · refine lv_aload_n S.1 S.2.1 dX8_carryOut_91 rfl (lv_at hl 0 rfl) ?_
            refine qgX8_12_0 S K hs dX8_carryOut_92 ?_
            refine qgX8_62_8 S K hs dX8_carryOut_95 ?_
            refine lv_aload_n S.1 S.2.1 dX8_carryOut_98 rfl (lv_at hl 0 rfl) ?_
            refine qgX8_41_0 S K hs dX8_carryOut_99 ?_
            refine qgX8_190_3 S K hs dX8_carryOut_102 ?_
            refine lv_iload_n S.1 S.2.1 dX8_carryOut_105 rfl (lv_at hl 1 rfl) ?_
            refine qld4 S K hs hf dX8_carryOut_106 (fun x6 hf => ?_)
            refine lv_aload_n S.1 S.2.1 dX8_carryOut_107 rfl (lv_at hl 0 rfl) ?_
            refine qgX8_41_0 S K hs dX8_carryOut_108 ?_
            refine qgX8_193_3 S K hs dX8_carryOut_111 ?_
            refine lv_iload_n S.1 S.2.1 dX8_carryOut_114 rfl (lv_at hl 1 rfl) ?_
            refine qld5 S K hs hf dX8_carryOut_115 (fun x7 hf => ?_)
            refine lv_aload_n S.1 S.2.1 dX8_carryOut_116 rfl (lv_at hl 0 rfl) ?_
            refine qgX8_41_0 S K hs dX8_carryOut_117 ?_
            refine qgX8_188_3 S K hs dX8_carryOut_120 ?_
            refine lv_iload_n S.1 S.2.1 dX8_carryOut_123 rfl (lv_at hl 1 rfl) ?_
            refine qld6 S K hs hf dX8_carryOut_124 (fun x8 hf => ?_)
            refine qgU0 (qV18 K hs) S K hs hl.1 hf (fun _ hX => metX7_ask _ _ _ _ _ _ _ _ _ hX) (cwX8_76 S.2.2.2.2 ⟨Nat.le_of_ble_eq_true rfl, Nat.le_of_ble_eq_true rfl⟩) rfl dX8_carryOut_125 rfl (Nat.le_of_ble_eq_true rfl) ⟨Nat.le_of_ble_eq_true rfl, Nat.le_of_ble_eq_true rfl⟩ (fun σ9 H locs hs hf => ?_)
            refine lv_iinc (v := y2 + nI 1) (lv' := [(2, .int (y2 + nI 1)), (0, .ref (a 0 0))]) S.1 S.2.1 dX8_carryOut_128 hl (k := 1) rfl (by rw [k_iconst_1]) (by decide) rfl (fun ls hl => ?_)
            refine lv_goto (tgt := 39) S.1 S.2.1 dX8_carryOut_131 (by decide) ?_
            exact ih _ _ hf _ _ _ (lv_sub hl [1, 0] rfl) hs
          · refine lv_aload_n S.1 S.2.1 dX8_carryOut_71 rfl (lv_at hl 0 rfl) ?_
            refine qgX8_12_0 S K hs dX8_carryOut_72 ?_
            refine lv_aload_n S.1 S.2.1 dX8_carryOut_75 rfl (lv_at hl 0 rfl) ?_
            refine qgX8_41_0 S K hs dX8_carryOut_76 ?_
            refine qgX8_188_3 S K hs dX8_carryOut_79 ?_
            refine lv_iload_n S.1 S.2.1 dX8_carryOut_82 rfl (lv_at hl 1 rfl) ?_
            refine qld6 S K hs hf dX8_carryOut_83 (fun x10 hf => ?_)
            refine qgV0 (qV8 K hs) S K hs hl.1 hf (fun _ _ hX => metX4_letPass _ _ _ _ _ _ _ _ hX) (cwX8_94 S.2.2.2.2 ⟨Nat.le_of_ble_eq_true rfl, Nat.le_of_ble_eq_true rfl⟩) rfl dX8_carryOut_84 rfl (Nat.le_of_ble_eq_true rfl) ⟨Nat.le_of_ble_eq_true rfl, Nat.le_of_ble_eq_true rfl⟩ (fun x11 σ12 H locs hs hf => ?_)
            refine lv_pop S.1 S.2.1 dX8_carryOut_87 rfl ?_
            refine lv_goto (tgt := 128) S.1 S.2.1 dX8_carryOut_88 (by decide) ?_
            refine lv_iinc (v := y2 + nI 1) (lv' := [(2, .int (y2 + nI 1)), (0, .ref (a 0 0))]) S.1 S.2.1 dX8_carryOut_128 hl (k := 1) rfl (by rw [k_iconst_1]) (by decide) rfl (fun ls hl => ?_)
            refine lv_goto (tgt := 39) S.1 S.2.1 dX8_carryOut_131 (by decide) ?_
            exact ih _ _ hf _ _ _ (lv_sub hl [1, 0] rfl) hs
        · refine lv_iload_n S.1 S.2.1 dX8_carryOut_58 rfl (lv_at hl 1 rfl) ?_
          exact qrI S K hr hk hs (hf.trans (congrArg some hres)) dX8_carryOut_59
  unfold fX8_carryOut at hf
  refine lv_aload_n S.1 S.2.1 dX8_carryOut_0 rfl (lv_at hl 0 rfl) ?_
  refine qgX8_41_0 S K hs dX8_carryOut_1 ?_
  refine lv_aload_n S.1 S.2.1 dX8_carryOut_4 rfl (lv_at hl 0 rfl) ?_
  refine qgX8_30_0 S K hs dX8_carryOut_5 ?_
  refine lv_aload_n S.1 S.2.1 dX8_carryOut_8 rfl (lv_at hl 0 rfl) ?_
  refine qgX8_34_0 S K hs dX8_carryOut_9 ?_
  refine qoV (qV3 K hs) S K hs hl.1 hf (fun _ _ hX => metX5_readAll _ _ _ _ _ _ _ _ _ _ _ hX) (cwX8_177 S.2.2.2.2 ⟨Nat.le_of_ble_eq_true rfl, Nat.le_of_ble_eq_true rfl⟩) rfl dX8_carryOut_12 rfl (Nat.le_of_ble_eq_true rfl) ⟨Nat.le_of_ble_eq_true rfl, Nat.le_of_ble_eq_true rfl⟩ (fun x1 σ2 H locs hs hf => ?_)
  refine lv_istore_n (lv' := [(1, .int x1), (0, .ref (a 0 0))]) S.1 S.2.1 dX8_carryOut_15 rfl hl (by decide) rfl (fun ls hl => ?_)
  refine lv_iload_n S.1 S.2.1 dX8_carryOut_16 rfl (lv_at hl 0 rfl) ?_
  refine lv_iconst S.1 S.2.1 dX8_carryOut_17 k_iconst_m1 ?_
  refine z_icmp_eq (tgt := 26) S hf dX8_carryOut_18 (by decide) (fun hf => ?_) (fun hf => ?_)
  · refine lv_aload_n S.1 S.2.1 dX8_carryOut_26 rfl (lv_at hl 1 rfl) ?_
    refine qgX8_26_0 S K hs dX8_carryOut_27 ?_
    refine lv_aload_n S.1 S.2.1 dX8_carryOut_30 rfl (lv_at hl 1 rfl) ?_
    refine qgX8_12_0 S K hs dX8_carryOut_31 ?_
    refine qcU (qV1 K hs) S K hs hl.1 hf (fun _ hX => metX2_save _ _ _ _ _ _ _ _ _ _ hX) (cwX8_48 S.2.2.2.2 ⟨Nat.le_of_ble_eq_true rfl, Nat.le_of_ble_eq_true rfl⟩) rfl dX8_carryOut_34 rfl (Nat.le_of_ble_eq_true rfl) ⟨Nat.le_of_ble_eq_true rfl, Nat.le_of_ble_eq_true rfl⟩ (fun σ3 H locs hs hf => ?_)
    refine lv_iconst S.1 S.2.1 dX8_carryOut_37 k_iconst_0 ?_
    refine lv_istore_n (lv' := [(2, .int (nI 0)), (1, .int x1), (0, .ref (a 0 0))]) S.1 S.2.1 dX8_carryOut_38 rfl hl (by decide) rfl (fun ls hl => ?_)
    refine L39 _ (fun σ13 hf H locs ls hl hs => ?_) _ _ _ hf _ _ _ (lv_sub hl [2, 0] rfl) hs
    refine lv_aload_n S.1 S.2.1 dX8_carryOut_134 rfl (lv_at hl 0 rfl) ?_
    refine qgX8_41_0 S K hs dX8_carryOut_135 ?_
    refine qgX8_181_3 S K hs dX8_carryOut_138 ?_
    exact qrI S K hr hk hs (hf.trans (congrArg some hres)) dX8_carryOut_141
  · refine lv_bipush S.1 S.2.1 dX8_carryOut_21 k_bipush_m10 ?_
    refine lv_iload_n S.1 S.2.1 dX8_carryOut_23 rfl (lv_at hl 0 rfl) ?_
    refine lv_isub S.1 S.2.1 dX8_carryOut_24 ?_
    exact qrI S K hr hk hs (hf.trans (congrArg some hres)) dX8_carryOut_25
theorem metX8_carryOut (l : Launch) (D : va_G) (cI : ClassId) (cB cM : ClassId) (ad6 : Nat → Nat) (a : Nat → Nat → Nat) (A : Nat → Prop) (σ : cSt) (r0 : Int32) (σ0 : cSt) (hf : fX8_carryOut σ = some (r0, σ0)) : Met l yX8_carryOut (Cond.code yX8_carryOut cX8_carryOut 3 (some .int) :: WA) rmX8_carryOut (qPc D cI cB cM ad6 a A σ [.ref (a 0 0)]) ((qQi D cI cB cM ad6 a A r0 σ0)) 0 0 (A) :=
  qMet (by decide) (Nat.le_of_ble_eq_true rfl) (fun p e s m args below meth c H locs ls S K hr hk hl hs => bdX8_carryOut S K hr hk  _ _ _ hf hl hs)
set_option maxHeartbeats 4000000 in
set_option maxRecDepth 100000 in
theorem bdX8_clearText {p : Program} {l : Launch} {e : Env} {s : State} {m : MethodId} {args : Array Value} {below : List Frame} {meth : Method} {c : Code} {H : Heap} {locs : List Loc} {ls : Array Slot} {D : va_G} {cI : ClassId} {cB cM : ClassId} {ad6 : Nat → Nat} {a : Nat → Nat → Nat} {A : Nat → Prop} (S : CallFix p m c cX8_clearText 2 s args WA RX8) (K : qK D cI cB cM ad6 A s) (hr : meth.sig.returnType = (some .int)) (hk : meth.locks = false) (σ : cSt) (r0 : Int32) (σ0 : cSt) (hf : fX8_clearText σ = some (r0, σ0)) (hl : lv_has ls 2 [(0, .ref (a 0 0))]) (hs : qS D cI cB cM ad6 a A s σ H locs) : W p l e rmX8_clearText s m args below meth c H locs 0 0 (MQ below (qQi D cI cB cM ad6 a A r0 σ0) args s 0 0 (A)) (F0 m 0 ls []) := by
  unfold fX8_clearText at hf
  refine lv_aload_n S.1 S.2.1 dX8_clearText_0 rfl (lv_at hl 0 rfl) ?_
  refine qgX8_34_0 S K hs dX8_clearText_1 ?_
  refine lv_istore_n (lv' := [(1, .int (σ 7 0 0)), (0, .ref (a 0 0))]) S.1 S.2.1 dX8_clearText_4 rfl hl (by decide) rfl (fun ls hl => ?_)
  refine lv_aload_n S.1 S.2.1 dX8_clearText_5 rfl (lv_at hl 1 rfl) ?_
  refine lv_iconst S.1 S.2.1 dX8_clearText_6 k_iconst_0 ?_
  refine qpX8_34_0 S K hs hf dX8_clearText_7 (fun σ1 H locs hs hf => ?_)
  refine lv_iload_n S.1 S.2.1 dX8_clearText_10 rfl (lv_at hl 0 rfl) ?_
  exact qrI S K hr hk hs hf dX8_clearText_11
theorem metX8_clearText (l : Launch) (D : va_G) (cI : ClassId) (cB cM : ClassId) (ad6 : Nat → Nat) (a : Nat → Nat → Nat) (A : Nat → Prop) (σ : cSt) (r0 : Int32) (σ0 : cSt) (hf : fX8_clearText σ = some (r0, σ0)) : Met l yX8_clearText (Cond.code yX8_clearText cX8_clearText 2 (some .int) :: WA) rmX8_clearText (qPc D cI cB cM ad6 a A σ [.ref (a 0 0)]) ((qQi D cI cB cM ad6 a A r0 σ0)) 0 0 (A) :=
  qMet (by decide) (Nat.le_of_ble_eq_true rfl) (fun p e s m args below meth c H locs ls S K hr hk hl hs => bdX8_clearText S K hr hk  _ _ _ hf hl hs)
set_option maxHeartbeats 4000000 in
set_option maxRecDepth 100000 in
theorem bdX8_copy {p : Program} {l : Launch} {e : Env} {s : State} {m : MethodId} {args : Array Value} {below : List Frame} {meth : Method} {c : Code} {H : Heap} {locs : List Loc} {ls : Array Slot} {D : va_G} {cI : ClassId} {cB cM : ClassId} {ad6 : Nat → Nat} {a : Nat → Nat → Nat} {A : Nat → Prop} (S : CallFix p m c cX8_copy 4 s args WA RX8) (K : qK D cI cB cM ad6 A s) (hr : meth.sig.returnType = (some .int)) (hk : meth.locks = false) (a0 : Int32) (a1 : Int32) (a2 : Int32) (σ : cSt) (r0 : Int32) (hf : fX8_copy a0 a1 a2 σ = some r0) (hl : lv_has ls 4 [(0, .ref (a 0 0)), (1, .int a0), (2, .int a1), (3, .int a2)]) (hs : qS D cI cB cM ad6 a A s σ H locs) : W p l e rmX8_copy s m args below meth c H locs 0 0 (MQ below (qQi D cI cB cM ad6 a A r0 σ) args s 0 0 (A)) (F0 m 0 ls []) := by
  unfold fX8_copy at hf
  refine lv_iload_n S.1 S.2.1 dX8_copy_0 rfl (lv_at hl 1 rfl) ?_
  refine lv_aload_n S.1 S.2.1 dX8_copy_1 rfl (lv_at hl 0 rfl) ?_
  refine qgX8_12_0 S K hs dX8_copy_2 ?_
  refine qgX8_55_8 S K hs dX8_copy_5 ?_
  refine qm0 S K hs hl.1 hf dX8_copy_8 ⟨Nat.le_of_ble_eq_true rfl, Nat.le_of_ble_eq_true rfl⟩ (Nat.le_of_ble_eq_true rfl) ⟨Nat.le_of_ble_eq_true rfl, Nat.le_of_ble_eq_true rfl⟩ (fun H locs hs hf => ?_)
  refine lv_iload_n S.1 S.2.1 dX8_copy_11 rfl (lv_at hl 2 rfl) ?_
  refine lv_bipush S.1 S.2.1 dX8_copy_12 k_bipush_32 ?_
  refine qm0 S K hs hl.1 hf dX8_copy_14 ⟨Nat.le_of_ble_eq_true rfl, Nat.le_of_ble_eq_true rfl⟩ (Nat.le_of_ble_eq_true rfl) ⟨Nat.le_of_ble_eq_true rfl, Nat.le_of_ble_eq_true rfl⟩ (fun H locs hs hf => ?_)
  refine lv_iload_n S.1 S.2.1 dX8_copy_17 rfl (lv_at hl 3 rfl) ?_
  refine lv_iconst S.1 S.2.1 dX8_copy_18 k_iconst_0 ?_
  refine lv_iconst S.1 S.2.1 dX8_copy_19 k_iconst_3 ?_
  refine qm1 S K hs hl.1 hf dX8_copy_20 ⟨Nat.le_of_ble_eq_true rfl, Nat.le_of_ble_eq_true rfl⟩ (Nat.le_of_ble_eq_true rfl) ⟨Nat.le_of_ble_eq_true rfl, Nat.le_of_ble_eq_true rfl⟩ (fun H locs hs hf => ?_)
  refine lv_aload_n S.1 S.2.1 dX8_copy_23 rfl (lv_at hl 0 rfl) ?_
  refine qgX8_12_0 S K hs dX8_copy_24 ?_
  refine qgX8_98_8 S K hs dX8_copy_27 ?_
  refine lv_iload_n S.1 S.2.1 dX8_copy_30 rfl (lv_at hl 1 rfl) ?_
  refine lv_iload_n S.1 S.2.1 dX8_copy_31 rfl (lv_at hl 2 rfl) ?_
  refine lv_iload_n S.1 S.2.1 dX8_copy_32 rfl (lv_at hl 3 rfl) ?_
  refine qgP0 (qV11 K hs) S K hs hl.1 hf (fun _ hX => metX0_fact _ _ _ _ _ _ _ _ _ hX) (cwX8_130 S.2.2.2.2 ⟨Nat.le_of_ble_eq_true rfl, Nat.le_of_ble_eq_true rfl⟩) rfl dX8_copy_33 rfl (Nat.le_of_ble_eq_true rfl) ⟨Nat.le_of_ble_eq_true rfl, Nat.le_of_ble_eq_true rfl⟩ (fun x1 H locs hs hf => ?_)
  exact qrP S K hr hk hs hf dX8_copy_36
theorem metX8_copy (l : Launch) (D : va_G) (cI : ClassId) (cB cM : ClassId) (ad6 : Nat → Nat) (a : Nat → Nat → Nat) (A : Nat → Prop) (a0 : Int32) (a1 : Int32) (a2 : Int32) (σ : cSt) (r0 : Int32) (hf : fX8_copy a0 a1 a2 σ = some r0) : Met l yX8_copy (Cond.code yX8_copy cX8_copy 4 (some .int) :: WA) rmX8_copy (qPc D cI cB cM ad6 a A σ [.ref (a 0 0), .int a0, .int a1, .int a2]) ((qQi D cI cB cM ad6 a A r0 σ)) 0 0 (A) :=
  qMet (by decide) (Nat.le_of_ble_eq_true rfl) (fun p e s m args below meth c H locs ls S K hr hk hl hs => bdX8_copy S K hr hk _ _ _ _ _ hf hl hs)
set_option maxHeartbeats 4000000 in
set_option maxRecDepth 100000 in
theorem bdX8_hashLine {p : Program} {l : Launch} {e : Env} {s : State} {m : MethodId} {args : Array Value} {below : List Frame} {meth : Method} {c : Code} {H : Heap} {locs : List Loc} {ls : Array Slot} {D : va_G} {cI : ClassId} {cB cM : ClassId} {ad6 : Nat → Nat} {a : Nat → Nat → Nat} {A : Nat → Prop} (S : CallFix p m c cX8_hashLine 8 s args WA RX8) (K : qK D cI cB cM ad6 A s) (hr : meth.sig.returnType = (some .long)) (hk : meth.locks = false) (a0 : Int64) (a1 : Int32) (σ : cSt) (r0 : Int64) (hf : fX8_hashLine a0 a1 σ = some r0) (hl : lv_has ls 8 [(0, .ref (a 0 0)), (1, .long a0), (3, .int a1)]) (hs : qS D cI cB cM ad6 a A s σ H locs) : W p l e rmX8_hashLine s m args below meth c H locs 0 0 (MQ below (qQl D cI cB cM ad6 a A r0 σ) args s 0 0 (A)) (F0 m 0 ls []) := by
  obtain ⟨res, hres⟩ : ∃ q, q = r0 := ⟨_, rfl⟩
  rw [← hres] at hf
  have L6 : ∀ (K6 : Int32 → Int64 → Option (Int64)) (hK6 : ∀ (y3 : Int32) (y4 : Int64), K6 y3 y4 = some res → qGo p l e rmX8_hashLine s m args below meth c (MQ below (qQl D cI cB cM ad6 a A r0 σ) args s 0 0 (A)) D cI cB cM ad6 a A 0 0 8 σ [(0, .ref (a 0 0)), (3, .int y3), (4, .long y4)] 39 []) (n : Nat) (y3 : Int32) (y4 : Int64) (y6 : Int32), fX8_hashLine_l6 σ K6 n y3 y4 y6 = some res → qGo p l e rmX8_hashLine s m args below meth c (MQ below (qQl D cI cB cM ad6 a A r0 σ) args s 0 0 (A)) D cI cB cM ad6 a A 0 0 8 σ [(0, .ref (a 0 0)), (3, .int y3), (4, .long y4), (6, .int y6)] 6 [] := by
    intro K6 hK6 n
    induction n with
    | zero =>
      intro y3 y4 y6 hf H locs ls hl hs
      rw [fX8_hashLine_l6] at hf
      cases hf
    | succ n ih =>
      intro y3 y4 y6 hf H locs ls hl hs
      rw [fX8_hashLine_l6] at hf
      refine lv_iload S.1 S.2.1 dX8_hashLine_6 (lv_at hl 3 rfl) ?_
      refine lv_bipush S.1 S.2.1 dX8_hashLine_8 k_bipush_8 ?_
      refine z_icmp_ge (tgt := 39) S hf dX8_hashLine_10 (by decide) (fun hf => ?_) (fun hf => ?_)
      · exact hK6 _ _ hf _ _ _ (lv_sub hl [0, 1, 2] rfl) hs
      · refine lv_ldc2 (v := 31) S.1 S.2.1 S.2.2.2.1 (S.2.2.2.2 _ (z_in0 _ (List.mem_of_getElem? (i := 455) (by decide +kernel)))) dX8_hashLine_13 ?_
        refine lv_lload S.1 S.2.1 dX8_hashLine_16 (lv_at hl 2 rfl) ?_
        refine lv_lmul S.1 S.2.1 dX8_hashLine_18 ?_
        refine lv_aload_n S.1 S.2.1 dX8_hashLine_19 rfl (lv_at hl 0 rfl) ?_
        refine qgX8_12_0 S K hs dX8_hashLine_20 ?_
        refine lv_iload_n S.1 S.2.1 dX8_hashLine_23 rfl (lv_at hl 1 rfl) ?_
        refine lv_iload S.1 S.2.1 dX8_hashLine_24 (lv_at hl 3 rfl) ?_
        refine qgP0 (qV8 K hs) S K hs hl.1 hf (fun _ hX => metX4_lineFact _ _ _ _ _ _ _ _ hX) (cwX8_134 S.2.2.2.2 ⟨Nat.le_of_ble_eq_true rfl, Nat.le_of_ble_eq_true rfl⟩) rfl dX8_hashLine_26 rfl (Nat.le_of_ble_eq_true rfl) ⟨Nat.le_of_ble_eq_true rfl, Nat.le_of_ble_eq_true rfl⟩ (fun x1 H locs hs hf => ?_)
        refine lv_i2l S.1 S.2.1 dX8_hashLine_29 rfl ?_
        refine lv_ladd S.1 S.2.1 dX8_hashLine_30 ?_
        refine lv_lstore (lv' := [(4, .long (((31 : Int64) * y4) + x1.toInt64)), (0, .ref (a 0 0)), (3, .int y3), (6, .int y6)]) S.1 S.2.1 dX8_hashLine_31 hl (by decide) rfl (fun ls hl => ?_)
        refine lv_iinc (v := y6 + nI 1) (lv' := [(6, .int (y6 + nI 1)), (4, .long (((31 : Int64) * y4) + x1.toInt64)), (0, .ref (a 0 0)), (3, .int y3)]) S.1 S.2.1 dX8_hashLine_33 hl (k := 3) rfl (by rw [k_iconst_1]) (by decide) rfl (fun ls hl => ?_)
        refine lv_goto (tgt := 6) S.1 S.2.1 dX8_hashLine_36 (by decide) ?_
        exact ih _ _ _ hf _ _ _ (lv_sub hl [2, 3, 1, 0] rfl) hs
  have L57 : ∀ (K57 : Int32 → Int64 → Int32 → Option (Int64)) (hK57 : ∀ (y3 : Int32) (y4 : Int64) (y6 : Int32), K57 y3 y4 y6 = some res → qGo p l e rmX8_hashLine s m args below meth c (MQ below (qQl D cI cB cM ad6 a A r0 σ) args s 0 0 (A)) D cI cB cM ad6 a A 0 0 8 σ [(0, .ref (a 0 0)), (3, .int y3), (4, .long y4), (6, .int y6)] 94 []) (n : Nat) (y3 : Int32) (y4 : Int64) (y6 : Int32) (y7 : Int32), fX8_hashLine_l57 σ K57 n y3 y4 y6 y7 = some res → qGo p l e rmX8_hashLine s m args below meth c (MQ below (qQl D cI cB cM ad6 a A r0 σ) args s 0 0 (A)) D cI cB cM ad6 a A 0 0 8 σ [(0, .ref (a 0 0)), (3, .int y3), (4, .long y4), (6, .int y6), (7, .int y7)] 57 [] := by
    intro K57 hK57 n
    induction n with
    | zero =>
      intro y3 y4 y6 y7 hf H locs ls hl hs
      rw [fX8_hashLine_l57] at hf
      cases hf
    | succ n ih =>
      intro y3 y4 y6 y7 hf H locs ls hl hs
      rw [fX8_hashLine_l57] at hf
      refine lv_iload S.1 S.2.1 dX8_hashLine_57 (lv_at hl 4 rfl) ?_
      refine lv_iconst S.1 S.2.1 dX8_hashLine_59 k_iconst_4 ?_
      refine z_icmp_ge (tgt := 94) S hf dX8_hashLine_60 (by decide) (fun hf => ?_) (fun hf => ?_)
      · exact hK57 _ _ _ hf _ _ _ (lv_sub hl [0, 1, 2, 3] rfl) hs
      · refine lv_ldc2 (v := 31) S.1 S.2.1 S.2.2.2.1 (S.2.2.2.2 _ (z_in0 _ (List.mem_of_getElem? (i := 455) (by decide +kernel)))) dX8_hashLine_63 ?_
        refine lv_lload S.1 S.2.1 dX8_hashLine_66 (lv_at hl 2 rfl) ?_
        refine lv_lmul S.1 S.2.1 dX8_hashLine_68 ?_
        refine lv_aload_n S.1 S.2.1 dX8_hashLine_69 rfl (lv_at hl 0 rfl) ?_
        refine qgX8_12_0 S K hs dX8_hashLine_70 ?_
        refine qgX8_98_8 S K hs dX8_hashLine_73 ?_
        refine lv_iload S.1 S.2.1 dX8_hashLine_76 (lv_at hl 3 rfl) ?_
        refine lv_iload_n S.1 S.2.1 dX8_hashLine_78 rfl (lv_at hl 1 rfl) ?_
        refine lv_iload S.1 S.2.1 dX8_hashLine_79 (lv_at hl 4 rfl) ?_
        refine qgP0 (qV11 K hs) S K hs hl.1 hf (fun _ hX => metX0_fact _ _ _ _ _ _ _ _ _ hX) (cwX8_130 S.2.2.2.2 ⟨Nat.le_of_ble_eq_true rfl, Nat.le_of_ble_eq_true rfl⟩) rfl dX8_hashLine_81 rfl (Nat.le_of_ble_eq_true rfl) ⟨Nat.le_of_ble_eq_true rfl, Nat.le_of_ble_eq_true rfl⟩ (fun x4 H locs hs hf => ?_)
        refine lv_i2l S.1 S.2.1 dX8_hashLine_84 rfl ?_
        refine lv_ladd S.1 S.2.1 dX8_hashLine_85 ?_
        refine lv_lstore (lv' := [(4, .long (((31 : Int64) * y4) + x4.toInt64)), (0, .ref (a 0 0)), (3, .int y3), (6, .int y6), (7, .int y7)]) S.1 S.2.1 dX8_hashLine_86 hl (by decide) rfl (fun ls hl => ?_)
        refine lv_iinc (v := y7 + nI 1) (lv' := [(7, .int (y7 + nI 1)), (4, .long (((31 : Int64) * y4) + x4.toInt64)), (0, .ref (a 0 0)), (3, .int y3), (6, .int y6)]) S.1 S.2.1 dX8_hashLine_88 hl (k := 4) rfl (by rw [k_iconst_1]) (by decide) rfl (fun ls hl => ?_)
        refine lv_goto (tgt := 57) S.1 S.2.1 dX8_hashLine_91 (by decide) ?_
        exact ih _ _ _ _ hf _ _ _ (lv_sub hl [2, 3, 1, 4, 0] rfl) hs
  have L42 : ∀ (K42 : Int64 → Option (Int64)) (hK42 : ∀ (y4 : Int64), K42 y4 = some res → qGo p l e rmX8_hashLine s m args below meth c (MQ below (qQl D cI cB cM ad6 a A r0 σ) args s 0 0 (A)) D cI cB cM ad6 a A 0 0 8 σ [(0, .ref (a 0 0)), (4, .long y4)] 100 []) (n : Nat) (y3 : Int32) (y4 : Int64) (y6 : Int32), fX8_hashLine_l42 σ K42 n y3 y4 y6 = some res → qGo p l e rmX8_hashLine s m args below meth c (MQ below (qQl D cI cB cM ad6 a A r0 σ) args s 0 0 (A)) D cI cB cM ad6 a A 0 0 8 σ [(0, .ref (a 0 0)), (3, .int y3), (4, .long y4), (6, .int y6)] 42 [] := by
    intro K42 hK42 n
    induction n with
    | zero =>
      intro y3 y4 y6 hf H locs ls hl hs
      rw [fX8_hashLine_l42] at hf
      cases hf
    | succ n ih =>
      intro y3 y4 y6 hf H locs ls hl hs
      rw [fX8_hashLine_l42] at hf
      refine lv_iload S.1 S.2.1 dX8_hashLine_42 (lv_at hl 3 rfl) ?_
      refine lv_aload_n S.1 S.2.1 dX8_hashLine_44 rfl (lv_at hl 0 rfl) ?_
      refine qgX8_12_0 S K hs dX8_hashLine_45 ?_
      refine qgX8_55_8 S K hs dX8_hashLine_48 ?_
      refine z_icmp_ge (tgt := 100) S hf dX8_hashLine_51 (by decide) (fun hf => ?_) (fun hf => ?_)
      · exact hK42 _ hf _ _ _ (lv_sub hl [0, 2] rfl) hs
      · refine lv_iconst S.1 S.2.1 dX8_hashLine_54 k_iconst_0 ?_
        refine lv_istore (lv' := [(7, .int (nI 0)), (0, .ref (a 0 0)), (3, .int y3), (4, .long y4), (6, .int y6)]) S.1 S.2.1 dX8_hashLine_55 hl (by decide) rfl (fun ls hl => ?_)
        refine L57 _ (fun x5 x6 x7 hf H locs ls hl hs => ?_) _ _ _ _ _ hf _ _ _ (lv_sub hl [1, 2, 3, 4, 0] rfl) hs
        refine lv_iinc (v := x7 + nI 1) (lv' := [(6, .int (x7 + nI 1)), (0, .ref (a 0 0)), (3, .int x5), (4, .long x6)]) S.1 S.2.1 dX8_hashLine_94 hl (k := 3) rfl (by rw [k_iconst_1]) (by decide) rfl (fun ls hl => ?_)
        refine lv_goto (tgt := 42) S.1 S.2.1 dX8_hashLine_97 (by decide) ?_
        exact ih _ _ _ hf _ _ _ (lv_sub hl [1, 2, 3, 0] rfl) hs
  unfold fX8_hashLine at hf
  refine lv_lload_n S.1 S.2.1 dX8_hashLine_0 rfl (lv_at hl 1 rfl) ?_
  refine lv_lstore (lv' := [(4, .long a0), (0, .ref (a 0 0)), (1, .long a0), (3, .int a1)]) S.1 S.2.1 dX8_hashLine_1 hl (by decide) rfl (fun ls hl => ?_)
  refine lv_iconst S.1 S.2.1 dX8_hashLine_3 k_iconst_0 ?_
  refine lv_istore (lv' := [(6, .int (nI 0)), (4, .long a0), (0, .ref (a 0 0)), (1, .long a0), (3, .int a1)]) S.1 S.2.1 dX8_hashLine_4 hl (by decide) rfl (fun ls hl => ?_)
  refine L6 _ (fun x2 x3 hf H locs ls hl hs => ?_) _ _ _ _ hf _ _ _ (lv_sub hl [2, 4, 1, 0] rfl) hs
  refine lv_iconst S.1 S.2.1 dX8_hashLine_39 k_iconst_0 ?_
  refine lv_istore (lv' := [(6, .int (nI 0)), (0, .ref (a 0 0)), (3, .int x2), (4, .long x3)]) S.1 S.2.1 dX8_hashLine_40 hl (by decide) rfl (fun ls hl => ?_)
  refine L42 _ (fun x8 hf H locs ls hl hs => ?_) _ _ _ _ hf _ _ _ (lv_sub hl [1, 2, 3, 0] rfl) hs
  refine lv_lload S.1 S.2.1 dX8_hashLine_100 (lv_at hl 1 rfl) ?_
  exact qrLP S K hr hk hs (hf.trans (congrArg some hres)) dX8_hashLine_102
theorem metX8_hashLine (l : Launch) (D : va_G) (cI : ClassId) (cB cM : ClassId) (ad6 : Nat → Nat) (a : Nat → Nat → Nat) (A : Nat → Prop) (a0 : Int64) (a1 : Int32) (σ : cSt) (r0 : Int64) (hf : fX8_hashLine a0 a1 σ = some r0) : Met l yX8_hashLine (Cond.code yX8_hashLine cX8_hashLine 8 (some .long) :: WA) rmX8_hashLine (qPc D cI cB cM ad6 a A σ [.ref (a 0 0), .long a0, .int a1]) ((qQl D cI cB cM ad6 a A r0 σ)) 0 0 (A) :=
  qMet (by decide) (Nat.le_of_ble_eq_true rfl) (fun p e s m args below meth c H locs ls S K hr hk hl hs => bdX8_hashLine S K hr hk _ _ _ _ hf hl hs)
set_option maxHeartbeats 4000000 in
set_option maxRecDepth 100000 in
theorem bdX8_digest {p : Program} {l : Launch} {e : Env} {s : State} {m : MethodId} {args : Array Value} {below : List Frame} {meth : Method} {c : Code} {H : Heap} {locs : List Loc} {ls : Array Slot} {D : va_G} {cI : ClassId} {cB cM : ClassId} {ad6 : Nat → Nat} {a : Nat → Nat → Nat} {A : Nat → Prop} (S : CallFix p m c cX8_digest 5 s args WA RX8) (K : qK D cI cB cM ad6 A s) (hr : meth.sig.returnType = (some .long)) (hk : meth.locks = false) (σ : cSt) (r0 : Int64) (hf : fX8_digest σ = some r0) (hl : lv_has ls 5 [(0, .ref (a 0 0))]) (hs : qS D cI cB cM ad6 a A s σ H locs) : W p l e rmX8_digest s m args below meth c H locs 0 0 (MQ below (qQl D cI cB cM ad6 a A r0 σ) args s 0 0 (A)) (F0 m 0 ls []) := by
  obtain ⟨res, hres⟩ : ∃ q, q = r0 := ⟨_, rfl⟩
  rw [← hres] at hf
  have L12 : ∀ (K12 : Int64 → Option (Int64)) (hK12 : ∀ (y1 : Int64), K12 y1 = some res → qGo p l e rmX8_digest s m args below meth c (MQ below (qQl D cI cB cM ad6 a A r0 σ) args s 0 0 (A)) D cI cB cM ad6 a A 0 0 5 σ [(0, .ref (a 0 0)), (1, .long y1)] 40 []) (n : Nat) (y1 : Int64) (y3 : Int32), fX8_digest_l12 σ K12 n y1 y3 = some res → qGo p l e rmX8_digest s m args below meth c (MQ below (qQl D cI cB cM ad6 a A r0 σ) args s 0 0 (A)) D cI cB cM ad6 a A 0 0 5 σ [(0, .ref (a 0 0)), (1, .long y1), (3, .int y3)] 12 [] := by
    intro K12 hK12 n
    induction n with
    | zero =>
      intro y1 y3 hf H locs ls hl hs
      rw [fX8_digest_l12] at hf
      cases hf
    | succ n ih =>
      intro y1 y3 hf H locs ls hl hs
      rw [fX8_digest_l12] at hf
      refine lv_iload_n S.1 S.2.1 dX8_digest_12 rfl (lv_at hl 2 rfl) ?_
      refine lv_bipush S.1 S.2.1 dX8_digest_13 k_bipush_14 ?_
      refine z_icmp_ge (tgt := 40) S hf dX8_digest_15 (by decide) (fun hf => ?_) (fun hf => ?_)
      · exact hK12 _ hf _ _ _ (lv_sub hl [0, 1] rfl) hs
      · refine lv_ldc2 (v := 31) S.1 S.2.1 S.2.2.2.1 (S.2.2.2.2 _ (z_in0 _ (List.mem_of_getElem? (i := 455) (by decide +kernel)))) dX8_digest_18 ?_
        refine lv_lload_n S.1 S.2.1 dX8_digest_21 rfl (lv_at hl 1 rfl) ?_
        refine lv_lmul S.1 S.2.1 dX8_digest_22 ?_
        refine lv_aload_n S.1 S.2.1 dX8_digest_23 rfl (lv_at hl 0 rfl) ?_
        refine qgX8_12_0 S K hs dX8_digest_24 ?_
        refine lv_iload_n S.1 S.2.1 dX8_digest_27 rfl (lv_at hl 2 rfl) ?_
        refine qgP0 (qV8 K hs) S K hs hl.1 hf (fun _ hX => metX4_number _ _ _ _ _ _ _ hX) (cwX8_149 S.2.2.2.2 ⟨Nat.le_of_ble_eq_true rfl, Nat.le_of_ble_eq_true rfl⟩) rfl dX8_digest_28 rfl (Nat.le_of_ble_eq_true rfl) ⟨Nat.le_of_ble_eq_true rfl, Nat.le_of_ble_eq_true rfl⟩ (fun x1 H locs hs hf => ?_)
        refine lv_i2l S.1 S.2.1 dX8_digest_31 rfl ?_
        refine lv_ladd S.1 S.2.1 dX8_digest_32 ?_
        refine lv_lstore_n (lv' := [(1, .long (((31 : Int64) * y1) + x1.toInt64)), (0, .ref (a 0 0)), (3, .int y3)]) S.1 S.2.1 dX8_digest_33 rfl hl (by decide) rfl (fun ls hl => ?_)
        refine lv_iinc (v := y3 + nI 1) (lv' := [(3, .int (y3 + nI 1)), (1, .long (((31 : Int64) * y1) + x1.toInt64)), (0, .ref (a 0 0))]) S.1 S.2.1 dX8_digest_34 hl (k := 2) rfl (by rw [k_iconst_1]) (by decide) rfl (fun ls hl => ?_)
        refine lv_goto (tgt := 12) S.1 S.2.1 dX8_digest_37 (by decide) ?_
        exact ih _ _ hf _ _ _ (lv_sub hl [2, 1, 0] rfl) hs
  have L42 : ∀ (K42 : Int64 → Option (Int64)) (hK42 : ∀ (y1 : Int64), K42 y1 = some res → qGo p l e rmX8_digest s m args below meth c (MQ below (qQl D cI cB cM ad6 a A r0 σ) args s 0 0 (A)) D cI cB cM ad6 a A 0 0 5 σ [(0, .ref (a 0 0)), (1, .long y1)] 61 []) (n : Nat) (y1 : Int64) (y3 : Int32), fX8_digest_l42 σ K42 n y1 y3 = some res → qGo p l e rmX8_digest s m args below meth c (MQ below (qQl D cI cB cM ad6 a A r0 σ) args s 0 0 (A)) D cI cB cM ad6 a A 0 0 5 σ [(0, .ref (a 0 0)), (1, .long y1), (3, .int y3)] 42 [] := by
    intro K42 hK42 n
    induction n with
    | zero =>
      intro y1 y3 hf H locs ls hl hs
      rw [fX8_digest_l42] at hf
      cases hf
    | succ n ih =>
      intro y1 y3 hf H locs ls hl hs
      rw [fX8_digest_l42] at hf
      refine lv_iload_n S.1 S.2.1 dX8_digest_42 rfl (lv_at hl 2 rfl) ?_
      refine lv_bipush S.1 S.2.1 dX8_digest_43 k_bipush_32 ?_
      refine z_icmp_ge (tgt := 61) S hf dX8_digest_45 (by decide) (fun hf => ?_) (fun hf => ?_)
      · exact hK42 _ hf _ _ _ (lv_sub hl [0, 1] rfl) hs
      · refine lv_aload_n S.1 S.2.1 dX8_digest_48 rfl (lv_at hl 0 rfl) ?_
        refine lv_lload_n S.1 S.2.1 dX8_digest_49 rfl (lv_at hl 1 rfl) ?_
        refine lv_iload_n S.1 S.2.1 dX8_digest_50 rfl (lv_at hl 2 rfl) ?_
        refine qcL (qV0 K hs) S K hs hl.1 hf (fun _ hX => metX8_hashLine _ _ _ _ _ _ _ _ _ _ _ _ hX) (cwX8_202 S.2.2.2.2 ⟨Nat.le_of_ble_eq_true rfl, Nat.le_of_ble_eq_true rfl⟩) rfl dX8_digest_51 rfl (Nat.le_of_ble_eq_true rfl) ⟨Nat.le_of_ble_eq_true rfl, Nat.le_of_ble_eq_true rfl⟩ (fun x3 H locs hs hf => ?_)
        refine lv_lstore_n (lv' := [(1, .long x3), (0, .ref (a 0 0)), (3, .int y3)]) S.1 S.2.1 dX8_digest_54 rfl hl (by decide) rfl (fun ls hl => ?_)
        refine lv_iinc (v := y3 + nI 1) (lv' := [(3, .int (y3 + nI 1)), (1, .long x3), (0, .ref (a 0 0))]) S.1 S.2.1 dX8_digest_55 hl (k := 2) rfl (by rw [k_iconst_1]) (by decide) rfl (fun ls hl => ?_)
        refine lv_goto (tgt := 42) S.1 S.2.1 dX8_digest_58 (by decide) ?_
        exact ih _ _ hf _ _ _ (lv_sub hl [2, 1, 0] rfl) hs
  have L77 : ∀ (K77 : Int64 → Int32 → Option (Int64)) (hK77 : ∀ (y1 : Int64) (y3 : Int32), K77 y1 y3 = some res → qGo p l e rmX8_digest s m args below meth c (MQ below (qQl D cI cB cM ad6 a A r0 σ) args s 0 0 (A)) D cI cB cM ad6 a A 0 0 5 σ [(0, .ref (a 0 0)), (1, .long y1), (3, .int y3)] 110 []) (n : Nat) (y1 : Int64) (y3 : Int32) (y4 : Int32), fX8_digest_l77 σ K77 n y1 y3 y4 = some res → qGo p l e rmX8_digest s m args below meth c (MQ below (qQl D cI cB cM ad6 a A r0 σ) args s 0 0 (A)) D cI cB cM ad6 a A 0 0 5 σ [(0, .ref (a 0 0)), (1, .long y1), (3, .int y3), (4, .int y4)] 77 [] := by
    intro K77 hK77 n
    induction n with
    | zero =>
      intro y1 y3 y4 hf H locs ls hl hs
      rw [fX8_digest_l77] at hf
      cases hf
    | succ n ih =>
      intro y1 y3 y4 hf H locs ls hl hs
      rw [fX8_digest_l77] at hf
      refine lv_iload S.1 S.2.1 dX8_digest_77 (lv_at hl 3 rfl) ?_
      refine lv_iconst S.1 S.2.1 dX8_digest_79 k_iconst_3 ?_
      refine z_icmp_ge (tgt := 110) S hf dX8_digest_80 (by decide) (fun hf => ?_) (fun hf => ?_)
      · exact hK77 _ _ hf _ _ _ (lv_sub hl [0, 1, 2] rfl) hs
      · refine lv_ldc2 (v := 31) S.1 S.2.1 S.2.2.2.1 (S.2.2.2.2 _ (z_in0 _ (List.mem_of_getElem? (i := 455) (by decide +kernel)))) dX8_digest_83 ?_
        refine lv_lload_n S.1 S.2.1 dX8_digest_86 rfl (lv_at hl 1 rfl) ?_
        refine lv_lmul S.1 S.2.1 dX8_digest_87 ?_
        refine lv_aload_n S.1 S.2.1 dX8_digest_88 rfl (lv_at hl 0 rfl) ?_
        refine qgX8_12_0 S K hs dX8_digest_89 ?_
        refine qgX8_62_8 S K hs dX8_digest_92 ?_
        refine lv_iload_n S.1 S.2.1 dX8_digest_95 rfl (lv_at hl 2 rfl) ?_
        refine lv_iload S.1 S.2.1 dX8_digest_96 (lv_at hl 3 rfl) ?_
        refine qgP0 (qV18 K hs) S K hs hl.1 hf (fun _ hX => metX7_fact _ _ _ _ _ _ _ _ hX) (cwX8_137 S.2.2.2.2 ⟨Nat.le_of_ble_eq_true rfl, Nat.le_of_ble_eq_true rfl⟩) rfl dX8_digest_98 rfl (Nat.le_of_ble_eq_true rfl) ⟨Nat.le_of_ble_eq_true rfl, Nat.le_of_ble_eq_true rfl⟩ (fun x5 H locs hs hf => ?_)
        refine lv_i2l S.1 S.2.1 dX8_digest_101 rfl ?_
        refine lv_ladd S.1 S.2.1 dX8_digest_102 ?_
        refine lv_lstore_n (lv' := [(1, .long (((31 : Int64) * y1) + x5.toInt64)), (0, .ref (a 0 0)), (3, .int y3), (4, .int y4)]) S.1 S.2.1 dX8_digest_103 rfl hl (by decide) rfl (fun ls hl => ?_)
        refine lv_iinc (v := y4 + nI 1) (lv' := [(4, .int (y4 + nI 1)), (1, .long (((31 : Int64) * y1) + x5.toInt64)), (0, .ref (a 0 0)), (3, .int y3)]) S.1 S.2.1 dX8_digest_104 hl (k := 3) rfl (by rw [k_iconst_1]) (by decide) rfl (fun ls hl => ?_)
        refine lv_goto (tgt := 77) S.1 S.2.1 dX8_digest_107 (by decide) ?_
        exact ih _ _ _ hf _ _ _ (lv_sub hl [2, 1, 3, 0] rfl) hs
  have L63 : ∀ (K63 : Int64 → Option (Int64)) (hK63 : ∀ (y1 : Int64), K63 y1 = some res → qGo p l e rmX8_digest s m args below meth c (MQ below (qQl D cI cB cM ad6 a A r0 σ) args s 0 0 (A)) D cI cB cM ad6 a A 0 0 5 σ [(0, .ref (a 0 0)), (1, .long y1)] 116 []) (n : Nat) (y1 : Int64) (y3 : Int32), fX8_digest_l63 σ K63 n y1 y3 = some res → qGo p l e rmX8_digest s m args below meth c (MQ below (qQl D cI cB cM ad6 a A r0 σ) args s 0 0 (A)) D cI cB cM ad6 a A 0 0 5 σ [(0, .ref (a 0 0)), (1, .long y1), (3, .int y3)] 63 [] := by
    intro K63 hK63 n
    induction n with
    | zero =>
      intro y1 y3 hf H locs ls hl hs
      rw [fX8_digest_l63] at hf
      cases hf
    | succ n ih =>
      intro y1 y3 hf H locs ls hl hs
      rw [fX8_digest_l63] at hf
      refine lv_iload_n S.1 S.2.1 dX8_digest_63 rfl (lv_at hl 2 rfl) ?_
      refine lv_aload_n S.1 S.2.1 dX8_digest_64 rfl (lv_at hl 0 rfl) ?_
      refine qgX8_12_0 S K hs dX8_digest_65 ?_
      refine qgX8_55_8 S K hs dX8_digest_68 ?_
      refine z_icmp_ge (tgt := 116) S hf dX8_digest_71 (by decide) (fun hf => ?_) (fun hf => ?_)
      · exact hK63 _ hf _ _ _ (lv_sub hl [0, 1] rfl) hs
      · refine lv_iconst S.1 S.2.1 dX8_digest_74 k_iconst_0 ?_
        refine lv_istore (lv' := [(4, .int (nI 0)), (0, .ref (a 0 0)), (1, .long y1), (3, .int y3)]) S.1 S.2.1 dX8_digest_75 hl (by decide) rfl (fun ls hl => ?_)
        refine L77 _ (fun x6 x7 hf H locs ls hl hs => ?_) _ _ _ _ hf _ _ _ (lv_sub hl [1, 2, 3, 0] rfl) hs
        refine lv_iinc (v := x7 + nI 1) (lv' := [(3, .int (x7 + nI 1)), (0, .ref (a 0 0)), (1, .long x6)]) S.1 S.2.1 dX8_digest_110 hl (k := 2) rfl (by rw [k_iconst_1]) (by decide) rfl (fun ls hl => ?_)
        refine lv_goto (tgt := 63) S.1 S.2.1 dX8_digest_113 (by decide) ?_
        exact ih _ _ hf _ _ _ (lv_sub hl [1, 2, 0] rfl) hs
  have L135 : ∀ (K135 : Int64 → Int32 → Option (Int64)) (hK135 : ∀ (y1 : Int64) (y3 : Int32), K135 y1 y3 = some res → qGo p l e rmX8_digest s m args below meth c (MQ below (qQl D cI cB cM ad6 a A r0 σ) args s 0 0 (A)) D cI cB cM ad6 a A 0 0 5 σ [(0, .ref (a 0 0)), (1, .long y1), (3, .int y3)] 169 []) (n : Nat) (y1 : Int64) (y3 : Int32) (y4 : Int32), fX8_digest_l135 σ K135 n y1 y3 y4 = some res → qGo p l e rmX8_digest s m args below meth c (MQ below (qQl D cI cB cM ad6 a A r0 σ) args s 0 0 (A)) D cI cB cM ad6 a A 0 0 5 σ [(0, .ref (a 0 0)), (1, .long y1), (3, .int y3), (4, .int y4)] 135 [] := by
    intro K135 hK135 n
    induction n with
    | zero =>
      intro y1 y3 y4 hf H locs ls hl hs
      rw [fX8_digest_l135] at hf
      cases hf
    | succ n ih =>
      intro y1 y3 y4 hf H locs ls hl hs
      rw [fX8_digest_l135] at hf
      refine lv_iload S.1 S.2.1 dX8_digest_135 (lv_at hl 3 rfl) ?_
      refine lv_bipush S.1 S.2.1 dX8_digest_137 k_bipush_6 ?_
      refine z_icmp_ge (tgt := 169) S hf dX8_digest_139 (by decide) (fun hf => ?_) (fun hf => ?_)
      · exact hK135 _ _ hf _ _ _ (lv_sub hl [0, 1, 2] rfl) hs
      · refine lv_ldc2 (v := 31) S.1 S.2.1 S.2.2.2.1 (S.2.2.2.2 _ (z_in0 _ (List.mem_of_getElem? (i := 455) (by decide +kernel)))) dX8_digest_142 ?_
        refine lv_lload_n S.1 S.2.1 dX8_digest_145 rfl (lv_at hl 1 rfl) ?_
        refine lv_lmul S.1 S.2.1 dX8_digest_146 ?_
        refine lv_aload_n S.1 S.2.1 dX8_digest_147 rfl (lv_at hl 0 rfl) ?_
        refine qgX8_12_0 S K hs dX8_digest_148 ?_
        refine qgX8_139_8 S K hs dX8_digest_151 ?_
        refine lv_iload_n S.1 S.2.1 dX8_digest_154 rfl (lv_at hl 2 rfl) ?_
        refine lv_iload S.1 S.2.1 dX8_digest_155 (lv_at hl 3 rfl) ?_
        refine qgP0 (qV22 K hs) S K hs hl.1 hf (fun _ hX => metX3_fact _ _ _ _ _ _ _ _ hX) (cwX8_148 S.2.2.2.2 ⟨Nat.le_of_ble_eq_true rfl, Nat.le_of_ble_eq_true rfl⟩) rfl dX8_digest_157 rfl (Nat.le_of_ble_eq_true rfl) ⟨Nat.le_of_ble_eq_true rfl, Nat.le_of_ble_eq_true rfl⟩ (fun x9 H locs hs hf => ?_)
        refine lv_i2l S.1 S.2.1 dX8_digest_160 rfl ?_
        refine lv_ladd S.1 S.2.1 dX8_digest_161 ?_
        refine lv_lstore_n (lv' := [(1, .long (((31 : Int64) * y1) + x9.toInt64)), (0, .ref (a 0 0)), (3, .int y3), (4, .int y4)]) S.1 S.2.1 dX8_digest_162 rfl hl (by decide) rfl (fun ls hl => ?_)
        refine lv_iinc (v := y4 + nI 1) (lv' := [(4, .int (y4 + nI 1)), (1, .long (((31 : Int64) * y1) + x9.toInt64)), (0, .ref (a 0 0)), (3, .int y3)]) S.1 S.2.1 dX8_digest_163 hl (k := 3) rfl (by rw [k_iconst_1]) (by decide) rfl (fun ls hl => ?_)
        refine lv_goto (tgt := 135) S.1 S.2.1 dX8_digest_166 (by decide) ?_
        exact ih _ _ _ hf _ _ _ (lv_sub hl [2, 1, 3, 0] rfl) hs
  have L118 : ∀ (K118 : Int64 → Option (Int64)) (hK118 : ∀ (y1 : Int64), K118 y1 = some res → qGo p l e rmX8_digest s m args below meth c (MQ below (qQl D cI cB cM ad6 a A r0 σ) args s 0 0 (A)) D cI cB cM ad6 a A 0 0 5 σ [(0, .ref (a 0 0)), (1, .long y1)] 175 []) (n : Nat) (y1 : Int64) (y3 : Int32), fX8_digest_l118 σ K118 n y1 y3 = some res → qGo p l e rmX8_digest s m args below meth c (MQ below (qQl D cI cB cM ad6 a A r0 σ) args s 0 0 (A)) D cI cB cM ad6 a A 0 0 5 σ [(0, .ref (a 0 0)), (1, .long y1), (3, .int y3)] 118 [] := by
    intro K118 hK118 n
    induction n with
    | zero =>
      intro y1 y3 hf H locs ls hl hs
      rw [fX8_digest_l118] at hf
      cases hf
    | succ n ih =>
      intro y1 y3 hf H locs ls hl hs
      rw [fX8_digest_l118] at hf
      refine lv_iload_n S.1 S.2.1 dX8_digest_118 rfl (lv_at hl 2 rfl) ?_
      refine lv_aload_n S.1 S.2.1 dX8_digest_119 rfl (lv_at hl 0 rfl) ?_
      refine qgX8_12_0 S K hs dX8_digest_120 ?_
      refine qgX8_139_8 S K hs dX8_digest_123 ?_
      refine qgX8_143_22 S K hs dX8_digest_126 ?_
      refine z_icmp_ge (tgt := 175) S hf dX8_digest_129 (by decide) (fun hf => ?_) (fun hf => ?_)
      · exact hK118 _ hf _ _ _ (lv_sub hl [0, 1] rfl) hs
      · refine lv_iconst S.1 S.2.1 dX8_digest_132 k_iconst_0 ?_
        refine lv_istore (lv' := [(4, .int (nI 0)), (0, .ref (a 0 0)), (1, .long y1), (3, .int y3)]) S.1 S.2.1 dX8_digest_133 hl (by decide) rfl (fun ls hl => ?_)
        refine L135 _ (fun x10 x11 hf H locs ls hl hs => ?_) _ _ _ _ hf _ _ _ (lv_sub hl [1, 2, 3, 0] rfl) hs
        refine lv_iinc (v := x11 + nI 1) (lv' := [(3, .int (x11 + nI 1)), (0, .ref (a 0 0)), (1, .long x10)]) S.1 S.2.1 dX8_digest_169 hl (k := 2) rfl (by rw [k_iconst_1]) (by decide) rfl (fun ls hl => ?_)
        refine lv_goto (tgt := 118) S.1 S.2.1 dX8_digest_172 (by decide) ?_
        exact ih _ _ hf _ _ _ (lv_sub hl [1, 2, 0] rfl) hs
  unfold fX8_digest at hf
  refine lv_ldc2 (v := 113987) S.1 S.2.1 S.2.2.2.1 (S.2.2.2.2 _ (z_in0 _ (List.mem_of_getElem? (i := 454) (by decide +kernel)))) dX8_digest_0 ?_
  refine lv_aload_n S.1 S.2.1 dX8_digest_3 rfl (lv_at hl 0 rfl) ?_
  refine qgX8_34_0 S K hs dX8_digest_4 ?_
  refine lv_i2l S.1 S.2.1 dX8_digest_7 rfl ?_
  refine lv_ladd S.1 S.2.1 dX8_digest_8 ?_
  refine lv_lstore_n (lv' := [(1, .long ((113987 : Int64) + ((σ 7 0 0).toInt64))), (0, .ref (a 0 0))]) S.1 S.2.1 dX8_digest_9 rfl hl (by decide) rfl (fun ls hl => ?_)
  refine lv_iconst S.1 S.2.1 dX8_digest_10 k_iconst_0 ?_
  refine lv_istore_n (lv' := [(3, .int (nI 0)), (1, .long ((113987 : Int64) + ((σ 7 0 0).toInt64))), (0, .ref (a 0 0))]) S.1 S.2.1 dX8_digest_11 rfl hl (by decide) rfl (fun ls hl => ?_)
  refine L12 _ (fun x2 hf H locs ls hl hs => ?_) _ _ _ hf _ _ _ (lv_sub hl [2, 1, 0] rfl) hs
  refine lv_iconst S.1 S.2.1 dX8_digest_40 k_iconst_0 ?_
  refine lv_istore_n (lv' := [(3, .int (nI 0)), (0, .ref (a 0 0)), (1, .long x2)]) S.1 S.2.1 dX8_digest_41 rfl hl (by decide) rfl (fun ls hl => ?_)
  refine L42 _ (fun x4 hf H locs ls hl hs => ?_) _ _ _ hf _ _ _ (lv_sub hl [1, 2, 0] rfl) hs
  refine lv_iconst S.1 S.2.1 dX8_digest_61 k_iconst_0 ?_
  refine lv_istore_n (lv' := [(3, .int (nI 0)), (0, .ref (a 0 0)), (1, .long x4)]) S.1 S.2.1 dX8_digest_62 rfl hl (by decide) rfl (fun ls hl => ?_)
  refine L63 _ (fun x8 hf H locs ls hl hs => ?_) _ _ _ hf _ _ _ (lv_sub hl [1, 2, 0] rfl) hs
  refine lv_iconst S.1 S.2.1 dX8_digest_116 k_iconst_0 ?_
  refine lv_istore_n (lv' := [(3, .int (nI 0)), (0, .ref (a 0 0)), (1, .long x8)]) S.1 S.2.1 dX8_digest_117 rfl hl (by decide) rfl (fun ls hl => ?_)
  refine L118 _ (fun x12 hf H locs ls hl hs => ?_) _ _ _ hf _ _ _ (lv_sub hl [1, 2, 0] rfl) hs
  refine lv_ldc2 (v := 31) S.1 S.2.1 S.2.2.2.1 (S.2.2.2.2 _ (z_in0 _ (List.mem_of_getElem? (i := 455) (by decide +kernel)))) dX8_digest_175 ?_
  refine lv_lload_n S.1 S.2.1 dX8_digest_178 rfl (lv_at hl 1 rfl) ?_
  refine lv_lmul S.1 S.2.1 dX8_digest_179 ?_
  refine lv_aload_n S.1 S.2.1 dX8_digest_180 rfl (lv_at hl 0 rfl) ?_
  refine qgX8_12_0 S K hs dX8_digest_181 ?_
  refine qgX8_114_8 S K hs dX8_digest_184 ?_
  refine qgP0 (qV16 K hs) S K hs hl.1 hf (fun _ hX => metX1_lineToTear _ _ _ _ _ _ hX) (cwX8_156 S.2.2.2.2 ⟨Nat.le_of_ble_eq_true rfl, Nat.le_of_ble_eq_true rfl⟩) rfl dX8_digest_187 rfl (Nat.le_of_ble_eq_true rfl) ⟨Nat.le_of_ble_eq_true rfl, Nat.le_of_ble_eq_true rfl⟩ (fun x13 H locs hs hf => ?_)
  refine lv_i2l S.1 S.2.1 dX8_digest_190 rfl ?_
  refine lv_ladd S.1 S.2.1 dX8_digest_191 ?_
  refine lv_lstore_n (lv' := [(1, .long (((31 : Int64) * x12) + x13.toInt64)), (0, .ref (a 0 0))]) S.1 S.2.1 dX8_digest_192 rfl hl (by decide) rfl (fun ls hl => ?_)
  refine lv_ldc2 (v := 31) S.1 S.2.1 S.2.2.2.1 (S.2.2.2.2 _ (z_in0 _ (List.mem_of_getElem? (i := 455) (by decide +kernel)))) dX8_digest_193 ?_
  refine lv_lload_n S.1 S.2.1 dX8_digest_196 rfl (lv_at hl 0 rfl) ?_
  refine lv_lmul S.1 S.2.1 dX8_digest_197 ?_
  refine lv_aload_n S.1 S.2.1 dX8_digest_198 rfl (lv_at hl 1 rfl) ?_
  refine qgX8_26_0 S K hs dX8_digest_199 ?_
  refine qgX8_194_1 S K hs dX8_digest_202 ?_
  refine lv_i2l S.1 S.2.1 dX8_digest_205 rfl ?_
  refine lv_ladd S.1 S.2.1 dX8_digest_206 ?_
  exact qrLP S K hr hk hs (hf.trans (congrArg some hres)) dX8_digest_207
theorem metX8_digest (l : Launch) (D : va_G) (cI : ClassId) (cB cM : ClassId) (ad6 : Nat → Nat) (a : Nat → Nat → Nat) (A : Nat → Prop) (σ : cSt) (r0 : Int64) (hf : fX8_digest σ = some r0) : Met l yX8_digest (Cond.code yX8_digest cX8_digest 5 (some .long) :: WA) rmX8_digest (qPc D cI cB cM ad6 a A σ [.ref (a 0 0)]) ((qQl D cI cB cM ad6 a A r0 σ)) 0 0 (A) :=
  qMet (by decide) (Nat.le_of_ble_eq_true rfl) (fun p e s m args below meth c H locs ls S K hr hk hl hs => bdX8_digest S K hr hk  _ _ hf hl hs)
