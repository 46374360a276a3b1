/-! the reference: contracts (by wip/tools/walk.py) -/
set_option maxHeartbeats 4000000 in
set_option maxRecDepth 100000 in
theorem bdX9_in {p : Program} {l : Launch} {e : Env} {s : State} {m : MethodId} {args : Array Value} {below : List Frame} {meth : Method} {c : Code} {H : Heap} {locs : List Loc} {ls : Array Slot} {D : va_G} {cI : ClassId} {h : Nat} {ad : Nat → Nat} (S : CallFix p m c cX9_in 3 s args WA RX9) (K : va_K D vwCl [(cI, .int)] s) (hr : meth.sig.returnType = (some .boolean)) (hk : meth.locks = false) (a0 : Int32) (a1 : Int32) (a2 : Int32) (σ : zSt) (r0 : Int32) (hf : fX9_in a0 a1 a2 σ = some r0) (hl : lv_has ls 3 [(0, .int a0), (1, .int a1), (2, .int a2)]) (hs : mS D cI h ad s σ H locs) : W p l e rmX9_in s m args below meth c H locs 0 0 (MQ below (mQi D cI h ad r0 σ) args s 0 0 (mA h ad)) (F0 m 0 ls []) := by
  unfold fX9_in at hf
  refine lv_iload_n S.1 S.2.1 dX9_in_0 rfl (lv_at hl 0 rfl) ?_
  refine lv_iload_n S.1 S.2.1 dX9_in_1 rfl (lv_at hl 1 rfl) ?_
  refine z_icmp_lt (tgt := 14) S hf dX9_in_2 (by decide) (fun hf => ?_) (fun hf => ?_)
  · refine lv_iconst S.1 S.2.1 dX9_in_14 k_iconst_0 ?_
    exact mrB S K hr hk hs hf dX9_in_15
  · refine lv_iload_n S.1 S.2.1 dX9_in_5 rfl (lv_at hl 0 rfl) ?_
    refine lv_iload_n S.1 S.2.1 dX9_in_6 rfl (lv_at hl 2 rfl) ?_
    refine z_icmp_gt (tgt := 14) S hf dX9_in_7 (by decide) (fun hf => ?_) (fun hf => ?_)
    · refine lv_iconst S.1 S.2.1 dX9_in_14 k_iconst_0 ?_
      exact mrB S K hr hk hs hf dX9_in_15
    · refine lv_iconst S.1 S.2.1 dX9_in_10 k_iconst_1 ?_
      refine lv_goto (tgt := 15) S.1 S.2.1 dX9_in_11 (by decide) ?_
      exact mrB S K hr hk hs hf dX9_in_15
theorem metX9_in (l : Launch) (D : va_G) (cI : ClassId) (h : Nat) (ad : Nat → Nat) (a0 : Int32) (a1 : Int32) (a2 : Int32) (σ : zSt) (r0 : Int32) (hf : fX9_in a0 a1 a2 σ = some r0) : Met l yX9_in (Cond.code yX9_in cX9_in 3 (some .boolean) :: WA) rmX9_in (mPc D cI h ad σ [.int a0, .int a1, .int a2]) ((mQi D cI h ad r0 σ)) 0 0 (mA h ad) :=
  mMet (by decide) (Nat.le_of_ble_eq_true rfl) (fun p e s m args below meth c H locs ls S K hr hk hl hs => bdX9_in S K hr hk _ _ _ _ _ hf hl hs)
set_option maxHeartbeats 4000000 in
set_option maxRecDepth 100000 in
theorem bdX9_fails {p : Program} {l : Launch} {e : Env} {s : State} {m : MethodId} {args : Array Value} {below : List Frame} {meth : Method} {c : Code} {H : Heap} {locs : List Loc} {ls : Array Slot} {D : va_G} {cI : ClassId} {h : Nat} {ad : Nat → Nat} (S : CallFix p m c cX9_fails 2 s args WA RX9) (K : va_K D vwCl [(cI, .int)] s) (hr : meth.sig.returnType = (some .int)) (hk : meth.locks = false) (a0 : Int32) (σ : zSt) (r0 : Int32) (σ0 : zSt) (hf : fX9_fails a0 σ = some (r0, σ0)) (hl : lv_has ls 2 [(0, .ref h), (1, .int a0)]) (hs : mS D cI h ad s σ H locs) : W p l e rmX9_fails s m args below meth c H locs 0 0 (MQ below (mQi D cI h ad r0 σ0) args s 0 0 (mA h ad)) (F0 m 0 ls []) := by
  unfold fX9_fails at hf
  refine lv_aload_n S.1 S.2.1 dX9_fails_0 rfl (lv_at hl 0 rfl) ?_
  refine lv_iload_n S.1 S.2.1 dX9_fails_1 rfl (lv_at hl 1 rfl) ?_
  refine mp29 S K hs hf dX9_fails_2 (fun σ1 H locs hs hf => ?_)
  refine lv_iconst S.1 S.2.1 dX9_fails_5 k_iconst_0 ?_
  exact mrI S K hr hk hs hf dX9_fails_6
theorem metX9_fails (l : Launch) (D : va_G) (cI : ClassId) (h : Nat) (ad : Nat → Nat) (a0 : Int32) (σ : zSt) (r0 : Int32) (σ0 : zSt) (hf : fX9_fails a0 σ = some (r0, σ0)) : Met l yX9_fails (Cond.code yX9_fails cX9_fails 2 (some .int) :: WA) rmX9_fails (mPc D cI h ad σ [.ref h, .int a0]) ((mQi D cI h ad r0 σ0)) 0 0 (mA h ad) :=
  mMet (by decide) (Nat.le_of_ble_eq_true rfl) (fun p e s m args below meth c H locs ls S K hr hk hl hs => bdX9_fails S K hr hk _ _ _ _ hf hl hs)
set_option maxHeartbeats 4000000 in
set_option maxRecDepth 100000 in
theorem bdX9_append {p : Program} {l : Launch} {e : Env} {s : State} {m : MethodId} {args : Array Value} {below : List Frame} {meth : Method} {c : Code} {H : Heap} {locs : List Loc} {ls : Array Slot} {D : va_G} {cI : ClassId} {h : Nat} {ad : Nat → Nat} (S : CallFix p m c cX9_append 2 s args WA RX9) (K : va_K D vwCl [(cI, .int)] s) (hr : meth.sig.returnType = (some .int)) (hk : meth.locks = false) (a0 : Int32) (σ : zSt) (r0 : Int32) (σ0 : zSt) (hf : fX9_append a0 σ = some (r0, σ0)) (hl : lv_has ls 2 [(0, .ref h), (1, .int a0)]) (hs : mS D cI h ad s σ H locs) : W p l e rmX9_append s m args below meth c H locs 0 0 (MQ below (mQi D cI h ad r0 σ0) args s 0 0 (mA h ad)) (F0 m 0 ls []) := by
  unfold fX9_append at hf
  refine lv_aload_n S.1 S.2.1 dX9_append_0 rfl (lv_at hl 0 rfl) ?_
  refine lv_iconst S.1 S.2.1 dX9_append_1 k_iconst_0 ?_
  refine mp29 S K hs hf dX9_append_2 (fun σ1 H locs hs hf => ?_)
  refine lv_iload_n S.1 S.2.1 dX9_append_5 rfl (lv_at hl 1 rfl) ?_
  refine lv_iconst S.1 S.2.1 dX9_append_6 k_iconst_0 ?_
  refine lv_bipush S.1 S.2.1 dX9_append_7 k_bipush_127 ?_
  refine mcT S K hs hl.1 hf (fun _ hX => metX9_in _ _ _ _ _ _ _ _ _ _ hX) (cwX9_36 S.2.2.2.2 ⟨Nat.le_of_ble_eq_true rfl, Nat.le_of_ble_eq_true rfl⟩) rfl dX9_append_9 rfl (Nat.le_of_ble_eq_true rfl) ⟨Nat.le_refl _, Nat.le_refl _⟩ (fun x2 H locs hs hf => ?_)
  refine z_if_ne (tgt := 21) S hf dX9_append_12 (by decide) (fun hf => ?_) (fun hf => ?_)
  · refine lv_aload_n S.1 S.2.1 dX9_append_21 rfl (lv_at hl 0 rfl) ?_
    refine mg145 S K hs dX9_append_22 ?_
    refine lv_bipush S.1 S.2.1 dX9_append_25 k_bipush_100 ?_
    refine z_icmp_ne (tgt := 36) S hf dX9_append_27 (by decide) (fun hf => ?_) (fun hf => ?_)
    · refine lv_aload_n S.1 S.2.1 dX9_append_36 rfl (lv_at hl 0 rfl) ?_
      refine mg19 S K hs dX9_append_37 ?_
      refine lv_aload_n S.1 S.2.1 dX9_append_40 rfl (lv_at hl 0 rfl) ?_
      refine mg145 S K hs dX9_append_41 ?_
      refine lv_iload_n S.1 S.2.1 dX9_append_44 rfl (lv_at hl 1 rfl) ?_
      refine mst3 S K hs hf dX9_append_45 (fun σ3 H locs hs hf => ?_)
      refine lv_aload_n S.1 S.2.1 dX9_append_46 rfl (lv_at hl 0 rfl) ?_
      refine lv_dup S.1 S.2.1 dX9_append_47 rfl ?_
      refine mg145 S K hs dX9_append_48 ?_
      refine lv_iconst S.1 S.2.1 dX9_append_51 k_iconst_1 ?_
      refine lv_iadd S.1 S.2.1 dX9_append_52 ?_
      refine mp145 S K hs hf dX9_append_53 (fun σ4 H locs hs hf => ?_)
      refine lv_aload_n S.1 S.2.1 dX9_append_56 rfl (lv_at hl 0 rfl) ?_
      refine mg145 S K hs dX9_append_57 ?_
      exact mrI S K hr hk hs hf dX9_append_60
    · refine lv_aload_n S.1 S.2.1 dX9_append_30 rfl (lv_at hl 0 rfl) ?_
      refine lv_iconst S.1 S.2.1 dX9_append_31 k_iconst_2 ?_
      refine mcV S K hs hl.1 hf (fun _ _ hX => metX9_fails _ _ _ _ _ _ _ _ _ hX) (cwX9_99 S.2.2.2.2 ⟨Nat.le_of_ble_eq_true rfl, Nat.le_of_ble_eq_true rfl⟩) rfl dX9_append_32 rfl (Nat.le_of_ble_eq_true rfl) ⟨Nat.le_refl _, Nat.le_refl _⟩ (fun x5 σ6 H locs hs hf => ?_)
      exact mrI S K hr hk hs hf dX9_append_35
  · refine lv_aload_n S.1 S.2.1 dX9_append_15 rfl (lv_at hl 0 rfl) ?_
    refine lv_iconst S.1 S.2.1 dX9_append_16 k_iconst_1 ?_
    refine mcV S K hs hl.1 hf (fun _ _ hX => metX9_fails _ _ _ _ _ _ _ _ _ hX) (cwX9_99 S.2.2.2.2 ⟨Nat.le_of_ble_eq_true rfl, Nat.le_of_ble_eq_true rfl⟩) rfl dX9_append_17 rfl (Nat.le_of_ble_eq_true rfl) ⟨Nat.le_refl _, Nat.le_refl _⟩ (fun x7 σ8 H locs hs hf => ?_)
    exact mrI S K hr hk hs hf dX9_append_20
theorem metX9_append (l : Launch) (D : va_G) (cI : ClassId) (h : Nat) (ad : Nat → Nat) (a0 : Int32) (σ : zSt) (r0 : Int32) (σ0 : zSt) (hf : fX9_append a0 σ = some (r0, σ0)) : Met l yX9_append (Cond.code yX9_append cX9_append 2 (some .int) :: WA) rmX9_append (mPc D cI h ad σ [.ref h, .int a0]) ((mQi D cI h ad r0 σ0)) 0 0 (mA h ad) :=
  mMet (by decide) (Nat.le_of_ble_eq_true rfl) (fun p e s m args below meth c H locs ls S K hr hk hl hs => bdX9_append S K hr hk _ _ _ _ hf hl hs)
set_option maxHeartbeats 4000000 in
set_option maxRecDepth 100000 in
theorem bdX9_isHit {p : Program} {l : Launch} {e : Env} {s : State} {m : MethodId} {args : Array Value} {below : List Frame} {meth : Method} {c : Code} {H : Heap} {locs : List Loc} {ls : Array Slot} {D : va_G} {cI : ClassId} {h : Nat} {ad : Nat → Nat} (S : CallFix p m c cX9_isHit 5 s args WA RX9) (K : va_K D vwCl [(cI, .int)] s) (hr : meth.sig.returnType = (some .boolean)) (hk : meth.locks = false) (a0 : Int32) (a1 : Int32) (a2 : Int32) (σ : zSt) (r0 : Int32) (hf : fX9_isHit a0 a1 a2 σ = some r0) (hl : lv_has ls 5 [(0, .ref h), (1, .int a0), (2, .int a1), (3, .int a2)]) (hs : mS D cI h ad s σ H locs) : W p l e rmX9_isHit s m args below meth c H locs 0 0 (MQ below (mQi D cI h ad r0 σ) args s 0 0 (mA h ad)) (F0 m 0 ls []) := by
  obtain ⟨res, hres⟩ : ∃ q, q = r0 := ⟨_, rfl⟩
  rw [← hres] at hf
  have J30 : fX9_isHit_j30 σ = some res → mGo p l e rmX9_isHit s m args below meth c (MQ below (mQi D cI h ad r0 σ) args s 0 0 (mA h ad)) D cI h ad 5 σ [(0, .ref h)] 30 [] := by
    intro hf H locs ls hl hs
    unfold fX9_isHit_j30 at hf
    refine lv_iconst S.1 S.2.1 dX9_isHit_30 k_iconst_1 ?_
    refine lv_goto (tgt := 35) S.1 S.2.1 dX9_isHit_31 (by decide) ?_
    exact mrB S K hr hk hs (hf.trans (congrArg some hres)) dX9_isHit_35
  unfold fX9_isHit at hf
  refine lv_aload_n S.1 S.2.1 dX9_isHit_0 rfl (lv_at hl 0 rfl) ?_
  refine lv_iload_n S.1 S.2.1 dX9_isHit_1 rfl (lv_at hl 1 rfl) ?_
  refine lv_iload_n S.1 S.2.1 dX9_isHit_2 rfl (lv_at hl 2 rfl) ?_
  refine mcP S K hs hl.1 hf (fun _ hX => metX9_copyOf _ _ _ _ _ _ _ _ _ hX) (cwX9_52 S.2.2.2.2 ⟨Nat.le_of_ble_eq_true rfl, Nat.le_of_ble_eq_true rfl⟩) rfl dX9_isHit_3 rfl (Nat.le_of_ble_eq_true rfl) ⟨Nat.le_refl _, Nat.le_refl _⟩ (fun x1 H locs hs hf => ?_)
  refine lv_istore (lv' := [(4, .int x1), (0, .ref h), (1, .int a0), (2, .int a1), (3, .int a2)]) S.1 S.2.1 dX9_isHit_6 hl (by decide) rfl (fun ls hl => ?_)
  refine lv_iload S.1 S.2.1 dX9_isHit_8 (lv_at hl 0 rfl) ?_
  refine z_if_lt (tgt := 34) S hf dX9_isHit_10 (by decide) (fun hf => ?_) (fun hf => ?_)
  · refine lv_iconst S.1 S.2.1 dX9_isHit_34 k_iconst_0 ?_
    exact mrB S K hr hk hs (hf.trans (congrArg some hres)) dX9_isHit_35
  · refine lv_iload_n S.1 S.2.1 dX9_isHit_13 rfl (lv_at hl 4 rfl) ?_
    refine z_if_eq (tgt := 30) S hf dX9_isHit_14 (by decide) (fun hf => ?_) (fun hf => ?_)
    · exact J30  hf _ _ _ (lv_sub hl [1] rfl) hs
    · refine lv_aload_n S.1 S.2.1 dX9_isHit_17 rfl (lv_at hl 1 rfl) ?_
      refine mg7 S K hs dX9_isHit_18 ?_
      refine lv_iload S.1 S.2.1 dX9_isHit_21 (lv_at hl 0 rfl) ?_
      refine lv_iconst S.1 S.2.1 dX9_isHit_23 k_iconst_1 ?_
      refine lv_iadd S.1 S.2.1 dX9_isHit_24 ?_
      refine mld0 S K hs hf dX9_isHit_25 (fun x2 hf => ?_)
      refine lv_iconst S.1 S.2.1 dX9_isHit_26 k_iconst_2 ?_
      refine z_icmp_ne (tgt := 34) S hf dX9_isHit_27 (by decide) (fun hf => ?_) (fun hf => ?_)
      · refine lv_iconst S.1 S.2.1 dX9_isHit_34 k_iconst_0 ?_
        exact mrB S K hr hk hs (hf.trans (congrArg some hres)) dX9_isHit_35
      · exact J30  hf _ _ _ (lv_sub hl [1] rfl) hs
theorem metX9_isHit (l : Launch) (D : va_G) (cI : ClassId) (h : Nat) (ad : Nat → Nat) (a0 : Int32) (a1 : Int32) (a2 : Int32) (σ : zSt) (r0 : Int32) (hf : fX9_isHit a0 a1 a2 σ = some r0) : Met l yX9_isHit (Cond.code yX9_isHit cX9_isHit 5 (some .boolean) :: WA) rmX9_isHit (mPc D cI h ad σ [.ref h, .int a0, .int a1, .int a2]) ((mQi D cI h ad r0 σ)) 0 0 (mA h ad) :=
  mMet (by decide) (Nat.le_of_ble_eq_true rfl) (fun p e s m args below meth c H locs ls S K hr hk hl hs => bdX9_isHit S K hr hk _ _ _ _ _ hf hl hs)
set_option maxHeartbeats 4000000 in
set_option maxRecDepth 100000 in
theorem bdX9_asks {p : Program} {l : Launch} {e : Env} {s : State} {m : MethodId} {args : Array Value} {below : List Frame} {meth : Method} {c : Code} {H : Heap} {locs : List Loc} {ls : Array Slot} {D : va_G} {cI : ClassId} {h : Nat} {ad : Nat → Nat} (S : CallFix p m c cX9_asks 4 s args WA RX9) (K : va_K D vwCl [(cI, .int)] s) (hr : meth.sig.returnType = (some .int)) (hk : meth.locks = false) (a0 : Int32) (a1 : Int32) (a2 : Int32) (σ : zSt) (r0 : Int32) (σ0 : zSt) (hf : fX9_asks a0 a1 a2 σ = some (r0, σ0)) (hl : lv_has ls 4 [(0, .ref h), (1, .int a0), (2, .int a1), (3, .int a2)]) (hs : mS D cI h ad s σ H locs) : W p l e rmX9_asks s m args below meth c H locs 0 0 (MQ below (mQi D cI h ad r0 σ0) args s 0 0 (mA h ad)) (F0 m 0 ls []) := by
  obtain ⟨res, hres⟩ : ∃ q, q = (r0, σ0) := ⟨_, rfl⟩
  rw [← hres] at hf
  have J55 : ∀ (w0 : Int32) (w1 : Int32) (w2 : Int32) (σ : zSt), fX9_asks_j55 w0 w1 w2 σ = some res → mGo p l e rmX9_asks s m args below meth c (MQ below (mQi D cI h ad r0 σ0) args s 0 0 (mA h ad)) D cI h ad 4 σ [(0, .ref h)] 55 [.int w0, .int w1, .int w2, .ref h] := by
    intro w0 w1 w2 σ hf H locs ls hl hs
    unfold fX9_asks_j55 at hf
    refine mcP S K hs hl.1 hf (fun _ hX => metX9_isHit _ _ _ _ _ _ _ _ _ _ hX) (cwX9_81 S.2.2.2.2 ⟨Nat.le_of_ble_eq_true rfl, Nat.le_of_ble_eq_true rfl⟩) rfl dX9_asks_55 rfl (Nat.le_of_ble_eq_true rfl) ⟨Nat.le_refl _, Nat.le_refl _⟩ (fun x4 H locs hs hf => ?_)
    refine z_if_eq (tgt := 65) S hf dX9_asks_58 (by decide) (fun hf => ?_) (fun hf => ?_)
    · refine lv_iconst S.1 S.2.1 dX9_asks_65 k_iconst_0 ?_
      exact mrI S K hr hk hs (hf.trans (congrArg some hres)) dX9_asks_66
    · refine lv_iconst S.1 S.2.1 dX9_asks_61 k_iconst_1 ?_
      refine lv_goto (tgt := 66) S.1 S.2.1 dX9_asks_62 (by decide) ?_
      exact mrI S K hr hk hs (hf.trans (congrArg some hres)) dX9_asks_66
  unfold fX9_asks at hf
  refine lv_aload_n S.1 S.2.1 dX9_asks_0 rfl (lv_at hl 0 rfl) ?_
  refine mg7 S K hs dX9_asks_1 ?_
  refine lv_sipush S.1 S.2.1 dX9_asks_4 k_sipush_366 ?_
  refine lv_iconst S.1 S.2.1 dX9_asks_7 k_iconst_3 ?_
  refine lv_iload_n S.1 S.2.1 dX9_asks_8 rfl (lv_at hl 1 rfl) ?_
  refine lv_imul S.1 S.2.1 dX9_asks_9 ?_
  refine lv_iadd S.1 S.2.1 dX9_asks_10 ?_
  refine lv_iload_n S.1 S.2.1 dX9_asks_11 rfl (lv_at hl 2 rfl) ?_
  refine mst0 S K hs hf dX9_asks_12 (fun σ1 H locs hs hf => ?_)
  refine lv_aload_n S.1 S.2.1 dX9_asks_13 rfl (lv_at hl 0 rfl) ?_
  refine mg7 S K hs dX9_asks_14 ?_
  refine lv_sipush S.1 S.2.1 dX9_asks_17 k_sipush_366 ?_
  refine lv_iconst S.1 S.2.1 dX9_asks_20 k_iconst_3 ?_
  refine lv_iload_n S.1 S.2.1 dX9_asks_21 rfl (lv_at hl 1 rfl) ?_
  refine lv_imul S.1 S.2.1 dX9_asks_22 ?_
  refine lv_iadd S.1 S.2.1 dX9_asks_23 ?_
  refine lv_iconst S.1 S.2.1 dX9_asks_24 k_iconst_1 ?_
  refine lv_iadd S.1 S.2.1 dX9_asks_25 ?_
  refine lv_iload_n S.1 S.2.1 dX9_asks_26 rfl (lv_at hl 3 rfl) ?_
  refine mst0 S K hs hf dX9_asks_27 (fun σ2 H locs hs hf => ?_)
  refine lv_aload_n S.1 S.2.1 dX9_asks_28 rfl (lv_at hl 0 rfl) ?_
  refine mg7 S K hs dX9_asks_29 ?_
  refine lv_sipush S.1 S.2.1 dX9_asks_32 k_sipush_366 ?_
  refine lv_iconst S.1 S.2.1 dX9_asks_35 k_iconst_3 ?_
  refine lv_iload_n S.1 S.2.1 dX9_asks_36 rfl (lv_at hl 1 rfl) ?_
  refine lv_imul S.1 S.2.1 dX9_asks_37 ?_
  refine lv_iadd S.1 S.2.1 dX9_asks_38 ?_
  refine lv_iconst S.1 S.2.1 dX9_asks_39 k_iconst_2 ?_
  refine lv_iadd S.1 S.2.1 dX9_asks_40 ?_
  refine lv_iconst S.1 S.2.1 dX9_asks_41 k_iconst_0 ?_
  refine mst0 S K hs hf dX9_asks_42 (fun σ3 H locs hs hf => ?_)
  refine lv_aload_n S.1 S.2.1 dX9_asks_43 rfl (lv_at hl 0 rfl) ?_
  refine lv_iload_n S.1 S.2.1 dX9_asks_44 rfl (lv_at hl 1 rfl) ?_
  refine lv_iload_n S.1 S.2.1 dX9_asks_45 rfl (lv_at hl 2 rfl) ?_
  refine lv_iload_n S.1 S.2.1 dX9_asks_46 rfl (lv_at hl 3 rfl) ?_
  refine z_if_lt (tgt := 54) S hf dX9_asks_47 (by decide) (fun hf => ?_) (fun hf => ?_)
  · refine lv_iconst S.1 S.2.1 dX9_asks_54 k_iconst_0 ?_
    exact J55 _ _ _ _ hf _ _ _ (lv_sub hl [0] rfl) hs
  · refine lv_iconst S.1 S.2.1 dX9_asks_50 k_iconst_1 ?_
    refine lv_goto (tgt := 55) S.1 S.2.1 dX9_asks_51 (by decide) ?_
    exact J55 _ _ _ _ hf _ _ _ (lv_sub hl [0] rfl) hs
theorem metX9_asks (l : Launch) (D : va_G) (cI : ClassId) (h : Nat) (ad : Nat → Nat) (a0 : Int32) (a1 : Int32) (a2 : Int32) (σ : zSt) (r0 : Int32) (σ0 : zSt) (hf : fX9_asks a0 a1 a2 σ = some (r0, σ0)) : Met l yX9_asks (Cond.code yX9_asks cX9_asks 4 (some .int) :: WA) rmX9_asks (mPc D cI h ad σ [.ref h, .int a0, .int a1, .int a2]) ((mQi D cI h ad r0 σ0)) 0 0 (mA h ad) :=
  mMet (by decide) (Nat.le_of_ble_eq_true rfl) (fun p e s m args below meth c H locs ls S K hr hk hl hs => bdX9_asks S K hr hk _ _ _ _ _ _ hf hl hs)
set_option maxHeartbeats 4000000 in
set_option maxRecDepth 100000 in
theorem bdX9_save {p : Program} {l : Launch} {e : Env} {s : State} {m : MethodId} {args : Array Value} {below : List Frame} {meth : Method} {c : Code} {H : Heap} {locs : List Loc} {ls : Array Slot} {D : va_G} {cI : ClassId} {h : Nat} {ad : Nat → Nat} (S : CallFix p m c cX9_save 2 s args WA RX9) (K : va_K D vwCl [(cI, .int)] s) (hr : meth.sig.returnType = none) (hk : meth.locks = false) (σ : zSt) (σ0 : zSt) (hf : fX9_save σ = some σ0) (hl : lv_has ls 2 [(0, .ref h)]) (hs : mS D cI h ad s σ H locs) : W p l e rmX9_save s m args below meth c H locs 0 0 (MQ below (mQv D cI h ad σ0) args s 0 0 (mA h ad)) (F0 m 0 ls []) := by
  obtain ⟨res, hres⟩ : ∃ q, q = σ0 := ⟨_, rfl⟩
  rw [← hres] at hf
  have L51 : ∀ (K51 : zSt → Option (zSt)) (hK51 : ∀ (σ : zSt), K51 σ = some res → mGo p l e rmX9_save s m args below meth c (MQ below (mQv D cI h ad σ0) args s 0 0 (mA h ad)) D cI h ad 2 σ [(0, .ref h)] 85 []) (n : Nat) (y1 : Int32) (σ : zSt), fX9_save_l51 K51 n y1 σ = some res → mGo p l e rmX9_save s m args below meth c (MQ below (mQv D cI h ad σ0) args s 0 0 (mA h ad)) D cI h ad 2 σ [(0, .ref h), (1, .int y1)] 51 [] := by
    intro K51 hK51 n
    induction n with
    | zero =>
      intro y1 σ hf H locs ls hl hs
      rw [fX9_save_l51] at hf
      cases hf
    | succ n ih =>
      intro y1 σ hf H locs ls hl hs
      rw [fX9_save_l51] at hf
      refine lv_iload_n S.1 S.2.1 dX9_save_51 rfl (lv_at hl 1 rfl) ?_
      refine lv_sipush S.1 S.2.1 dX9_save_52 k_sipush_456 ?_
      refine z_icmp_ge (tgt := 85) S hf dX9_save_55 (by decide) (fun hf => ?_) (fun hf => ?_)
      · exact hK51 _ hf _ _ _ (lv_sub hl [0] rfl) hs
      · refine lv_aload_n S.1 S.2.1 dX9_save_58 rfl (lv_at hl 0 rfl) ?_
        refine mg16 S K hs dX9_save_59 ?_
        refine lv_sipush S.1 S.2.1 dX9_save_62 k_sipush_456 ?_
        refine lv_aload_n S.1 S.2.1 dX9_save_65 rfl (lv_at hl 0 rfl) ?_
        refine mg33 S K hs dX9_save_66 ?_
        refine lv_imul S.1 S.2.1 dX9_save_69 ?_
        refine lv_iload_n S.1 S.2.1 dX9_save_70 rfl (lv_at hl 1 rfl) ?_
        refine lv_iadd S.1 S.2.1 dX9_save_71 ?_
        refine lv_aload_n S.1 S.2.1 dX9_save_72 rfl (lv_at hl 0 rfl) ?_
        refine mg7 S K hs dX9_save_73 ?_
        refine lv_iload_n S.1 S.2.1 dX9_save_76 rfl (lv_at hl 1 rfl) ?_
        refine mld0 S K hs hf dX9_save_77 (fun x1 hf => ?_)
        refine mst2 S K hs hf dX9_save_78 (fun σ2 H locs hs hf => ?_)
        refine lv_iinc (v := y1 + nI 1) (lv' := [(1, .int (y1 + nI 1)), (0, .ref h)]) S.1 S.2.1 dX9_save_79 hl (k := 1) rfl (by rw [k_iconst_1]) (by decide) rfl (fun ls hl => ?_)
        refine lv_goto (tgt := 51) S.1 S.2.1 dX9_save_82 (by decide) ?_
        exact ih _ _ hf _ _ _ (lv_sub hl [1, 0] rfl) hs
  have L10 : ∀ (K10 : zSt → Option (zSt)) (hK10 : ∀ (σ : zSt), K10 σ = some res → mGo p l e rmX9_save s m args below meth c (MQ below (mQv D cI h ad σ0) args s 0 0 (mA h ad)) D cI h ad 2 σ [(0, .ref h)] 39 []) (n : Nat) (y1 : Int32) (σ : zSt), fX9_save_l10 K10 n y1 σ = some res → mGo p l e rmX9_save s m args below meth c (MQ below (mQv D cI h ad σ0) args s 0 0 (mA h ad)) D cI h ad 2 σ [(0, .ref h), (1, .int y1)] 10 [] := by
    intro K10 hK10 n
    induction n with
    | zero =>
      intro y1 σ hf H locs ls hl hs
      rw [fX9_save_l10] at hf
      cases hf
    | succ n ih =>
      intro y1 σ hf H locs ls hl hs
      rw [fX9_save_l10] at hf
      refine lv_iload_n S.1 S.2.1 dX9_save_10 rfl (lv_at hl 1 rfl) ?_
      refine lv_sipush S.1 S.2.1 dX9_save_11 k_sipush_1368 ?_
      refine z_icmp_ge (tgt := 39) S hf dX9_save_14 (by decide) (fun hf => ?_) (fun hf => ?_)
      · exact hK10 _ hf _ _ _ (lv_sub hl [0] rfl) hs
      · refine lv_aload_n S.1 S.2.1 dX9_save_17 rfl (lv_at hl 0 rfl) ?_
        refine mg16 S K hs dX9_save_18 ?_
        refine lv_iload_n S.1 S.2.1 dX9_save_21 rfl (lv_at hl 1 rfl) ?_
        refine lv_aload_n S.1 S.2.1 dX9_save_22 rfl (lv_at hl 0 rfl) ?_
        refine mg16 S K hs dX9_save_23 ?_
        refine lv_iload_n S.1 S.2.1 dX9_save_26 rfl (lv_at hl 1 rfl) ?_
        refine lv_sipush S.1 S.2.1 dX9_save_27 k_sipush_456 ?_
        refine lv_iadd S.1 S.2.1 dX9_save_30 ?_
        refine mld2 S K hs hf dX9_save_31 (fun x5 hf => ?_)
        refine mst2 S K hs hf dX9_save_32 (fun σ6 H locs hs hf => ?_)
        refine lv_iinc (v := y1 + nI 1) (lv' := [(1, .int (y1 + nI 1)), (0, .ref h)]) S.1 S.2.1 dX9_save_33 hl (k := 1) rfl (by rw [k_iconst_1]) (by decide) rfl (fun ls hl => ?_)
        refine lv_goto (tgt := 10) S.1 S.2.1 dX9_save_36 (by decide) ?_
        exact ih _ _ hf _ _ _ (lv_sub hl [1, 0] rfl) hs
  unfold fX9_save at hf
  refine lv_aload_n S.1 S.2.1 dX9_save_0 rfl (lv_at hl 0 rfl) ?_
  refine mg33 S K hs dX9_save_1 ?_
  refine lv_iconst S.1 S.2.1 dX9_save_4 k_iconst_4 ?_
  refine z_icmp_ne (tgt := 49) S hf dX9_save_5 (by decide) (fun hf => ?_) (fun hf => ?_)
  · refine lv_iconst S.1 S.2.1 dX9_save_49 k_iconst_0 ?_
    refine lv_istore_n (lv' := [(1, .int (nI 0)), (0, .ref h)]) S.1 S.2.1 dX9_save_50 rfl hl (by decide) rfl (fun ls hl => ?_)
    refine L51 _ (fun σ3 hf H locs ls hl hs => ?_) _ _ _ hf _ _ _ (lv_sub hl [1, 0] rfl) hs
    refine lv_aload_n S.1 S.2.1 dX9_save_85 rfl (lv_at hl 0 rfl) ?_
    refine lv_dup S.1 S.2.1 dX9_save_86 rfl ?_
    refine mg33 S K hs dX9_save_87 ?_
    refine lv_iconst S.1 S.2.1 dX9_save_90 k_iconst_1 ?_
    refine lv_iadd S.1 S.2.1 dX9_save_91 ?_
    refine mp33 S K hs hf dX9_save_92 (fun σ4 H locs hs hf => ?_)
    exact mrV S K hr hk hs (hf.trans (congrArg some hres)) dX9_save_95
  · refine lv_iconst S.1 S.2.1 dX9_save_8 k_iconst_0 ?_
    refine lv_istore_n (lv' := [(1, .int (nI 0)), (0, .ref h)]) S.1 S.2.1 dX9_save_9 rfl hl (by decide) rfl (fun ls hl => ?_)
    refine L10 _ (fun σ7 hf H locs ls hl hs => ?_) _ _ _ hf _ _ _ (lv_sub hl [1, 0] rfl) hs
    refine lv_aload_n S.1 S.2.1 dX9_save_39 rfl (lv_at hl 0 rfl) ?_
    refine lv_dup S.1 S.2.1 dX9_save_40 rfl ?_
    refine mg33 S K hs dX9_save_41 ?_
    refine lv_iconst S.1 S.2.1 dX9_save_44 k_iconst_1 ?_
    refine lv_isub S.1 S.2.1 dX9_save_45 ?_
    refine mp33 S K hs hf dX9_save_46 (fun σ8 H locs hs hf => ?_)
    refine lv_iconst S.1 S.2.1 dX9_save_49 k_iconst_0 ?_
    refine lv_istore_n (lv' := [(1, .int (nI 0)), (0, .ref h)]) S.1 S.2.1 dX9_save_50 rfl hl (by decide) rfl (fun ls hl => ?_)
    refine L51 _ (fun σ9 hf H locs ls hl hs => ?_) _ _ _ hf _ _ _ (lv_sub hl [1, 0] rfl) hs
    refine lv_aload_n S.1 S.2.1 dX9_save_85 rfl (lv_at hl 0 rfl) ?_
    refine lv_dup S.1 S.2.1 dX9_save_86 rfl ?_
    refine mg33 S K hs dX9_save_87 ?_
    refine lv_iconst S.1 S.2.1 dX9_save_90 k_iconst_1 ?_
    refine lv_iadd S.1 S.2.1 dX9_save_91 ?_
    refine mp33 S K hs hf dX9_save_92 (fun σ10 H locs hs hf => ?_)
    exact mrV S K hr hk hs (hf.trans (congrArg some hres)) dX9_save_95
theorem metX9_save (l : Launch) (D : va_G) (cI : ClassId) (h : Nat) (ad : Nat → Nat) (σ : zSt) (σ0 : zSt) (hf : fX9_save σ = some σ0) : Met l yX9_save (Cond.code yX9_save cX9_save 2 none :: WA) rmX9_save (mPc D cI h ad σ [.ref h]) ((mQv D cI h ad σ0)) 0 0 (mA h ad) :=
  mMet (by decide) (Nat.le_of_ble_eq_true rfl) (fun p e s m args below meth c H locs ls S K hr hk hl hs => bdX9_save S K hr hk  _ _ hf hl hs)
set_option maxHeartbeats 4000000 in
set_option maxRecDepth 100000 in
theorem bdX9_begin {p : Program} {l : Launch} {e : Env} {s : State} {m : MethodId} {args : Array Value} {below : List Frame} {meth : Method} {c : Code} {H : Heap} {locs : List Loc} {ls : Array Slot} {D : va_G} {cI : ClassId} {h : Nat} {ad : Nat → Nat} (S : CallFix p m c cX9_begin 5 s args WA RX9) (K : va_K D vwCl [(cI, .int)] s) (hr : meth.sig.returnType = (some .int)) (hk : meth.locks = false) (a0 : Int32) (a1 : Int32) (a2 : Int32) (σ : zSt) (r0 : Int32) (σ0 : zSt) (hf : fX9_begin a0 a1 a2 σ = some (r0, σ0)) (hl : lv_has ls 5 [(0, .ref h), (1, .int a0), (2, .int a1), (3, .int a2)]) (hs : mS D cI h ad s σ H locs) : W p l e rmX9_begin s m args below meth c H locs 0 0 (MQ below (mQi D cI h ad r0 σ0) args s 0 0 (mA h ad)) (F0 m 0 ls []) := by
  obtain ⟨res, hres⟩ : ∃ q, q = (r0, σ0) := ⟨_, rfl⟩
  rw [← hres] at hf
  have J35 : ∀ (σ : zSt), fX9_begin_j35 σ = some res → mGo p l e rmX9_begin s m args below meth c (MQ below (mQi D cI h ad r0 σ0) args s 0 0 (mA h ad)) D cI h ad 5 σ [(0, .ref h)] 35 [] := by
    intro σ hf H locs ls hl hs
    unfold fX9_begin_j35 at hf
    refine lv_aload_n S.1 S.2.1 dX9_begin_35 rfl (lv_at hl 0 rfl) ?_
    refine lv_iconst S.1 S.2.1 dX9_begin_36 k_iconst_1 ?_
    refine mcV S K hs hl.1 hf (fun _ _ hX => metX9_fails _ _ _ _ _ _ _ _ _ hX) (cwX9_99 S.2.2.2.2 ⟨Nat.le_of_ble_eq_true rfl, Nat.le_of_ble_eq_true rfl⟩) rfl dX9_begin_37 rfl (Nat.le_of_ble_eq_true rfl) ⟨Nat.le_refl _, Nat.le_refl _⟩ (fun x3 σ4 H locs hs hf => ?_)
    exact mrI S K hr hk hs (hf.trans (congrArg some hres)) dX9_begin_40
  unfold fX9_begin at hf
  refine lv_aload_n S.1 S.2.1 dX9_begin_0 rfl (lv_at hl 0 rfl) ?_
  refine lv_iconst S.1 S.2.1 dX9_begin_1 k_iconst_0 ?_
  refine mp29 S K hs hf dX9_begin_2 (fun σ1 H locs hs hf => ?_)
  refine lv_iload_n S.1 S.2.1 dX9_begin_5 rfl (lv_at hl 1 rfl) ?_
  refine lv_iconst S.1 S.2.1 dX9_begin_6 k_iconst_2 ?_
  refine lv_bipush S.1 S.2.1 dX9_begin_7 k_bipush_6 ?_
  refine mcT S K hs hl.1 hf (fun _ hX => metX9_in _ _ _ _ _ _ _ _ _ _ hX) (cwX9_36 S.2.2.2.2 ⟨Nat.le_of_ble_eq_true rfl, Nat.le_of_ble_eq_true rfl⟩) rfl dX9_begin_9 rfl (Nat.le_of_ble_eq_true rfl) ⟨Nat.le_refl _, Nat.le_refl _⟩ (fun x2 H locs hs hf => ?_)
  refine z_if_eq (tgt := 35) S hf dX9_begin_12 (by decide) (fun hf => ?_) (fun hf => ?_)
  · exact J35 _ hf _ _ _ (lv_sub hl [0] rfl) hs
  · refine lv_iload_n S.1 S.2.1 dX9_begin_15 rfl (lv_at hl 2 rfl) ?_
    refine lv_iconst S.1 S.2.1 dX9_begin_16 k_iconst_1 ?_
    refine lv_bipush S.1 S.2.1 dX9_begin_17 k_bipush_8 ?_
    refine mcT S K hs hl.1 hf (fun _ hX => metX9_in _ _ _ _ _ _ _ _ _ _ hX) (cwX9_36 S.2.2.2.2 ⟨Nat.le_of_ble_eq_true rfl, Nat.le_of_ble_eq_true rfl⟩) rfl dX9_begin_19 rfl (Nat.le_of_ble_eq_true rfl) ⟨Nat.le_refl _, Nat.le_refl _⟩ (fun x5 H locs hs hf => ?_)
    refine z_if_eq (tgt := 35) S hf dX9_begin_22 (by decide) (fun hf => ?_) (fun hf => ?_)
    · exact J35 _ hf _ _ _ (lv_sub hl [0] rfl) hs
    · refine lv_iload_n S.1 S.2.1 dX9_begin_25 rfl (lv_at hl 3 rfl) ?_
      refine lv_iconst S.1 S.2.1 dX9_begin_26 k_iconst_1 ?_
      refine lv_bipush S.1 S.2.1 dX9_begin_27 k_bipush_16 ?_
      refine mcT S K hs hl.1 hf (fun _ hX => metX9_in _ _ _ _ _ _ _ _ _ _ hX) (cwX9_36 S.2.2.2.2 ⟨Nat.le_of_ble_eq_true rfl, Nat.le_of_ble_eq_true rfl⟩) rfl dX9_begin_29 rfl (Nat.le_of_ble_eq_true rfl) ⟨Nat.le_refl _, Nat.le_refl _⟩ (fun x6 H locs hs hf => ?_)
      refine z_if_ne (tgt := 41) S hf dX9_begin_32 (by decide) (fun hf => ?_) (fun hf => ?_)
      · refine lv_aload_n S.1 S.2.1 dX9_begin_41 rfl (lv_at hl 0 rfl) ?_
        refine mcU S K hs hl.1 hf (fun _ hX => metX9_save _ _ _ _ _ _ _ hX) (cwX9_102 S.2.2.2.2 ⟨Nat.le_of_ble_eq_true rfl, Nat.le_of_ble_eq_true rfl⟩) rfl dX9_begin_42 rfl (Nat.le_of_ble_eq_true rfl) ⟨Nat.le_refl _, Nat.le_refl _⟩ (fun σ7 H locs hs hf => ?_)
        refine lv_aload_n S.1 S.2.1 dX9_begin_45 rfl (lv_at hl 0 rfl) ?_
        refine mg7 S K hs dX9_begin_46 ?_
        refine lv_iconst S.1 S.2.1 dX9_begin_49 k_iconst_4 ?_
        refine mld0 S K hs hf dX9_begin_50 (fun x8 hf => ?_)
        refine lv_istore (lv' := [(4, .int x8), (0, .ref h), (1, .int a0), (2, .int a1), (3, .int a2)]) S.1 S.2.1 dX9_begin_51 hl (by decide) rfl (fun ls hl => ?_)
        refine lv_aload_n S.1 S.2.1 dX9_begin_53 rfl (lv_at hl 1 rfl) ?_
        refine lv_iload_n S.1 S.2.1 dX9_begin_54 rfl (lv_at hl 2 rfl) ?_
        refine lv_iload_n S.1 S.2.1 dX9_begin_55 rfl (lv_at hl 3 rfl) ?_
        refine lv_iload_n S.1 S.2.1 dX9_begin_56 rfl (lv_at hl 4 rfl) ?_
        refine mcU S K hs hl.1 hf (fun _ hX => metX9_anew _ _ _ _ _ _ _ _ _ _ hX) (cwX9_25 S.2.2.2.2 ⟨Nat.le_of_ble_eq_true rfl, Nat.le_of_ble_eq_true rfl⟩) rfl dX9_begin_57 rfl (Nat.le_of_ble_eq_true rfl) ⟨Nat.le_refl _, Nat.le_refl _⟩ (fun σ9 H locs hs hf => ?_)
        refine lv_iload S.1 S.2.1 dX9_begin_60 (lv_at hl 0 rfl) ?_
        exact mrI S K hr hk hs (hf.trans (congrArg some hres)) dX9_begin_62
      · exact J35 _ hf _ _ _ (lv_sub hl [0] rfl) hs
theorem metX9_begin (l : Launch) (D : va_G) (cI : ClassId) (h : Nat) (ad : Nat → Nat) (a0 : Int32) (a1 : Int32) (a2 : Int32) (σ : zSt) (r0 : Int32) (σ0 : zSt) (hf : fX9_begin a0 a1 a2 σ = some (r0, σ0)) : Met l yX9_begin (Cond.code yX9_begin cX9_begin 5 (some .int) :: WA) rmX9_begin (mPc D cI h ad σ [.ref h, .int a0, .int a1, .int a2]) ((mQi D cI h ad r0 σ0)) 0 0 (mA h ad) :=
  mMet (by decide) (Nat.le_of_ble_eq_true rfl) (fun p e s m args below meth c H locs ls S K hr hk hl hs => bdX9_begin S K hr hk _ _ _ _ _ _ hf hl hs)
set_option maxHeartbeats 4000000 in
set_option maxRecDepth 100000 in
theorem bdX9_bringBack {p : Program} {l : Launch} {e : Env} {s : State} {m : MethodId} {args : Array Value} {below : List Frame} {meth : Method} {c : Code} {H : Heap} {locs : List Loc} {ls : Array Slot} {D : va_G} {cI : ClassId} {h : Nat} {ad : Nat → Nat} (S : CallFix p m c cX9_bringBack 2 s args WA RX9) (K : va_K D vwCl [(cI, .int)] s) (hr : meth.sig.returnType = none) (hk : meth.locks = false) (σ : zSt) (σ0 : zSt) (hf : fX9_bringBack σ = some σ0) (hl : lv_has ls 2 [(0, .ref h)]) (hs : mS D cI h ad s σ H locs) : W p l e rmX9_bringBack s m args below meth c H locs 0 0 (MQ below (mQv D cI h ad σ0) args s 0 0 (mA h ad)) (F0 m 0 ls []) := by
  obtain ⟨res, hres⟩ : ∃ q, q = σ0 := ⟨_, rfl⟩
  rw [← hres] at hf
  have L2 : ∀ (K2 : zSt → Option (zSt)) (hK2 : ∀ (σ : zSt), K2 σ = some res → mGo p l e rmX9_bringBack s m args below meth c (MQ below (mQv D cI h ad σ0) args s 0 0 (mA h ad)) D cI h ad 2 σ [(0, .ref h)] 27 []) (n : Nat) (y1 : Int32) (σ : zSt), fX9_bringBack_l2 K2 n y1 σ = some res → mGo p l e rmX9_bringBack s m args below meth c (MQ below (mQv D cI h ad σ0) args s 0 0 (mA h ad)) D cI h ad 2 σ [(0, .ref h), (1, .int y1)] 2 [] := by
    intro K2 hK2 n
    induction n with
    | zero =>
      intro y1 σ hf H locs ls hl hs
      rw [fX9_bringBack_l2] at hf
      cases hf
    | succ n ih =>
      intro y1 σ hf H locs ls hl hs
      rw [fX9_bringBack_l2] at hf
      refine lv_iload_n S.1 S.2.1 dX9_bringBack_2 rfl (lv_at hl 1 rfl) ?_
      refine lv_sipush S.1 S.2.1 dX9_bringBack_3 k_sipush_456 ?_
      refine z_icmp_ge (tgt := 27) S hf dX9_bringBack_6 (by decide) (fun hf => ?_) (fun hf => ?_)
      · exact hK2 _ hf _ _ _ (lv_sub hl [0] rfl) hs
      · refine lv_aload_n S.1 S.2.1 dX9_bringBack_9 rfl (lv_at hl 0 rfl) ?_
        refine mg7 S K hs dX9_bringBack_10 ?_
        refine lv_iload_n S.1 S.2.1 dX9_bringBack_13 rfl (lv_at hl 1 rfl) ?_
        refine lv_aload_n S.1 S.2.1 dX9_bringBack_14 rfl (lv_at hl 0 rfl) ?_
        refine mg13 S K hs dX9_bringBack_15 ?_
        refine lv_iload_n S.1 S.2.1 dX9_bringBack_18 rfl (lv_at hl 1 rfl) ?_
        refine mld1 S K hs hf dX9_bringBack_19 (fun x1 hf => ?_)
        refine mst0 S K hs hf dX9_bringBack_20 (fun σ2 H locs hs hf => ?_)
        refine lv_iinc (v := y1 + nI 1) (lv' := [(1, .int (y1 + nI 1)), (0, .ref h)]) S.1 S.2.1 dX9_bringBack_21 hl (k := 1) rfl (by rw [k_iconst_1]) (by decide) rfl (fun ls hl => ?_)
        refine lv_goto (tgt := 2) S.1 S.2.1 dX9_bringBack_24 (by decide) ?_
        exact ih _ _ hf _ _ _ (lv_sub hl [1, 0] rfl) hs
  unfold fX9_bringBack at hf
  refine lv_iconst S.1 S.2.1 dX9_bringBack_0 k_iconst_0 ?_
  refine lv_istore_n (lv' := [(1, .int (nI 0)), (0, .ref h)]) S.1 S.2.1 dX9_bringBack_1 rfl hl (by decide) rfl (fun ls hl => ?_)
  refine L2 _ (fun σ3 hf H locs ls hl hs => ?_) _ _ _ hf _ _ _ (lv_sub hl [1, 0] rfl) hs
  exact mrV S K hr hk hs (hf.trans (congrArg some hres)) dX9_bringBack_27
theorem metX9_bringBack (l : Launch) (D : va_G) (cI : ClassId) (h : Nat) (ad : Nat → Nat) (σ : zSt) (σ0 : zSt) (hf : fX9_bringBack σ = some σ0) : Met l yX9_bringBack (Cond.code yX9_bringBack cX9_bringBack 2 none :: WA) rmX9_bringBack (mPc D cI h ad σ [.ref h]) ((mQv D cI h ad σ0)) 0 0 (mA h ad) :=
  mMet (by decide) (Nat.le_of_ble_eq_true rfl) (fun p e s m args below meth c H locs ls S K hr hk hl hs => bdX9_bringBack S K hr hk  _ _ hf hl hs)
set_option maxHeartbeats 4000000 in
set_option maxRecDepth 100000 in
theorem bdX9_sign {p : Program} {l : Launch} {e : Env} {s : State} {m : MethodId} {args : Array Value} {below : List Frame} {meth : Method} {c : Code} {H : Heap} {locs : List Loc} {ls : Array Slot} {D : va_G} {cI : ClassId} {h : Nat} {ad : Nat → Nat} (S : CallFix p m c cX9_sign 3 s args WA RX9) (K : va_K D vwCl [(cI, .int)] s) (hr : meth.sig.returnType = (some .boolean)) (hk : meth.locks = false) (a0 : Int32) (σ : zSt) (r0 : Int32) (σ0 : zSt) (hf : fX9_sign a0 σ = some (r0, σ0)) (hl : lv_has ls 3 [(0, .ref h), (1, .int a0)]) (hs : mS D cI h ad s σ H locs) : W p l e rmX9_sign s m args below meth c H locs 0 0 (MQ below (mQi D cI h ad r0 σ0) args s 0 0 (mA h ad)) (F0 m 0 ls []) := by
  obtain ⟨res, hres⟩ : ∃ q, q = (r0, σ0) := ⟨_, rfl⟩
  rw [← hres] at hf
  have J44 : ∀ (y2 : Int32) (w0 : Int32) (w1 : Int32) (σ : zSt), fX9_sign_j44 y2 w0 w1 σ = some res → mGo p l e rmX9_sign s m args below meth c (MQ below (mQi D cI h ad r0 σ0) args s 0 0 (mA h ad)) D cI h ad 3 σ [(0, .ref h), (2, .int y2)] 44 [.int w0, .int w1, .ref h] := by
    intro y2 w0 w1 σ hf H locs ls hl hs
    unfold fX9_sign_j44 at hf
    refine lv_iadd S.1 S.2.1 dX9_sign_44 ?_
    refine mp148 S K hs hf dX9_sign_45 (fun σ1 H locs hs hf => ?_)
    refine lv_iload_n S.1 S.2.1 dX9_sign_48 rfl (lv_at hl 1 rfl) ?_
    exact mrZ S K hr hk hs (hf.trans (congrArg some hres)) dX9_sign_49
  have J29 : ∀ (w0 : Int32) (σ : zSt), fX9_sign_j29 w0 σ = some res → mGo p l e rmX9_sign s m args below meth c (MQ below (mQi D cI h ad r0 σ0) args s 0 0 (mA h ad)) D cI h ad 3 σ [(0, .ref h)] 29 [.int w0] := by
    intro w0 σ hf H locs ls hl hs
    unfold fX9_sign_j29 at hf
    refine lv_istore_n (lv' := [(2, .int w0), (0, .ref h)]) S.1 S.2.1 dX9_sign_29 rfl hl (by decide) rfl (fun ls hl => ?_)
    refine lv_aload_n S.1 S.2.1 dX9_sign_30 rfl (lv_at hl 1 rfl) ?_
    refine lv_dup S.1 S.2.1 dX9_sign_31 rfl ?_
    refine mg148 S K hs dX9_sign_32 ?_
    refine lv_iload_n S.1 S.2.1 dX9_sign_35 rfl (lv_at hl 0 rfl) ?_
    refine z_if_eq (tgt := 43) S hf dX9_sign_36 (by decide) (fun hf => ?_) (fun hf => ?_)
    · refine lv_iconst S.1 S.2.1 dX9_sign_43 k_iconst_0 ?_
      exact J44 _ _ _ _ hf _ _ _ (lv_sub hl [1, 0] rfl) hs
    · refine lv_iconst S.1 S.2.1 dX9_sign_39 k_iconst_1 ?_
      refine lv_goto (tgt := 44) S.1 S.2.1 dX9_sign_40 (by decide) ?_
      exact J44 _ _ _ _ hf _ _ _ (lv_sub hl [1, 0] rfl) hs
  have J28 : ∀ (σ : zSt), fX9_sign_j28 σ = some res → mGo p l e rmX9_sign s m args below meth c (MQ below (mQi D cI h ad r0 σ0) args s 0 0 (mA h ad)) D cI h ad 3 σ [(0, .ref h)] 28 [] := by
    intro σ hf H locs ls hl hs
    unfold fX9_sign_j28 at hf
    refine lv_iconst S.1 S.2.1 dX9_sign_28 k_iconst_0 ?_
    exact J29 _ _ hf _ _ _ (lv_sub hl [0] rfl) hs
  unfold fX9_sign at hf
  refine lv_aload_n S.1 S.2.1 dX9_sign_0 rfl (lv_at hl 0 rfl) ?_
  refine mg148 S K hs dX9_sign_1 ?_
  refine lv_aload_n S.1 S.2.1 dX9_sign_4 rfl (lv_at hl 0 rfl) ?_
  refine mg145 S K hs dX9_sign_5 ?_
  refine z_icmp_ge (tgt := 28) S hf dX9_sign_8 (by decide) (fun hf => ?_) (fun hf => ?_)
  · exact J28 _ hf _ _ _ (lv_sub hl [0] rfl) hs
  · refine lv_aload_n S.1 S.2.1 dX9_sign_11 rfl (lv_at hl 0 rfl) ?_
    refine mg19 S K hs dX9_sign_12 ?_
    refine lv_aload_n S.1 S.2.1 dX9_sign_15 rfl (lv_at hl 0 rfl) ?_
    refine mg148 S K hs dX9_sign_16 ?_
    refine mld3 S K hs hf dX9_sign_19 (fun x2 hf => ?_)
    refine lv_iload_n S.1 S.2.1 dX9_sign_20 rfl (lv_at hl 1 rfl) ?_
    refine z_icmp_ne (tgt := 28) S hf dX9_sign_21 (by decide) (fun hf => ?_) (fun hf => ?_)
    · exact J28 _ hf _ _ _ (lv_sub hl [0] rfl) hs
    · refine lv_iconst S.1 S.2.1 dX9_sign_24 k_iconst_1 ?_
      refine lv_goto (tgt := 29) S.1 S.2.1 dX9_sign_25 (by decide) ?_
      exact J29 _ _ hf _ _ _ (lv_sub hl [0] rfl) hs
theorem metX9_sign (l : Launch) (D : va_G) (cI : ClassId) (h : Nat) (ad : Nat → Nat) (a0 : Int32) (σ : zSt) (r0 : Int32) (σ0 : zSt) (hf : fX9_sign a0 σ = some (r0, σ0)) : Met l yX9_sign (Cond.code yX9_sign cX9_sign 3 (some .boolean) :: WA) rmX9_sign (mPc D cI h ad σ [.ref h, .int a0]) ((mQi D cI h ad r0 σ0)) 0 0 (mA h ad) :=
  mMet (by decide) (Nat.le_of_ble_eq_true rfl) (fun p e s m args below meth c H locs ls S K hr hk hl hs => bdX9_sign S K hr hk _ _ _ _ hf hl hs)
set_option maxHeartbeats 4000000 in
set_option maxRecDepth 100000 in
theorem bdX9_isDigit {p : Program} {l : Launch} {e : Env} {s : State} {m : MethodId} {args : Array Value} {below : List Frame} {meth : Method} {c : Code} {H : Heap} {locs : List Loc} {ls : Array Slot} {D : va_G} {cI : ClassId} {h : Nat} {ad : Nat → Nat} (S : CallFix p m c cX9_isDigit 2 s args WA RX9) (K : va_K D vwCl [(cI, .int)] s) (hr : meth.sig.returnType = (some .boolean)) (hk : meth.locks = false) (a0 : Int32) (σ : zSt) (r0 : Int32) (hf : fX9_isDigit a0 σ = some r0) (hl : lv_has ls 2 [(0, .ref h), (1, .int a0)]) (hs : mS D cI h ad s σ H locs) : W p l e rmX9_isDigit s m args below meth c H locs 0 0 (MQ below (mQi D cI h ad r0 σ) args s 0 0 (mA h ad)) (F0 m 0 ls []) := by
  unfold fX9_isDigit at hf
  refine lv_aload_n S.1 S.2.1 dX9_isDigit_0 rfl (lv_at hl 0 rfl) ?_
  refine mg148 S K hs dX9_isDigit_1 ?_
  refine lv_aload_n S.1 S.2.1 dX9_isDigit_4 rfl (lv_at hl 0 rfl) ?_
  refine mg145 S K hs dX9_isDigit_5 ?_
  refine z_icmp_ge (tgt := 33) S hf dX9_isDigit_8 (by decide) (fun hf => ?_) (fun hf => ?_)
  · refine lv_iconst S.1 S.2.1 dX9_isDigit_33 k_iconst_0 ?_
    exact mrB S K hr hk hs hf dX9_isDigit_34
  · refine lv_aload_n S.1 S.2.1 dX9_isDigit_11 rfl (lv_at hl 0 rfl) ?_
    refine mg19 S K hs dX9_isDigit_12 ?_
    refine lv_aload_n S.1 S.2.1 dX9_isDigit_15 rfl (lv_at hl 0 rfl) ?_
    refine mg148 S K hs dX9_isDigit_16 ?_
    refine mld3 S K hs hf dX9_isDigit_19 (fun x1 hf => ?_)
    refine lv_bipush S.1 S.2.1 dX9_isDigit_20 k_bipush_48 ?_
    refine lv_iload_n S.1 S.2.1 dX9_isDigit_22 rfl (lv_at hl 1 rfl) ?_
    refine mcT S K hs hl.1 hf (fun _ hX => metX9_in _ _ _ _ _ _ _ _ _ _ hX) (cwX9_36 S.2.2.2.2 ⟨Nat.le_of_ble_eq_true rfl, Nat.le_of_ble_eq_true rfl⟩) rfl dX9_isDigit_23 rfl (Nat.le_of_ble_eq_true rfl) ⟨Nat.le_refl _, Nat.le_refl _⟩ (fun x2 H locs hs hf => ?_)
    refine z_if_eq (tgt := 33) S hf dX9_isDigit_26 (by decide) (fun hf => ?_) (fun hf => ?_)
    · refine lv_iconst S.1 S.2.1 dX9_isDigit_33 k_iconst_0 ?_
      exact mrB S K hr hk hs hf dX9_isDigit_34
    · refine lv_iconst S.1 S.2.1 dX9_isDigit_29 k_iconst_1 ?_
      refine lv_goto (tgt := 34) S.1 S.2.1 dX9_isDigit_30 (by decide) ?_
      exact mrB S K hr hk hs hf dX9_isDigit_34
theorem metX9_isDigit (l : Launch) (D : va_G) (cI : ClassId) (h : Nat) (ad : Nat → Nat) (a0 : Int32) (σ : zSt) (r0 : Int32) (hf : fX9_isDigit a0 σ = some r0) : Met l yX9_isDigit (Cond.code yX9_isDigit cX9_isDigit 2 (some .boolean) :: WA) rmX9_isDigit (mPc D cI h ad σ [.ref h, .int a0]) ((mQi D cI h ad r0 σ)) 0 0 (mA h ad) :=
  mMet (by decide) (Nat.le_of_ble_eq_true rfl) (fun p e s m args below meth c H locs ls S K hr hk hl hs => bdX9_isDigit S K hr hk _ _ _ hf hl hs)
set_option maxHeartbeats 4000000 in
set_option maxRecDepth 100000 in
theorem bdX9_numberInto {p : Program} {l : Launch} {e : Env} {s : State} {m : MethodId} {args : Array Value} {below : List Frame} {meth : Method} {c : Code} {H : Heap} {locs : List Loc} {ls : Array Slot} {D : va_G} {cI : ClassId} {h : Nat} {ad : Nat → Nat} (S : CallFix p m c cX9_numberInto 7 s args WA RX9) (K : va_K D vwCl [(cI, .int)] s) (hr : meth.sig.returnType = (some .boolean)) (hk : meth.locks = false) (a0 : Int32) (a1 : Int32) (a2 : Int32) (a3 : Int32) (σ : zSt) (r0 : Int32) (σ0 : zSt) (hf : fX9_numberInto a0 a1 a2 a3 σ = some (r0, σ0)) (hl : lv_has ls 7 [(0, .ref h), (1, .int a0), (2, .int a1), (3, .int a2), (4, .int a3)]) (hs : mS D cI h ad s σ H locs) : W p l e rmX9_numberInto s m args below meth c H locs 0 0 (MQ below (mQi D cI h ad r0 σ0) args s 0 0 (mA h ad)) (F0 m 0 ls []) := by
  obtain ⟨res, hres⟩ : ∃ q, q = (r0, σ0) := ⟨_, rfl⟩
  rw [← hres] at hf
  have L9 : ∀ (K9 : Int32 → Int32 → Int32 → Int32 → Int32 → zSt → Option (Int32 × zSt)) (hK9 : ∀ (y1 : Int32) (y3 : Int32) (y4 : Int32) (y5 : Int32) (y6 : Int32) (σ : zSt), K9 y1 y3 y4 y5 y6 σ = some res → mGo p l e rmX9_numberInto s m args below meth c (MQ below (mQi D cI h ad r0 σ0) args s 0 0 (mA h ad)) D cI h ad 7 σ [(0, .ref h), (1, .int y1), (3, .int y3), (4, .int y4), (5, .int y5), (6, .int y6)] 62 []) (n : Nat) (y1 : Int32) (y2 : Int32) (y3 : Int32) (y4 : Int32) (y5 : Int32) (y6 : Int32) (σ : zSt), fX9_numberInto_l9 K9 n y1 y2 y3 y4 y5 y6 σ = some res → mGo p l e rmX9_numberInto s m args below meth c (MQ below (mQi D cI h ad r0 σ0) args s 0 0 (mA h ad)) D cI h ad 7 σ [(0, .ref h), (1, .int y1), (2, .int y2), (3, .int y3), (4, .int y4), (5, .int y5), (6, .int y6)] 9 [] := by
    intro K9 hK9 n
    induction n with
    | zero =>
      intro y1 y2 y3 y4 y5 y6 σ hf H locs ls hl hs
      rw [fX9_numberInto_l9] at hf
      cases hf
    | succ n ih =>
      intro y1 y2 y3 y4 y5 y6 σ hf H locs ls hl hs
      rw [fX9_numberInto_l9] at hf
      refine lv_aload_n S.1 S.2.1 dX9_numberInto_9 rfl (lv_at hl 0 rfl) ?_
      refine lv_bipush S.1 S.2.1 dX9_numberInto_10 k_bipush_57 ?_
      refine mcP S K hs hl.1 hf (fun _ hX => metX9_isDigit _ _ _ _ _ _ _ _ hX) (cwX9_151 S.2.2.2.2 ⟨Nat.le_of_ble_eq_true rfl, Nat.le_of_ble_eq_true rfl⟩) rfl dX9_numberInto_12 rfl (Nat.le_of_ble_eq_true rfl) ⟨Nat.le_refl _, Nat.le_refl _⟩ (fun x1 H locs hs hf => ?_)
      refine z_if_eq (tgt := 62) S hf dX9_numberInto_15 (by decide) (fun hf => ?_) (fun hf => ?_)
      · exact hK9 _ _ _ _ _ _ hf _ _ _ (lv_sub hl [0, 1, 3, 4, 5, 6] rfl) hs
      · refine lv_aload_n S.1 S.2.1 dX9_numberInto_18 rfl (lv_at hl 0 rfl) ?_
        refine mg148 S K hs dX9_numberInto_19 ?_
        refine lv_iload S.1 S.2.1 dX9_numberInto_22 (lv_at hl 5 rfl) ?_
        refine lv_iload_n S.1 S.2.1 dX9_numberInto_24 rfl (lv_at hl 2 rfl) ?_
        refine lv_iadd S.1 S.2.1 dX9_numberInto_25 ?_
        refine z_icmp_ge (tgt := 62) S hf dX9_numberInto_26 (by decide) (fun hf => ?_) (fun hf => ?_)
        · exact hK9 _ _ _ _ _ _ hf _ _ _ (lv_sub hl [0, 1, 3, 4, 5, 6] rfl) hs
        · refine lv_bipush S.1 S.2.1 dX9_numberInto_29 k_bipush_10 ?_
          refine lv_iload S.1 S.2.1 dX9_numberInto_31 (lv_at hl 6 rfl) ?_
          refine lv_imul S.1 S.2.1 dX9_numberInto_33 ?_
          refine lv_aload_n S.1 S.2.1 dX9_numberInto_34 rfl (lv_at hl 0 rfl) ?_
          refine mg19 S K hs dX9_numberInto_35 ?_
          refine lv_aload_n S.1 S.2.1 dX9_numberInto_38 rfl (lv_at hl 0 rfl) ?_
          refine mg148 S K hs dX9_numberInto_39 ?_
          refine mld3 S K hs hf dX9_numberInto_42 (fun x2 hf => ?_)
          refine lv_iadd S.1 S.2.1 dX9_numberInto_43 ?_
          refine lv_bipush S.1 S.2.1 dX9_numberInto_44 k_bipush_48 ?_
          refine lv_isub S.1 S.2.1 dX9_numberInto_46 ?_
          refine lv_istore (lv' := [(6, .int ((((nI 10) * y6) + x2) - (nI 48))), (0, .ref h), (1, .int y1), (2, .int y2), (3, .int y3), (4, .int y4), (5, .int y5)]) S.1 S.2.1 dX9_numberInto_47 hl (by decide) rfl (fun ls hl => ?_)
          refine lv_aload_n S.1 S.2.1 dX9_numberInto_49 rfl (lv_at hl 1 rfl) ?_
          refine lv_dup S.1 S.2.1 dX9_numberInto_50 rfl ?_
          refine mg148 S K hs dX9_numberInto_51 ?_
          refine lv_iconst S.1 S.2.1 dX9_numberInto_54 k_iconst_1 ?_
          refine lv_iadd S.1 S.2.1 dX9_numberInto_55 ?_
          refine mp148 S K hs hf dX9_numberInto_56 (fun σ3 H locs hs hf => ?_)
          refine lv_goto (tgt := 9) S.1 S.2.1 dX9_numberInto_59 (by decide) ?_
          exact ih _ _ _ _ _ _ _ hf _ _ _ (lv_sub hl [1, 2, 3, 4, 5, 6, 0] rfl) hs
  unfold fX9_numberInto at hf
  refine lv_aload_n S.1 S.2.1 dX9_numberInto_0 rfl (lv_at hl 0 rfl) ?_
  refine mg148 S K hs dX9_numberInto_1 ?_
  refine lv_istore (lv' := [(5, .int (σ 8 0)), (0, .ref h), (1, .int a0), (2, .int a1), (3, .int a2), (4, .int a3)]) S.1 S.2.1 dX9_numberInto_4 hl (by decide) rfl (fun ls hl => ?_)
  refine lv_iconst S.1 S.2.1 dX9_numberInto_6 k_iconst_0 ?_
  refine lv_istore (lv' := [(6, .int (nI 0)), (5, .int (σ 8 0)), (0, .ref h), (1, .int a0), (2, .int a1), (3, .int a2), (4, .int a3)]) S.1 S.2.1 dX9_numberInto_7 hl (by decide) rfl (fun ls hl => ?_)
  refine L9 _ (fun x4 x5 x6 x7 x8 σ9 hf H locs ls hl hs => ?_) _ _ _ _ _ _ _ _ hf _ _ _ (lv_sub hl [2, 3, 4, 5, 6, 1, 0] rfl) hs
  refine lv_aload_n S.1 S.2.1 dX9_numberInto_62 rfl (lv_at hl 0 rfl) ?_
  refine mg148 S K hs dX9_numberInto_63 ?_
  refine lv_iload S.1 S.2.1 dX9_numberInto_66 (lv_at hl 4 rfl) ?_
  refine z_icmp_eq (tgt := 80) S hf dX9_numberInto_68 (by decide) (fun hf => ?_) (fun hf => ?_)
  · refine lv_iconst S.1 S.2.1 dX9_numberInto_80 k_iconst_0 ?_
    exact mrZ S K hr hk hs (hf.trans (congrArg some hres)) dX9_numberInto_81
  · refine lv_aload_n S.1 S.2.1 dX9_numberInto_71 rfl (lv_at hl 0 rfl) ?_
    refine lv_bipush S.1 S.2.1 dX9_numberInto_72 k_bipush_57 ?_
    refine mcP S K hs hl.1 hf (fun _ hX => metX9_isDigit _ _ _ _ _ _ _ _ hX) (cwX9_151 S.2.2.2.2 ⟨Nat.le_of_ble_eq_true rfl, Nat.le_of_ble_eq_true rfl⟩) rfl dX9_numberInto_74 rfl (Nat.le_of_ble_eq_true rfl) ⟨Nat.le_refl _, Nat.le_refl _⟩ (fun x10 H locs hs hf => ?_)
    refine z_if_eq (tgt := 82) S hf dX9_numberInto_77 (by decide) (fun hf => ?_) (fun hf => ?_)
    · refine lv_iload S.1 S.2.1 dX9_numberInto_82 (lv_at hl 5 rfl) ?_
      refine lv_iload_n S.1 S.2.1 dX9_numberInto_84 rfl (lv_at hl 2 rfl) ?_
      refine lv_iload S.1 S.2.1 dX9_numberInto_85 (lv_at hl 3 rfl) ?_
      refine mcT S K hs hl.1 hf (fun _ hX => metX9_in _ _ _ _ _ _ _ _ _ _ hX) (cwX9_36 S.2.2.2.2 ⟨Nat.le_of_ble_eq_true rfl, Nat.le_of_ble_eq_true rfl⟩) rfl dX9_numberInto_87 rfl (Nat.le_of_ble_eq_true rfl) ⟨Nat.le_refl _, Nat.le_refl _⟩ (fun x11 H locs hs hf => ?_)
      refine z_if_ne (tgt := 101) S hf dX9_numberInto_90 (by decide) (fun hf => ?_) (fun hf => ?_)
      · refine lv_aload_n S.1 S.2.1 dX9_numberInto_101 rfl (lv_at hl 0 rfl) ?_
        refine mg22 S K hs dX9_numberInto_102 ?_
        refine lv_iload_n S.1 S.2.1 dX9_numberInto_105 rfl (lv_at hl 1 rfl) ?_
        refine lv_iload S.1 S.2.1 dX9_numberInto_106 (lv_at hl 5 rfl) ?_
        refine mst4 S K hs hf dX9_numberInto_108 (fun σ12 H locs hs hf => ?_)
        refine lv_iconst S.1 S.2.1 dX9_numberInto_109 k_iconst_1 ?_
        exact mrZ S K hr hk hs (hf.trans (congrArg some hres)) dX9_numberInto_110
      · refine lv_aload_n S.1 S.2.1 dX9_numberInto_93 rfl (lv_at hl 0 rfl) ?_
        refine lv_iload S.1 S.2.1 dX9_numberInto_94 (lv_at hl 4 rfl) ?_
        refine mp148 S K hs hf dX9_numberInto_96 (fun σ13 H locs hs hf => ?_)
        refine lv_iconst S.1 S.2.1 dX9_numberInto_99 k_iconst_0 ?_
        exact mrZ S K hr hk hs (hf.trans (congrArg some hres)) dX9_numberInto_100
    · refine lv_iconst S.1 S.2.1 dX9_numberInto_80 k_iconst_0 ?_
      exact mrZ S K hr hk hs (hf.trans (congrArg some hres)) dX9_numberInto_81
theorem metX9_numberInto (l : Launch) (D : va_G) (cI : ClassId) (h : Nat) (ad : Nat → Nat) (a0 : Int32) (a1 : Int32) (a2 : Int32) (a3 : Int32) (σ : zSt) (r0 : Int32) (σ0 : zSt) (hf : fX9_numberInto a0 a1 a2 a3 σ = some (r0, σ0)) : Met l yX9_numberInto (Cond.code yX9_numberInto cX9_numberInto 7 (some .boolean) :: WA) rmX9_numberInto (mPc D cI h ad σ [.ref h, .int a0, .int a1, .int a2, .int a3]) ((mQi D cI h ad r0 σ0)) 0 0 (mA h ad) :=
  mMet (by decide) (Nat.le_of_ble_eq_true rfl) (fun p e s m args below meth c H locs ls S K hr hk hl hs => bdX9_numberInto S K hr hk _ _ _ _ _ _ _ hf hl hs)
