/-! the reference: contracts (by wip/tools/walk.py) -/
set_option maxHeartbeats 4000000 in
set_option maxRecDepth 100000 in
theorem bdX9_clearText {p : Program} {l : Launch} {e : Env} {s : State} {m : MethodId} {args : Array Value} {below : List Frame} {meth : Method} {c : Code} {H : Heap} {locs : List Loc} {ls : Array Slot} {D : va_G} {cI : ClassId} {h : Nat} {ad : Nat → Nat} (S : CallFix p m c cX9_clearText 2 s args WA RX9) (K : va_K D vwCl [(cI, .int)] s) (hr : meth.sig.returnType = (some .int)) (hk : meth.locks = false) (σ : zSt) (r0 : Int32) (σ0 : zSt) (hf : fX9_clearText σ = some (r0, σ0)) (hl : lv_has ls 2 [(0, .ref h)]) (hs : mS D cI h ad s σ H locs) : W p l e rmX9_clearText s m args below meth c H locs 0 0 (MQ below (mQi D cI h ad r0 σ0) args s 0 0 (mA h ad)) (F0 m 0 ls []) := by
  unfold fX9_clearText at hf
  refine lv_aload_n S.1 S.2.1 dX9_clearText_0 rfl (lv_at hl 0 rfl) ?_
  refine lv_iconst S.1 S.2.1 dX9_clearText_1 k_iconst_0 ?_
  refine mp29 S K hs hf dX9_clearText_2 (fun σ1 H locs hs hf => ?_)
  refine lv_aload_n S.1 S.2.1 dX9_clearText_5 rfl (lv_at hl 0 rfl) ?_
  refine mg145 S K hs dX9_clearText_6 ?_
  refine lv_istore_n (lv' := [(1, .int (σ1 6 0)), (0, .ref h)]) S.1 S.2.1 dX9_clearText_9 rfl hl (by decide) rfl (fun ls hl => ?_)
  refine lv_aload_n S.1 S.2.1 dX9_clearText_10 rfl (lv_at hl 1 rfl) ?_
  refine lv_iconst S.1 S.2.1 dX9_clearText_11 k_iconst_0 ?_
  refine mp145 S K hs hf dX9_clearText_12 (fun σ2 H locs hs hf => ?_)
  refine lv_iload_n S.1 S.2.1 dX9_clearText_15 rfl (lv_at hl 0 rfl) ?_
  exact mrI S K hr hk hs hf dX9_clearText_16
theorem metX9_clearText (l : Launch) (D : va_G) (cI : ClassId) (h : Nat) (ad : Nat → Nat) (σ : zSt) (r0 : Int32) (σ0 : zSt) (hf : fX9_clearText σ = some (r0, σ0)) : Met l yX9_clearText (Cond.code yX9_clearText cX9_clearText 2 (some .int) :: WA) rmX9_clearText (mPc D cI h ad σ [.ref h]) ((mQi D cI h ad r0 σ0)) 0 0 (mA h ad) :=
  mMet (by decide) (Nat.le_of_ble_eq_true rfl) (fun p e s m args below meth c H locs ls S K hr hk hl hs => bdX9_clearText S K hr hk  _ _ _ hf hl hs)
set_option maxHeartbeats 4000000 in
set_option maxRecDepth 100000 in
theorem bdX9_copy {p : Program} {l : Launch} {e : Env} {s : State} {m : MethodId} {args : Array Value} {below : List Frame} {meth : Method} {c : Code} {H : Heap} {locs : List Loc} {ls : Array Slot} {D : va_G} {cI : ClassId} {h : Nat} {ad : Nat → Nat} (S : CallFix p m c cX9_copy 4 s args WA RX9) (K : va_K D vwCl [(cI, .int)] s) (hr : meth.sig.returnType = (some .int)) (hk : meth.locks = false) (a0 : Int32) (a1 : Int32) (a2 : Int32) (σ : zSt) (r0 : Int32) (σ0 : zSt) (hf : fX9_copy a0 a1 a2 σ = some (r0, σ0)) (hl : lv_has ls 4 [(0, .ref h), (1, .int a0), (2, .int a1), (3, .int a2)]) (hs : mS D cI h ad s σ H locs) : W p l e rmX9_copy s m args below meth c H locs 0 0 (MQ below (mQi D cI h ad r0 σ0) args s 0 0 (mA h ad)) (F0 m 0 ls []) := by
  obtain ⟨res, hres⟩ : ∃ q, q = (r0, σ0) := ⟨_, rfl⟩
  rw [← hres] at hf
  have J20 : ∀ (σ : zSt), fX9_copy_j20 σ = some res → mGo p l e rmX9_copy s m args below meth c (MQ below (mQi D cI h ad r0 σ0) args s 0 0 (mA h ad)) D cI h ad 4 σ [(0, .ref h)] 20 [] := by
    intro σ hf H locs ls hl hs
    unfold fX9_copy_j20 at hf
    refine lv_aload_n S.1 S.2.1 dX9_copy_20 rfl (lv_at hl 0 rfl) ?_
    refine lv_iconst S.1 S.2.1 dX9_copy_21 k_iconst_1 ?_
    refine mcV S K hs hl.1 hf (fun _ _ hX => metX9_fails _ _ _ _ _ _ _ _ _ hX) (cwX9_99 S.2.2.2.2 ⟨Nat.le_of_ble_eq_true rfl, Nat.le_of_ble_eq_true rfl⟩) rfl dX9_copy_22 rfl (Nat.le_of_ble_eq_true rfl) ⟨Nat.le_refl _, Nat.le_refl _⟩ (fun x3 σ4 H locs hs hf => ?_)
    exact mrI S K hr hk hs (hf.trans (congrArg some hres)) dX9_copy_25
  unfold fX9_copy at hf
  refine lv_aload_n S.1 S.2.1 dX9_copy_0 rfl (lv_at hl 0 rfl) ?_
  refine lv_iconst S.1 S.2.1 dX9_copy_1 k_iconst_0 ?_
  refine mp29 S K hs hf dX9_copy_2 (fun σ1 H locs hs hf => ?_)
  refine lv_aload_n S.1 S.2.1 dX9_copy_5 rfl (lv_at hl 0 rfl) ?_
  refine lv_iload_n S.1 S.2.1 dX9_copy_6 rfl (lv_at hl 1 rfl) ?_
  refine mcP S K hs hl.1 hf (fun _ hX => metX9_isCache _ _ _ _ _ _ _ _ hX) (cwX9_105 S.2.2.2.2 ⟨Nat.le_of_ble_eq_true rfl, Nat.le_of_ble_eq_true rfl⟩) rfl dX9_copy_7 rfl (Nat.le_of_ble_eq_true rfl) ⟨Nat.le_refl _, Nat.le_refl _⟩ (fun x2 H locs hs hf => ?_)
  refine z_if_eq (tgt := 20) S hf dX9_copy_10 (by decide) (fun hf => ?_) (fun hf => ?_)
  · exact J20 _ hf _ _ _ (lv_sub hl [0] rfl) hs
  · refine lv_iload_n S.1 S.2.1 dX9_copy_13 rfl (lv_at hl 2 rfl) ?_
    refine mcT S K hs hl.1 hf (fun _ hX => metX9_isLine _ _ _ _ _ _ _ _ hX) (cwX9_108 S.2.2.2.2 ⟨Nat.le_of_ble_eq_true rfl, Nat.le_of_ble_eq_true rfl⟩) rfl dX9_copy_14 rfl (Nat.le_of_ble_eq_true rfl) ⟨Nat.le_refl _, Nat.le_refl _⟩ (fun x5 H locs hs hf => ?_)
    refine z_if_ne (tgt := 26) S hf dX9_copy_17 (by decide) (fun hf => ?_) (fun hf => ?_)
    · refine lv_iload_n S.1 S.2.1 dX9_copy_26 rfl (lv_at hl 3 rfl) ?_
      refine lv_iconst S.1 S.2.1 dX9_copy_27 k_iconst_0 ?_
      refine lv_iconst S.1 S.2.1 dX9_copy_28 k_iconst_3 ?_
      refine mcT S K hs hl.1 hf (fun _ hX => metX9_in _ _ _ _ _ _ _ _ _ _ hX) (cwX9_36 S.2.2.2.2 ⟨Nat.le_of_ble_eq_true rfl, Nat.le_of_ble_eq_true rfl⟩) rfl dX9_copy_29 rfl (Nat.le_of_ble_eq_true rfl) ⟨Nat.le_refl _, Nat.le_refl _⟩ (fun x6 H locs hs hf => ?_)
      refine z_if_eq (tgt := 45) S hf dX9_copy_32 (by decide) (fun hf => ?_) (fun hf => ?_)
      · refine lv_aload_n S.1 S.2.1 dX9_copy_45 rfl (lv_at hl 0 rfl) ?_
        refine lv_iconst S.1 S.2.1 dX9_copy_46 k_iconst_2 ?_
        refine mcV S K hs hl.1 hf (fun _ _ hX => metX9_fails _ _ _ _ _ _ _ _ _ hX) (cwX9_99 S.2.2.2.2 ⟨Nat.le_of_ble_eq_true rfl, Nat.le_of_ble_eq_true rfl⟩) rfl dX9_copy_47 rfl (Nat.le_of_ble_eq_true rfl) ⟨Nat.le_refl _, Nat.le_refl _⟩ (fun x7 σ8 H locs hs hf => ?_)
        exact mrI S K hr hk hs (hf.trans (congrArg some hres)) dX9_copy_50
      · refine lv_aload_n S.1 S.2.1 dX9_copy_35 rfl (lv_at hl 0 rfl) ?_
        refine lv_iload_n S.1 S.2.1 dX9_copy_36 rfl (lv_at hl 1 rfl) ?_
        refine lv_iload_n S.1 S.2.1 dX9_copy_37 rfl (lv_at hl 2 rfl) ?_
        refine lv_iload_n S.1 S.2.1 dX9_copy_38 rfl (lv_at hl 3 rfl) ?_
        refine mcP S K hs hl.1 hf (fun _ hX => metX9_aboutCopy _ _ _ _ _ _ _ _ _ _ hX) (cwX9_121 S.2.2.2.2 ⟨Nat.le_of_ble_eq_true rfl, Nat.le_of_ble_eq_true rfl⟩) rfl dX9_copy_39 rfl (Nat.le_of_ble_eq_true rfl) ⟨Nat.le_refl _, Nat.le_refl _⟩ (fun x9 H locs hs hf => ?_)
        refine lv_goto (tgt := 50) S.1 S.2.1 dX9_copy_42 (by decide) ?_
        exact mrI S K hr hk hs (hf.trans (congrArg some hres)) dX9_copy_50
    · exact J20 _ hf _ _ _ (lv_sub hl [0] rfl) hs
theorem metX9_copy (l : Launch) (D : va_G) (cI : ClassId) (h : Nat) (ad : Nat → Nat) (a0 : Int32) (a1 : Int32) (a2 : Int32) (σ : zSt) (r0 : Int32) (σ0 : zSt) (hf : fX9_copy a0 a1 a2 σ = some (r0, σ0)) : Met l yX9_copy (Cond.code yX9_copy cX9_copy 4 (some .int) :: WA) rmX9_copy (mPc D cI h ad σ [.ref h, .int a0, .int a1, .int a2]) ((mQi D cI h ad r0 σ0)) 0 0 (mA h ad) :=
  mMet (by decide) (Nat.le_of_ble_eq_true rfl) (fun p e s m args below meth c H locs ls S K hr hk hl hs => bdX9_copy S K hr hk _ _ _ _ _ _ hf hl hs)
set_option maxHeartbeats 4000000 in
set_option maxRecDepth 100000 in
theorem bdX9_cost {p : Program} {l : Launch} {e : Env} {s : State} {m : MethodId} {args : Array Value} {below : List Frame} {meth : Method} {c : Code} {H : Heap} {locs : List Loc} {ls : Array Slot} {D : va_G} {cI : ClassId} {h : Nat} {ad : Nat → Nat} (S : CallFix p m c cX9_cost 4 s args WA RX9) (K : va_K D vwCl [(cI, .int)] s) (hr : meth.sig.returnType = (some .int)) (hk : meth.locks = false) (a0 : Int32) (a1 : Int32) (a2 : Int32) (σ : zSt) (r0 : Int32) (σ0 : zSt) (hf : fX9_cost a0 a1 a2 σ = some (r0, σ0)) (hl : lv_has ls 4 [(0, .ref h), (1, .int a0), (2, .int a1), (3, .int a2)]) (hs : mS D cI h ad s σ H locs) : W p l e rmX9_cost s m args below meth c H locs 0 0 (MQ below (mQi D cI h ad r0 σ0) args s 0 0 (mA h ad)) (F0 m 0 ls []) := by
  obtain ⟨res, hres⟩ : ∃ q, q = (r0, σ0) := ⟨_, rfl⟩
  rw [← hres] at hf
  have J30 : ∀ (σ : zSt), fX9_cost_j30 σ = some res → mGo p l e rmX9_cost s m args below meth c (MQ below (mQi D cI h ad r0 σ0) args s 0 0 (mA h ad)) D cI h ad 4 σ [(0, .ref h)] 30 [] := by
    intro σ hf H locs ls hl hs
    unfold fX9_cost_j30 at hf
    refine lv_aload_n S.1 S.2.1 dX9_cost_30 rfl (lv_at hl 0 rfl) ?_
    refine lv_iconst S.1 S.2.1 dX9_cost_31 k_iconst_1 ?_
    refine mcV S K hs hl.1 hf (fun _ _ hX => metX9_fails _ _ _ _ _ _ _ _ _ hX) (cwX9_99 S.2.2.2.2 ⟨Nat.le_of_ble_eq_true rfl, Nat.le_of_ble_eq_true rfl⟩) rfl dX9_cost_32 rfl (Nat.le_of_ble_eq_true rfl) ⟨Nat.le_refl _, Nat.le_refl _⟩ (fun x3 σ4 H locs hs hf => ?_)
    exact mrI S K hr hk hs (hf.trans (congrArg some hres)) dX9_cost_35
  unfold fX9_cost at hf
  refine lv_aload_n S.1 S.2.1 dX9_cost_0 rfl (lv_at hl 0 rfl) ?_
  refine lv_iconst S.1 S.2.1 dX9_cost_1 k_iconst_0 ?_
  refine mp29 S K hs hf dX9_cost_2 (fun σ1 H locs hs hf => ?_)
  refine lv_aload_n S.1 S.2.1 dX9_cost_5 rfl (lv_at hl 0 rfl) ?_
  refine lv_iload_n S.1 S.2.1 dX9_cost_6 rfl (lv_at hl 1 rfl) ?_
  refine mcP S K hs hl.1 hf (fun _ hX => metX9_isCache _ _ _ _ _ _ _ _ hX) (cwX9_105 S.2.2.2.2 ⟨Nat.le_of_ble_eq_true rfl, Nat.le_of_ble_eq_true rfl⟩) rfl dX9_cost_7 rfl (Nat.le_of_ble_eq_true rfl) ⟨Nat.le_refl _, Nat.le_refl _⟩ (fun x2 H locs hs hf => ?_)
  refine z_if_eq (tgt := 30) S hf dX9_cost_10 (by decide) (fun hf => ?_) (fun hf => ?_)
  · exact J30 _ hf _ _ _ (lv_sub hl [0] rfl) hs
  · refine lv_iload_n S.1 S.2.1 dX9_cost_13 rfl (lv_at hl 2 rfl) ?_
    refine mcT S K hs hl.1 hf (fun _ hX => metX9_isLine _ _ _ _ _ _ _ _ hX) (cwX9_108 S.2.2.2.2 ⟨Nat.le_of_ble_eq_true rfl, Nat.le_of_ble_eq_true rfl⟩) rfl dX9_cost_14 rfl (Nat.le_of_ble_eq_true rfl) ⟨Nat.le_refl _, Nat.le_refl _⟩ (fun x5 H locs hs hf => ?_)
    refine z_if_eq (tgt := 30) S hf dX9_cost_17 (by decide) (fun hf => ?_) (fun hf => ?_)
    · exact J30 _ hf _ _ _ (lv_sub hl [0] rfl) hs
    · refine lv_aload_n S.1 S.2.1 dX9_cost_20 rfl (lv_at hl 0 rfl) ?_
      refine lv_iload_n S.1 S.2.1 dX9_cost_21 rfl (lv_at hl 1 rfl) ?_
      refine lv_iload_n S.1 S.2.1 dX9_cost_22 rfl (lv_at hl 2 rfl) ?_
      refine lv_iload_n S.1 S.2.1 dX9_cost_23 rfl (lv_at hl 3 rfl) ?_
      refine mcV S K hs hl.1 hf (fun _ _ hX => metX9_costOf _ _ _ _ _ _ _ _ _ _ _ hX) (cwX9_142 S.2.2.2.2 ⟨Nat.le_of_ble_eq_true rfl, Nat.le_of_ble_eq_true rfl⟩) rfl dX9_cost_24 rfl (Nat.le_of_ble_eq_true rfl) ⟨Nat.le_refl _, Nat.le_refl _⟩ (fun x6 σ7 H locs hs hf => ?_)
      refine lv_goto (tgt := 35) S.1 S.2.1 dX9_cost_27 (by decide) ?_
      exact mrI S K hr hk hs (hf.trans (congrArg some hres)) dX9_cost_35
theorem metX9_cost (l : Launch) (D : va_G) (cI : ClassId) (h : Nat) (ad : Nat → Nat) (a0 : Int32) (a1 : Int32) (a2 : Int32) (σ : zSt) (r0 : Int32) (σ0 : zSt) (hf : fX9_cost a0 a1 a2 σ = some (r0, σ0)) : Met l yX9_cost (Cond.code yX9_cost cX9_cost 4 (some .int) :: WA) rmX9_cost (mPc D cI h ad σ [.ref h, .int a0, .int a1, .int a2]) ((mQi D cI h ad r0 σ0)) 0 0 (mA h ad) :=
  mMet (by decide) (Nat.le_of_ble_eq_true rfl) (fun p e s m args below meth c H locs ls S K hr hk hl hs => bdX9_cost S K hr hk _ _ _ _ _ _ hf hl hs)
set_option maxHeartbeats 4000000 in
set_option maxRecDepth 100000 in
theorem bdX9_waiting {p : Program} {l : Launch} {e : Env} {s : State} {m : MethodId} {args : Array Value} {below : List Frame} {meth : Method} {c : Code} {H : Heap} {locs : List Loc} {ls : Array Slot} {D : va_G} {cI : ClassId} {h : Nat} {ad : Nat → Nat} (S : CallFix p m c cX9_waiting 3 s args WA RX9) (K : va_K D vwCl [(cI, .int)] s) (hr : meth.sig.returnType = (some .int)) (hk : meth.locks = false) (σ : zSt) (r0 : Int32) (hf : fX9_waiting σ = some r0) (hl : lv_has ls 3 [(0, .ref h)]) (hs : mS D cI h ad s σ H locs) : W p l e rmX9_waiting s m args below meth c H locs 0 0 (MQ below (mQi D cI h ad r0 σ) args s 0 0 (mA h ad)) (F0 m 0 ls []) := by
  obtain ⟨res, hres⟩ : ∃ q, q = r0 := ⟨_, rfl⟩
  rw [← hres] at hf
  have J28 : ∀ (C4 : Int32 → Int32 → Option (Int32)) (hC4 : ∀ (y1 : Int32) (y2 : Int32), C4 y1 y2 = some res → mGo p l e rmX9_waiting s m args below meth c (MQ below (mQi D cI h ad r0 σ) args s 0 0 (mA h ad)) D cI h ad 3 σ [(0, .ref h), (1, .int y1), (2, .int y2)] 4 []) (y2 : Int32) (w0 : Int32) (w1 : Int32), fX9_waiting_j28 σ C4 y2 w0 w1 = some res → mGo p l e rmX9_waiting s m args below meth c (MQ below (mQi D cI h ad r0 σ) args s 0 0 (mA h ad)) D cI h ad 3 σ [(0, .ref h), (2, .int y2)] 28 [.int w0, .int w1] := by
    intro C4 hC4 y2 w0 w1 hf H locs ls hl hs
    unfold fX9_waiting_j28 at hf
    refine lv_iadd S.1 S.2.1 dX9_waiting_28 ?_
    refine lv_istore_n (lv' := [(1, .int (w1 + w0)), (0, .ref h), (2, .int y2)]) S.1 S.2.1 dX9_waiting_29 rfl hl (by decide) rfl (fun ls hl => ?_)
    refine lv_iinc (v := y2 + nI 1) (lv' := [(2, .int (y2 + nI 1)), (1, .int (w1 + w0)), (0, .ref h)]) S.1 S.2.1 dX9_waiting_30 hl (k := 2) rfl (by rw [k_iconst_1]) (by decide) rfl (fun ls hl => ?_)
    refine lv_goto (tgt := 4) S.1 S.2.1 dX9_waiting_33 (by decide) ?_
    exact hC4 _ _ hf _ _ _ (lv_sub hl [2, 1, 0] rfl) hs
  have L4 : ∀ (K4 : Int32 → Option (Int32)) (hK4 : ∀ (y1 : Int32), K4 y1 = some res → mGo p l e rmX9_waiting s m args below meth c (MQ below (mQi D cI h ad r0 σ) args s 0 0 (mA h ad)) D cI h ad 3 σ [(0, .ref h), (1, .int y1)] 36 []) (n : Nat) (y1 : Int32) (y2 : Int32), fX9_waiting_l4 σ K4 n y1 y2 = some res → mGo p l e rmX9_waiting s m args below meth c (MQ below (mQi D cI h ad r0 σ) args s 0 0 (mA h ad)) D cI h ad 3 σ [(0, .ref h), (1, .int y1), (2, .int y2)] 4 [] := by
    intro K4 hK4 n
    induction n with
    | zero =>
      intro y1 y2 hf H locs ls hl hs
      rw [fX9_waiting_l4] at hf
      cases hf
    | succ n ih =>
      intro y1 y2 hf H locs ls hl hs
      rw [fX9_waiting_l4] at hf
      refine lv_iload_n S.1 S.2.1 dX9_waiting_4 rfl (lv_at hl 2 rfl) ?_
      refine lv_aload_n S.1 S.2.1 dX9_waiting_5 rfl (lv_at hl 0 rfl) ?_
      refine mg7 S K hs dX9_waiting_6 ?_
      refine lv_iconst S.1 S.2.1 dX9_waiting_9 k_iconst_0 ?_
      refine mld0 S K hs hf dX9_waiting_10 (fun x1 hf => ?_)
      refine z_icmp_ge (tgt := 36) S hf dX9_waiting_11 (by decide) (fun hf => ?_) (fun hf => ?_)
      · exact hK4 _ hf _ _ _ (lv_sub hl [0, 1] rfl) hs
      · refine lv_iload_n S.1 S.2.1 dX9_waiting_14 rfl (lv_at hl 1 rfl) ?_
        refine lv_aload_n S.1 S.2.1 dX9_waiting_15 rfl (lv_at hl 0 rfl) ?_
        refine lv_iload_n S.1 S.2.1 dX9_waiting_16 rfl (lv_at hl 2 rfl) ?_
        refine mcP S K hs hl.1 hf (fun _ hX => metX9_isAsking _ _ _ _ _ _ _ _ hX) (cwX9_95 S.2.2.2.2 ⟨Nat.le_of_ble_eq_true rfl, Nat.le_of_ble_eq_true rfl⟩) rfl dX9_waiting_17 rfl (Nat.le_of_ble_eq_true rfl) ⟨Nat.le_refl _, Nat.le_refl _⟩ (fun x2 H locs hs hf => ?_)
        refine z_if_eq (tgt := 27) S hf dX9_waiting_20 (by decide) (fun hf => ?_) (fun hf => ?_)
        · refine lv_iconst S.1 S.2.1 dX9_waiting_27 k_iconst_0 ?_
          exact J28 _ ih _ _ _ hf _ _ _ (lv_sub hl [0, 2] rfl) hs
        · refine lv_iconst S.1 S.2.1 dX9_waiting_23 k_iconst_1 ?_
          refine lv_goto (tgt := 28) S.1 S.2.1 dX9_waiting_24 (by decide) ?_
          exact J28 _ ih _ _ _ hf _ _ _ (lv_sub hl [0, 2] rfl) hs
  unfold fX9_waiting at hf
  refine lv_iconst S.1 S.2.1 dX9_waiting_0 k_iconst_0 ?_
  refine lv_istore_n (lv' := [(1, .int (nI 0)), (0, .ref h)]) S.1 S.2.1 dX9_waiting_1 rfl hl (by decide) rfl (fun ls hl => ?_)
  refine lv_iconst S.1 S.2.1 dX9_waiting_2 k_iconst_0 ?_
  refine lv_istore_n (lv' := [(2, .int (nI 0)), (1, .int (nI 0)), (0, .ref h)]) S.1 S.2.1 dX9_waiting_3 rfl hl (by decide) rfl (fun ls hl => ?_)
  refine L4 _ (fun x3 hf H locs ls hl hs => ?_) _ _ _ hf _ _ _ (lv_sub hl [2, 1, 0] rfl) hs
  refine lv_iload_n S.1 S.2.1 dX9_waiting_36 rfl (lv_at hl 1 rfl) ?_
  exact mrP S K hr hk hs (hf.trans (congrArg some hres)) dX9_waiting_37
theorem metX9_waiting (l : Launch) (D : va_G) (cI : ClassId) (h : Nat) (ad : Nat → Nat) (σ : zSt) (r0 : Int32) (hf : fX9_waiting σ = some r0) : Met l yX9_waiting (Cond.code yX9_waiting cX9_waiting 3 (some .int) :: WA) rmX9_waiting (mPc D cI h ad σ [.ref h]) ((mQi D cI h ad r0 σ)) 0 0 (mA h ad) :=
  mMet (by decide) (Nat.le_of_ble_eq_true rfl) (fun p e s m args below meth c H locs ls S K hr hk hl hs => bdX9_waiting S K hr hk  _ _ hf hl hs)
set_option maxHeartbeats 4000000 in
set_option maxRecDepth 100000 in
theorem bdX9_number {p : Program} {l : Launch} {e : Env} {s : State} {m : MethodId} {args : Array Value} {below : List Frame} {meth : Method} {c : Code} {H : Heap} {locs : List Loc} {ls : Array Slot} {D : va_G} {cI : ClassId} {h : Nat} {ad : Nat → Nat} (S : CallFix p m c cX9_number 2 s args WA RX9) (K : va_K D vwCl [(cI, .int)] s) (hr : meth.sig.returnType = (some .int)) (hk : meth.locks = false) (a0 : Int32) (σ : zSt) (r0 : Int32) (hf : fX9_number a0 σ = some r0) (hl : lv_has ls 2 [(0, .ref h), (1, .int a0)]) (hs : mS D cI h ad s σ H locs) : W p l e rmX9_number s m args below meth c H locs 0 0 (MQ below (mQi D cI h ad r0 σ) args s 0 0 (mA h ad)) (F0 m 0 ls []) := by
  unfold fX9_number at hf
  refine lv_iload_n S.1 S.2.1 dX9_number_0 rfl (lv_at hl 1 rfl) ?_
  refine lv_bipush S.1 S.2.1 dX9_number_1 k_bipush_12 ?_
  refine z_icmp_ne (tgt := 13) S hf dX9_number_3 (by decide) (fun hf => ?_) (fun hf => ?_)
  · refine lv_iload_n S.1 S.2.1 dX9_number_13 rfl (lv_at hl 1 rfl) ?_
    refine lv_bipush S.1 S.2.1 dX9_number_14 k_bipush_13 ?_
    refine z_icmp_ne (tgt := 29) S hf dX9_number_16 (by decide) (fun hf => ?_) (fun hf => ?_)
    · refine lv_aload_n S.1 S.2.1 dX9_number_29 rfl (lv_at hl 0 rfl) ?_
      refine mg7 S K hs dX9_number_30 ?_
      refine lv_iload_n S.1 S.2.1 dX9_number_33 rfl (lv_at hl 1 rfl) ?_
      refine mld0 S K hs hf dX9_number_34 (fun x1 hf => ?_)
      exact mrP S K hr hk hs hf dX9_number_35
    · refine lv_aload_n S.1 S.2.1 dX9_number_19 rfl (lv_at hl 0 rfl) ?_
      refine mg7 S K hs dX9_number_20 ?_
      refine lv_bipush S.1 S.2.1 dX9_number_23 k_bipush_12 ?_
      refine mld0 S K hs hf dX9_number_25 (fun x2 hf => ?_)
      refine lv_goto (tgt := 35) S.1 S.2.1 dX9_number_26 (by decide) ?_
      exact mrP S K hr hk hs hf dX9_number_35
  · refine lv_aload_n S.1 S.2.1 dX9_number_6 rfl (lv_at hl 0 rfl) ?_
    refine mcP S K hs hl.1 hf (fun _ hX => metX9_waiting _ _ _ _ _ _ _ hX) (cwX9_130 S.2.2.2.2 ⟨Nat.le_of_ble_eq_true rfl, Nat.le_of_ble_eq_true rfl⟩) rfl dX9_number_7 rfl (Nat.le_of_ble_eq_true rfl) ⟨Nat.le_refl _, Nat.le_refl _⟩ (fun x3 H locs hs hf => ?_)
    refine lv_goto (tgt := 35) S.1 S.2.1 dX9_number_10 (by decide) ?_
    exact mrP S K hr hk hs hf dX9_number_35
theorem metX9_number (l : Launch) (D : va_G) (cI : ClassId) (h : Nat) (ad : Nat → Nat) (a0 : Int32) (σ : zSt) (r0 : Int32) (hf : fX9_number a0 σ = some r0) : Met l yX9_number (Cond.code yX9_number cX9_number 2 (some .int) :: WA) rmX9_number (mPc D cI h ad σ [.ref h, .int a0]) ((mQi D cI h ad r0 σ)) 0 0 (mA h ad) :=
  mMet (by decide) (Nat.le_of_ble_eq_true rfl) (fun p e s m args below meth c H locs ls S K hr hk hl hs => bdX9_number S K hr hk _ _ _ hf hl hs)
set_option maxHeartbeats 4000000 in
set_option maxRecDepth 100000 in
theorem bdX9_nextTorn {p : Program} {l : Launch} {e : Env} {s : State} {m : MethodId} {args : Array Value} {below : List Frame} {meth : Method} {c : Code} {H : Heap} {locs : List Loc} {ls : Array Slot} {D : va_G} {cI : ClassId} {h : Nat} {ad : Nat → Nat} (S : CallFix p m c cX9_nextTorn 1 s args WA RX9) (K : va_K D vwCl [(cI, .int)] s) (hr : meth.sig.returnType = (some .int)) (hk : meth.locks = false) (σ : zSt) (r0 : Int32) (σ0 : zSt) (hf : fX9_nextTorn σ = some (r0, σ0)) (hl : lv_has ls 1 [(0, .ref h)]) (hs : mS D cI h ad s σ H locs) : W p l e rmX9_nextTorn s m args below meth c H locs 0 0 (MQ below (mQi D cI h ad r0 σ0) args s 0 0 (mA h ad)) (F0 m 0 ls []) := by
  unfold fX9_nextTorn at hf
  refine lv_aload_n S.1 S.2.1 dX9_nextTorn_0 rfl (lv_at hl 0 rfl) ?_
  refine lv_iconst S.1 S.2.1 dX9_nextTorn_1 k_iconst_0 ?_
  refine mp29 S K hs hf dX9_nextTorn_2 (fun σ1 H locs hs hf => ?_)
  refine lv_aload_n S.1 S.2.1 dX9_nextTorn_5 rfl (lv_at hl 0 rfl) ?_
  refine mg7 S K hs dX9_nextTorn_6 ?_
  refine lv_iconst S.1 S.2.1 dX9_nextTorn_9 k_iconst_3 ?_
  refine mld0 S K hs hf dX9_nextTorn_10 (fun x2 hf => ?_)
  refine lv_aload_n S.1 S.2.1 dX9_nextTorn_11 rfl (lv_at hl 0 rfl) ?_
  refine mg7 S K hs dX9_nextTorn_12 ?_
  refine lv_iconst S.1 S.2.1 dX9_nextTorn_15 k_iconst_2 ?_
  refine mld0 S K hs hf dX9_nextTorn_16 (fun x3 hf => ?_)
  refine z_icmp_ne (tgt := 32) S hf dX9_nextTorn_17 (by decide) (fun hf => ?_) (fun hf => ?_)
  · refine lv_iconst S.1 S.2.1 dX9_nextTorn_32 k_iconst_m1 ?_
    exact mrI S K hr hk hs hf dX9_nextTorn_33
  · refine lv_aload_n S.1 S.2.1 dX9_nextTorn_20 rfl (lv_at hl 0 rfl) ?_
    refine mg7 S K hs dX9_nextTorn_21 ?_
    refine lv_aload_n S.1 S.2.1 dX9_nextTorn_24 rfl (lv_at hl 0 rfl) ?_
    refine mcP S K hs hl.1 hf (fun _ hX => metX9_oldestPage _ _ _ _ _ _ _ hX) (cwX9_55 S.2.2.2.2 ⟨Nat.le_of_ble_eq_true rfl, Nat.le_of_ble_eq_true rfl⟩) rfl dX9_nextTorn_25 rfl (Nat.le_of_ble_eq_true rfl) ⟨Nat.le_refl _, Nat.le_refl _⟩ (fun x4 H locs hs hf => ?_)
    refine mld0 S K hs hf dX9_nextTorn_28 (fun x5 hf => ?_)
    refine lv_goto (tgt := 33) S.1 S.2.1 dX9_nextTorn_29 (by decide) ?_
    exact mrI S K hr hk hs hf dX9_nextTorn_33
theorem metX9_nextTorn (l : Launch) (D : va_G) (cI : ClassId) (h : Nat) (ad : Nat → Nat) (σ : zSt) (r0 : Int32) (σ0 : zSt) (hf : fX9_nextTorn σ = some (r0, σ0)) : Met l yX9_nextTorn (Cond.code yX9_nextTorn cX9_nextTorn 1 (some .int) :: WA) rmX9_nextTorn (mPc D cI h ad σ [.ref h]) ((mQi D cI h ad r0 σ0)) 0 0 (mA h ad) :=
  mMet (by decide) (Nat.le_of_ble_eq_true rfl) (fun p e s m args below meth c H locs ls S K hr hk hl hs => bdX9_nextTorn S K hr hk  _ _ _ hf hl hs)
set_option maxHeartbeats 4000000 in
set_option maxRecDepth 100000 in
theorem bdX9_digest {p : Program} {l : Launch} {e : Env} {s : State} {m : MethodId} {args : Array Value} {below : List Frame} {meth : Method} {c : Code} {H : Heap} {locs : List Loc} {ls : Array Slot} {D : va_G} {cI : ClassId} {h : Nat} {ad : Nat → Nat} (S : CallFix p m c cX9_digest 5 s args WA RX9) (K : va_K D vwCl [(cI, .int)] s) (hr : meth.sig.returnType = (some .long)) (hk : meth.locks = false) (σ : zSt) (r0 : Int64) (σ0 : zSt) (hf : fX9_digest σ = some (r0, σ0)) (hl : lv_has ls 5 [(0, .ref h)]) (hs : mS D cI h ad s σ H locs) : W p l e rmX9_digest s m args below meth c H locs 0 0 (MQ below (mQl D cI h ad r0 σ0) args s 0 0 (mA h ad)) (F0 m 0 ls []) := by
  obtain ⟨res, hres⟩ : ∃ q, q = (r0, σ0) := ⟨_, rfl⟩
  rw [← hres] at hf
  have L17 : ∀ (K17 : Int64 → zSt → Option (Int64 × zSt)) (hK17 : ∀ (y1 : Int64) (σ : zSt), K17 y1 σ = some res → mGo p l e rmX9_digest s m args below meth c (MQ below (mQl D cI h ad r0 σ0) args s 0 0 (mA h ad)) D cI h ad 5 σ [(0, .ref h), (1, .long y1)] 42 []) (n : Nat) (y1 : Int64) (y3 : Int32) (σ : zSt), fX9_digest_l17 K17 n y1 y3 σ = some res → mGo p l e rmX9_digest s m args below meth c (MQ below (mQl D cI h ad r0 σ0) args s 0 0 (mA h ad)) D cI h ad 5 σ [(0, .ref h), (1, .long y1), (3, .int y3)] 17 [] := by
    intro K17 hK17 n
    induction n with
    | zero =>
      intro y1 y3 σ hf H locs ls hl hs
      rw [fX9_digest_l17] at hf
      cases hf
    | succ n ih =>
      intro y1 y3 σ hf H locs ls hl hs
      rw [fX9_digest_l17] at hf
      refine lv_iload_n S.1 S.2.1 dX9_digest_17 rfl (lv_at hl 2 rfl) ?_
      refine lv_bipush S.1 S.2.1 dX9_digest_18 k_bipush_14 ?_
      refine z_icmp_ge (tgt := 42) S hf dX9_digest_20 (by decide) (fun hf => ?_) (fun hf => ?_)
      · exact hK17 _ _ hf _ _ _ (lv_sub hl [0, 1] rfl) hs
      · refine lv_ldc2 (v := 31) S.1 S.2.1 S.2.2.2.1 (S.2.2.2.2 _ (z_in0 _ (List.mem_of_getElem? (i := 872) (by decide +kernel)))) dX9_digest_23 ?_
        refine lv_lload_n S.1 S.2.1 dX9_digest_26 rfl (lv_at hl 1 rfl) ?_
        refine lv_lmul S.1 S.2.1 dX9_digest_27 ?_
        refine lv_aload_n S.1 S.2.1 dX9_digest_28 rfl (lv_at hl 0 rfl) ?_
        refine lv_iload_n S.1 S.2.1 dX9_digest_29 rfl (lv_at hl 2 rfl) ?_
        refine mcP S K hs hl.1 hf (fun _ hX => metX9_number _ _ _ _ _ _ _ _ hX) (cwX9_133 S.2.2.2.2 ⟨Nat.le_of_ble_eq_true rfl, Nat.le_of_ble_eq_true rfl⟩) rfl dX9_digest_30 rfl (Nat.le_of_ble_eq_true rfl) ⟨Nat.le_refl _, Nat.le_refl _⟩ (fun x2 H locs hs hf => ?_)
        refine lv_i2l S.1 S.2.1 dX9_digest_33 rfl ?_
        refine lv_ladd S.1 S.2.1 dX9_digest_34 ?_
        refine lv_lstore_n (lv' := [(1, .long (((31 : Int64) * y1) + x2.toInt64)), (0, .ref h), (3, .int y3)]) S.1 S.2.1 dX9_digest_35 rfl hl (by decide) rfl (fun ls hl => ?_)
        refine lv_iinc (v := y3 + nI 1) (lv' := [(3, .int (y3 + nI 1)), (1, .long (((31 : Int64) * y1) + x2.toInt64)), (0, .ref h)]) S.1 S.2.1 dX9_digest_36 hl (k := 2) rfl (by rw [k_iconst_1]) (by decide) rfl (fun ls hl => ?_)
        refine lv_goto (tgt := 17) S.1 S.2.1 dX9_digest_39 (by decide) ?_
        exact ih _ _ _ hf _ _ _ (lv_sub hl [2, 1, 0] rfl) hs
  have L53 : ∀ (K53 : Int64 → Int32 → zSt → Option (Int64 × zSt)) (hK53 : ∀ (y1 : Int64) (y3 : Int32) (σ : zSt), K53 y1 y3 σ = some res → mGo p l e rmX9_digest s m args below meth c (MQ below (mQl D cI h ad r0 σ0) args s 0 0 (mA h ad)) D cI h ad 5 σ [(0, .ref h), (1, .long y1), (3, .int y3)] 81 []) (n : Nat) (y1 : Int64) (y3 : Int32) (y4 : Int32) (σ : zSt), fX9_digest_l53 K53 n y1 y3 y4 σ = some res → mGo p l e rmX9_digest s m args below meth c (MQ below (mQl D cI h ad r0 σ0) args s 0 0 (mA h ad)) D cI h ad 5 σ [(0, .ref h), (1, .long y1), (3, .int y3), (4, .int y4)] 53 [] := by
    intro K53 hK53 n
    induction n with
    | zero =>
      intro y1 y3 y4 σ hf H locs ls hl hs
      rw [fX9_digest_l53] at hf
      cases hf
    | succ n ih =>
      intro y1 y3 y4 σ hf H locs ls hl hs
      rw [fX9_digest_l53] at hf
      refine lv_iload S.1 S.2.1 dX9_digest_53 (lv_at hl 3 rfl) ?_
      refine lv_bipush S.1 S.2.1 dX9_digest_55 k_bipush_8 ?_
      refine z_icmp_ge (tgt := 81) S hf dX9_digest_57 (by decide) (fun hf => ?_) (fun hf => ?_)
      · exact hK53 _ _ _ hf _ _ _ (lv_sub hl [0, 1, 2] rfl) hs
      · refine lv_ldc2 (v := 31) S.1 S.2.1 S.2.2.2.1 (S.2.2.2.2 _ (z_in0 _ (List.mem_of_getElem? (i := 872) (by decide +kernel)))) dX9_digest_60 ?_
        refine lv_lload_n S.1 S.2.1 dX9_digest_63 rfl (lv_at hl 1 rfl) ?_
        refine lv_lmul S.1 S.2.1 dX9_digest_64 ?_
        refine lv_aload_n S.1 S.2.1 dX9_digest_65 rfl (lv_at hl 0 rfl) ?_
        refine lv_iload_n S.1 S.2.1 dX9_digest_66 rfl (lv_at hl 2 rfl) ?_
        refine lv_iload S.1 S.2.1 dX9_digest_67 (lv_at hl 3 rfl) ?_
        refine mcP S K hs hl.1 hf (fun _ hX => metX9_aboutLine _ _ _ _ _ _ _ _ _ hX) (cwX9_124 S.2.2.2.2 ⟨Nat.le_of_ble_eq_true rfl, Nat.le_of_ble_eq_true rfl⟩) rfl dX9_digest_69 rfl (Nat.le_of_ble_eq_true rfl) ⟨Nat.le_refl _, Nat.le_refl _⟩ (fun x5 H locs hs hf => ?_)
        refine lv_i2l S.1 S.2.1 dX9_digest_72 rfl ?_
        refine lv_ladd S.1 S.2.1 dX9_digest_73 ?_
        refine lv_lstore_n (lv' := [(1, .long (((31 : Int64) * y1) + x5.toInt64)), (0, .ref h), (3, .int y3), (4, .int y4)]) S.1 S.2.1 dX9_digest_74 rfl hl (by decide) rfl (fun ls hl => ?_)
        refine lv_iinc (v := y4 + nI 1) (lv' := [(4, .int (y4 + nI 1)), (1, .long (((31 : Int64) * y1) + x5.toInt64)), (0, .ref h), (3, .int y3)]) S.1 S.2.1 dX9_digest_75 hl (k := 3) rfl (by rw [k_iconst_1]) (by decide) rfl (fun ls hl => ?_)
        refine lv_goto (tgt := 53) S.1 S.2.1 dX9_digest_78 (by decide) ?_
        exact ih _ _ _ _ hf _ _ _ (lv_sub hl [2, 1, 3, 0] rfl) hs
  have L84 : ∀ (K84 : Int64 → Int32 → zSt → Option (Int64 × zSt)) (hK84 : ∀ (y1 : Int64) (y3 : Int32) (σ : zSt), K84 y1 y3 σ = some res → mGo p l e rmX9_digest s m args below meth c (MQ below (mQl D cI h ad r0 σ0) args s 0 0 (mA h ad)) D cI h ad 5 σ [(0, .ref h), (1, .long y1), (3, .int y3)] 124 []) (n : Nat) (y1 : Int64) (y3 : Int32) (y4 : Int32) (σ : zSt), fX9_digest_l84 K84 n y1 y3 y4 σ = some res → mGo p l e rmX9_digest s m args below meth c (MQ below (mQl D cI h ad r0 σ0) args s 0 0 (mA h ad)) D cI h ad 5 σ [(0, .ref h), (1, .long y1), (3, .int y3), (4, .int y4)] 84 [] := by
    intro K84 hK84 n
    induction n with
    | zero =>
      intro y1 y3 y4 σ hf H locs ls hl hs
      rw [fX9_digest_l84] at hf
      cases hf
    | succ n ih =>
      intro y1 y3 y4 σ hf H locs ls hl hs
      rw [fX9_digest_l84] at hf
      refine lv_iload S.1 S.2.1 dX9_digest_84 (lv_at hl 3 rfl) ?_
      refine lv_iconst S.1 S.2.1 dX9_digest_86 k_iconst_4 ?_
      refine lv_aload_n S.1 S.2.1 dX9_digest_87 rfl (lv_at hl 0 rfl) ?_
      refine mg7 S K hs dX9_digest_88 ?_
      refine lv_iconst S.1 S.2.1 dX9_digest_91 k_iconst_0 ?_
      refine mld0 S K hs hf dX9_digest_92 (fun x9 hf => ?_)
      refine lv_imul S.1 S.2.1 dX9_digest_93 ?_
      refine z_icmp_ge (tgt := 124) S hf dX9_digest_94 (by decide) (fun hf => ?_) (fun hf => ?_)
      · exact hK84 _ _ _ hf _ _ _ (lv_sub hl [0, 1, 2] rfl) hs
      · refine lv_ldc2 (v := 31) S.1 S.2.1 S.2.2.2.1 (S.2.2.2.2 _ (z_in0 _ (List.mem_of_getElem? (i := 872) (by decide +kernel)))) dX9_digest_97 ?_
        refine lv_lload_n S.1 S.2.1 dX9_digest_100 rfl (lv_at hl 1 rfl) ?_
        refine lv_lmul S.1 S.2.1 dX9_digest_101 ?_
        refine lv_aload_n S.1 S.2.1 dX9_digest_102 rfl (lv_at hl 0 rfl) ?_
        refine lv_iload S.1 S.2.1 dX9_digest_103 (lv_at hl 3 rfl) ?_
        refine lv_iconst S.1 S.2.1 dX9_digest_105 k_iconst_4 ?_
        refine z_idiv S hf dX9_digest_106 (fun x10 hf => ?_)
        refine lv_iload_n S.1 S.2.1 dX9_digest_107 rfl (lv_at hl 2 rfl) ?_
        refine lv_iload S.1 S.2.1 dX9_digest_108 (lv_at hl 3 rfl) ?_
        refine lv_iconst S.1 S.2.1 dX9_digest_110 k_iconst_4 ?_
        refine z_irem S hf dX9_digest_111 (fun x11 hf => ?_)
        refine mcP S K hs hl.1 hf (fun _ hX => metX9_aboutCopy _ _ _ _ _ _ _ _ _ _ hX) (cwX9_121 S.2.2.2.2 ⟨Nat.le_of_ble_eq_true rfl, Nat.le_of_ble_eq_true rfl⟩) rfl dX9_digest_112 rfl (Nat.le_of_ble_eq_true rfl) ⟨Nat.le_refl _, Nat.le_refl _⟩ (fun x12 H locs hs hf => ?_)
        refine lv_i2l S.1 S.2.1 dX9_digest_115 rfl ?_
        refine lv_ladd S.1 S.2.1 dX9_digest_116 ?_
        refine lv_lstore_n (lv' := [(1, .long (((31 : Int64) * y1) + x12.toInt64)), (0, .ref h), (3, .int y3), (4, .int y4)]) S.1 S.2.1 dX9_digest_117 rfl hl (by decide) rfl (fun ls hl => ?_)
        refine lv_iinc (v := y4 + nI 1) (lv' := [(4, .int (y4 + nI 1)), (1, .long (((31 : Int64) * y1) + x12.toInt64)), (0, .ref h), (3, .int y3)]) S.1 S.2.1 dX9_digest_118 hl (k := 3) rfl (by rw [k_iconst_1]) (by decide) rfl (fun ls hl => ?_)
        refine lv_goto (tgt := 84) S.1 S.2.1 dX9_digest_121 (by decide) ?_
        exact ih _ _ _ _ hf _ _ _ (lv_sub hl [2, 1, 3, 0] rfl) hs
  have L44 : ∀ (K44 : Int64 → zSt → Option (Int64 × zSt)) (hK44 : ∀ (y1 : Int64) (σ : zSt), K44 y1 σ = some res → mGo p l e rmX9_digest s m args below meth c (MQ below (mQl D cI h ad r0 σ0) args s 0 0 (mA h ad)) D cI h ad 5 σ [(0, .ref h), (1, .long y1)] 130 []) (n : Nat) (y1 : Int64) (y3 : Int32) (σ : zSt), fX9_digest_l44 K44 n y1 y3 σ = some res → mGo p l e rmX9_digest s m args below meth c (MQ below (mQl D cI h ad r0 σ0) args s 0 0 (mA h ad)) D cI h ad 5 σ [(0, .ref h), (1, .long y1), (3, .int y3)] 44 [] := by
    intro K44 hK44 n
    induction n with
    | zero =>
      intro y1 y3 σ hf H locs ls hl hs
      rw [fX9_digest_l44] at hf
      cases hf
    | succ n ih =>
      intro y1 y3 σ hf H locs ls hl hs
      rw [fX9_digest_l44] at hf
      refine lv_iload_n S.1 S.2.1 dX9_digest_44 rfl (lv_at hl 2 rfl) ?_
      refine lv_bipush S.1 S.2.1 dX9_digest_45 k_bipush_32 ?_
      refine z_icmp_ge (tgt := 130) S hf dX9_digest_47 (by decide) (fun hf => ?_) (fun hf => ?_)
      · exact hK44 _ _ hf _ _ _ (lv_sub hl [0, 1] rfl) hs
      · refine lv_iconst S.1 S.2.1 dX9_digest_50 k_iconst_0 ?_
        refine lv_istore (lv' := [(4, .int (nI 0)), (0, .ref h), (1, .long y1), (3, .int y3)]) S.1 S.2.1 dX9_digest_51 hl (by decide) rfl (fun ls hl => ?_)
        refine L53 _ (fun x6 x7 σ8 hf H locs ls hl hs => ?_) _ _ _ _ _ hf _ _ _ (lv_sub hl [1, 2, 3, 0] rfl) hs
        refine lv_iconst S.1 S.2.1 dX9_digest_81 k_iconst_0 ?_
        refine lv_istore (lv' := [(4, .int (nI 0)), (0, .ref h), (1, .long x6), (3, .int x7)]) S.1 S.2.1 dX9_digest_82 hl (by decide) rfl (fun ls hl => ?_)
        refine L84 _ (fun x13 x14 σ15 hf H locs ls hl hs => ?_) _ _ _ _ _ hf _ _ _ (lv_sub hl [1, 2, 3, 0] rfl) hs
        refine lv_iinc (v := x14 + nI 1) (lv' := [(3, .int (x14 + nI 1)), (0, .ref h), (1, .long x13)]) S.1 S.2.1 dX9_digest_124 hl (k := 2) rfl (by rw [k_iconst_1]) (by decide) rfl (fun ls hl => ?_)
        refine lv_goto (tgt := 44) S.1 S.2.1 dX9_digest_127 (by decide) ?_
        exact ih _ _ _ hf _ _ _ (lv_sub hl [1, 2, 0] rfl) hs
  have L132 : ∀ (K132 : Int64 → zSt → Option (Int64 × zSt)) (hK132 : ∀ (y1 : Int64) (σ : zSt), K132 y1 σ = some res → mGo p l e rmX9_digest s m args below meth c (MQ below (mQl D cI h ad r0 σ0) args s 0 0 (mA h ad)) D cI h ad 5 σ [(0, .ref h), (1, .long y1)] 168 []) (n : Nat) (y1 : Int64) (y3 : Int32) (σ : zSt), fX9_digest_l132 K132 n y1 y3 σ = some res → mGo p l e rmX9_digest s m args below meth c (MQ below (mQl D cI h ad r0 σ0) args s 0 0 (mA h ad)) D cI h ad 5 σ [(0, .ref h), (1, .long y1), (3, .int y3)] 132 [] := by
    intro K132 hK132 n
    induction n with
    | zero =>
      intro y1 y3 σ hf H locs ls hl hs
      rw [fX9_digest_l132] at hf
      cases hf
    | succ n ih =>
      intro y1 y3 σ hf H locs ls hl hs
      rw [fX9_digest_l132] at hf
      refine lv_iload_n S.1 S.2.1 dX9_digest_132 rfl (lv_at hl 2 rfl) ?_
      refine lv_iconst S.1 S.2.1 dX9_digest_133 k_iconst_3 ?_
      refine lv_aload_n S.1 S.2.1 dX9_digest_134 rfl (lv_at hl 0 rfl) ?_
      refine mg7 S K hs dX9_digest_135 ?_
      refine lv_iconst S.1 S.2.1 dX9_digest_138 k_iconst_0 ?_
      refine mld0 S K hs hf dX9_digest_139 (fun x18 hf => ?_)
      refine lv_imul S.1 S.2.1 dX9_digest_140 ?_
      refine z_icmp_ge (tgt := 168) S hf dX9_digest_141 (by decide) (fun hf => ?_) (fun hf => ?_)
      · exact hK132 _ _ hf _ _ _ (lv_sub hl [0, 1] rfl) hs
      · refine lv_ldc2 (v := 31) S.1 S.2.1 S.2.2.2.1 (S.2.2.2.2 _ (z_in0 _ (List.mem_of_getElem? (i := 872) (by decide +kernel)))) dX9_digest_144 ?_
        refine lv_lload_n S.1 S.2.1 dX9_digest_147 rfl (lv_at hl 1 rfl) ?_
        refine lv_lmul S.1 S.2.1 dX9_digest_148 ?_
        refine lv_aload_n S.1 S.2.1 dX9_digest_149 rfl (lv_at hl 0 rfl) ?_
        refine lv_iload_n S.1 S.2.1 dX9_digest_150 rfl (lv_at hl 2 rfl) ?_
        refine lv_iconst S.1 S.2.1 dX9_digest_151 k_iconst_3 ?_
        refine z_idiv S hf dX9_digest_152 (fun x19 hf => ?_)
        refine lv_iload_n S.1 S.2.1 dX9_digest_153 rfl (lv_at hl 2 rfl) ?_
        refine lv_iconst S.1 S.2.1 dX9_digest_154 k_iconst_3 ?_
        refine z_irem S hf dX9_digest_155 (fun x20 hf => ?_)
        refine mcP S K hs hl.1 hf (fun _ hX => metX9_aboutPending _ _ _ _ _ _ _ _ _ hX) (cwX9_127 S.2.2.2.2 ⟨Nat.le_of_ble_eq_true rfl, Nat.le_of_ble_eq_true rfl⟩) rfl dX9_digest_156 rfl (Nat.le_of_ble_eq_true rfl) ⟨Nat.le_refl _, Nat.le_refl _⟩ (fun x21 H locs hs hf => ?_)
        refine lv_i2l S.1 S.2.1 dX9_digest_159 rfl ?_
        refine lv_ladd S.1 S.2.1 dX9_digest_160 ?_
        refine lv_lstore_n (lv' := [(1, .long (((31 : Int64) * y1) + x21.toInt64)), (0, .ref h), (3, .int y3)]) S.1 S.2.1 dX9_digest_161 rfl hl (by decide) rfl (fun ls hl => ?_)
        refine lv_iinc (v := y3 + nI 1) (lv' := [(3, .int (y3 + nI 1)), (1, .long (((31 : Int64) * y1) + x21.toInt64)), (0, .ref h)]) S.1 S.2.1 dX9_digest_162 hl (k := 2) rfl (by rw [k_iconst_1]) (by decide) rfl (fun ls hl => ?_)
        refine lv_goto (tgt := 132) S.1 S.2.1 dX9_digest_165 (by decide) ?_
        exact ih _ _ _ hf _ _ _ (lv_sub hl [2, 1, 0] rfl) hs
  have L170 : ∀ (K170 : Int64 → zSt → Option (Int64 × zSt)) (hK170 : ∀ (y1 : Int64) (σ : zSt), K170 y1 σ = some res → mGo p l e rmX9_digest s m args below meth c (MQ below (mQl D cI h ad r0 σ0) args s 0 0 (mA h ad)) D cI h ad 5 σ [(0, .ref h), (1, .long y1)] 208 []) (n : Nat) (y1 : Int64) (y3 : Int32) (σ : zSt), fX9_digest_l170 K170 n y1 y3 σ = some res → mGo p l e rmX9_digest s m args below meth c (MQ below (mQl D cI h ad r0 σ0) args s 0 0 (mA h ad)) D cI h ad 5 σ [(0, .ref h), (1, .long y1), (3, .int y3)] 170 [] := by
    intro K170 hK170 n
    induction n with
    | zero =>
      intro y1 y3 σ hf H locs ls hl hs
      rw [fX9_digest_l170] at hf
      cases hf
    | succ n ih =>
      intro y1 y3 σ hf H locs ls hl hs
      rw [fX9_digest_l170] at hf
      refine lv_iload_n S.1 S.2.1 dX9_digest_170 rfl (lv_at hl 2 rfl) ?_
      refine lv_bipush S.1 S.2.1 dX9_digest_171 k_bipush_6 ?_
      refine lv_aload_n S.1 S.2.1 dX9_digest_173 rfl (lv_at hl 0 rfl) ?_
      refine mg7 S K hs dX9_digest_174 ?_
      refine lv_bipush S.1 S.2.1 dX9_digest_177 k_bipush_12 ?_
      refine mld0 S K hs hf dX9_digest_179 (fun x24 hf => ?_)
      refine lv_imul S.1 S.2.1 dX9_digest_180 ?_
      refine z_icmp_ge (tgt := 208) S hf dX9_digest_181 (by decide) (fun hf => ?_) (fun hf => ?_)
      · exact hK170 _ _ hf _ _ _ (lv_sub hl [0, 1] rfl) hs
      · refine lv_ldc2 (v := 31) S.1 S.2.1 S.2.2.2.1 (S.2.2.2.2 _ (z_in0 _ (List.mem_of_getElem? (i := 872) (by decide +kernel)))) dX9_digest_184 ?_
        refine lv_lload_n S.1 S.2.1 dX9_digest_187 rfl (lv_at hl 1 rfl) ?_
        refine lv_lmul S.1 S.2.1 dX9_digest_188 ?_
        refine lv_aload_n S.1 S.2.1 dX9_digest_189 rfl (lv_at hl 0 rfl) ?_
        refine mg7 S K hs dX9_digest_190 ?_
        refine lv_sipush S.1 S.2.1 dX9_digest_193 k_sipush_384 ?_
        refine lv_iload_n S.1 S.2.1 dX9_digest_196 rfl (lv_at hl 2 rfl) ?_
        refine lv_iadd S.1 S.2.1 dX9_digest_197 ?_
        refine mld0 S K hs hf dX9_digest_198 (fun x25 hf => ?_)
        refine lv_i2l S.1 S.2.1 dX9_digest_199 rfl ?_
        refine lv_ladd S.1 S.2.1 dX9_digest_200 ?_
        refine lv_lstore_n (lv' := [(1, .long (((31 : Int64) * y1) + x25.toInt64)), (0, .ref h), (3, .int y3)]) S.1 S.2.1 dX9_digest_201 rfl hl (by decide) rfl (fun ls hl => ?_)
        refine lv_iinc (v := y3 + nI 1) (lv' := [(3, .int (y3 + nI 1)), (1, .long (((31 : Int64) * y1) + x25.toInt64)), (0, .ref h)]) S.1 S.2.1 dX9_digest_202 hl (k := 2) rfl (by rw [k_iconst_1]) (by decide) rfl (fun ls hl => ?_)
        refine lv_goto (tgt := 170) S.1 S.2.1 dX9_digest_205 (by decide) ?_
        exact ih _ _ _ hf _ _ _ (lv_sub hl [2, 1, 0] rfl) hs
  unfold fX9_digest at hf
  refine lv_aload_n S.1 S.2.1 dX9_digest_0 rfl (lv_at hl 0 rfl) ?_
  refine lv_iconst S.1 S.2.1 dX9_digest_1 k_iconst_0 ?_
  refine mp29 S K hs hf dX9_digest_2 (fun σ1 H locs hs hf => ?_)
  refine lv_ldc2 (v := 113987) S.1 S.2.1 S.2.2.2.1 (S.2.2.2.2 _ (z_in0 _ (List.mem_of_getElem? (i := 871) (by decide +kernel)))) dX9_digest_5 ?_
  refine lv_aload_n S.1 S.2.1 dX9_digest_8 rfl (lv_at hl 0 rfl) ?_
  refine mg145 S K hs dX9_digest_9 ?_
  refine lv_i2l S.1 S.2.1 dX9_digest_12 rfl ?_
  refine lv_ladd S.1 S.2.1 dX9_digest_13 ?_
  refine lv_lstore_n (lv' := [(1, .long ((113987 : Int64) + ((σ1 6 0).toInt64))), (0, .ref h)]) S.1 S.2.1 dX9_digest_14 rfl hl (by decide) rfl (fun ls hl => ?_)
  refine lv_iconst S.1 S.2.1 dX9_digest_15 k_iconst_0 ?_
  refine lv_istore_n (lv' := [(3, .int (nI 0)), (1, .long ((113987 : Int64) + ((σ1 6 0).toInt64))), (0, .ref h)]) S.1 S.2.1 dX9_digest_16 rfl hl (by decide) rfl (fun ls hl => ?_)
  refine L17 _ (fun x3 σ4 hf H locs ls hl hs => ?_) _ _ _ _ hf _ _ _ (lv_sub hl [2, 1, 0] rfl) hs
  refine lv_iconst S.1 S.2.1 dX9_digest_42 k_iconst_0 ?_
  refine lv_istore_n (lv' := [(3, .int (nI 0)), (0, .ref h), (1, .long x3)]) S.1 S.2.1 dX9_digest_43 rfl hl (by decide) rfl (fun ls hl => ?_)
  refine L44 _ (fun x16 σ17 hf H locs ls hl hs => ?_) _ _ _ _ hf _ _ _ (lv_sub hl [1, 2, 0] rfl) hs
  refine lv_iconst S.1 S.2.1 dX9_digest_130 k_iconst_0 ?_
  refine lv_istore_n (lv' := [(3, .int (nI 0)), (0, .ref h), (1, .long x16)]) S.1 S.2.1 dX9_digest_131 rfl hl (by decide) rfl (fun ls hl => ?_)
  refine L132 _ (fun x22 σ23 hf H locs ls hl hs => ?_) _ _ _ _ hf _ _ _ (lv_sub hl [1, 2, 0] rfl) hs
  refine lv_iconst S.1 S.2.1 dX9_digest_168 k_iconst_0 ?_
  refine lv_istore_n (lv' := [(3, .int (nI 0)), (0, .ref h), (1, .long x22)]) S.1 S.2.1 dX9_digest_169 rfl hl (by decide) rfl (fun ls hl => ?_)
  refine L170 _ (fun x26 σ27 hf H locs ls hl hs => ?_) _ _ _ _ hf _ _ _ (lv_sub hl [1, 2, 0] rfl) hs
  refine lv_ldc2 (v := 31) S.1 S.2.1 S.2.2.2.1 (S.2.2.2.2 _ (z_in0 _ (List.mem_of_getElem? (i := 872) (by decide +kernel)))) dX9_digest_208 ?_
  refine lv_lload_n S.1 S.2.1 dX9_digest_211 rfl (lv_at hl 1 rfl) ?_
  refine lv_lmul S.1 S.2.1 dX9_digest_212 ?_
  refine lv_aload_n S.1 S.2.1 dX9_digest_213 rfl (lv_at hl 0 rfl) ?_
  refine mcV S K hs hl.1 hf (fun _ _ hX => metX9_nextTorn _ _ _ _ _ _ _ _ hX) (cwX9_172 S.2.2.2.2 ⟨Nat.le_of_ble_eq_true rfl, Nat.le_of_ble_eq_true rfl⟩) rfl dX9_digest_214 rfl (Nat.le_of_ble_eq_true rfl) ⟨Nat.le_refl _, Nat.le_refl _⟩ (fun x28 σ29 H locs hs hf => ?_)
  refine lv_i2l S.1 S.2.1 dX9_digest_217 rfl ?_
  refine lv_ladd S.1 S.2.1 dX9_digest_218 ?_
  refine lv_lstore_n (lv' := [(1, .long (((31 : Int64) * x26) + x28.toInt64)), (0, .ref h)]) S.1 S.2.1 dX9_digest_219 rfl hl (by decide) rfl (fun ls hl => ?_)
  refine lv_ldc2 (v := 31) S.1 S.2.1 S.2.2.2.1 (S.2.2.2.2 _ (z_in0 _ (List.mem_of_getElem? (i := 872) (by decide +kernel)))) dX9_digest_220 ?_
  refine lv_lload_n S.1 S.2.1 dX9_digest_223 rfl (lv_at hl 0 rfl) ?_
  refine lv_lmul S.1 S.2.1 dX9_digest_224 ?_
  refine lv_aload_n S.1 S.2.1 dX9_digest_225 rfl (lv_at hl 1 rfl) ?_
  refine mg33 S K hs dX9_digest_226 ?_
  refine lv_i2l S.1 S.2.1 dX9_digest_229 rfl ?_
  refine lv_ladd S.1 S.2.1 dX9_digest_230 ?_
  exact mrL S K hr hk hs (hf.trans (congrArg some hres)) dX9_digest_231
theorem metX9_digest (l : Launch) (D : va_G) (cI : ClassId) (h : Nat) (ad : Nat → Nat) (σ : zSt) (r0 : Int64) (σ0 : zSt) (hf : fX9_digest σ = some (r0, σ0)) : Met l yX9_digest (Cond.code yX9_digest cX9_digest 5 (some .long) :: WA) rmX9_digest (mPc D cI h ad σ [.ref h]) ((mQl D cI h ad r0 σ0)) 0 0 (mA h ad) :=
  mMet (by decide) (Nat.le_of_ble_eq_true rfl) (fun p e s m args below meth c H locs ls S K hr hk hl hs => bdX9_digest S K hr hk  _ _ _ hf hl hs)
set_option maxHeartbeats 4000000 in
set_option maxRecDepth 100000 in
theorem bdX9_drop {p : Program} {l : Launch} {e : Env} {s : State} {m : MethodId} {args : Array Value} {below : List Frame} {meth : Method} {c : Code} {H : Heap} {locs : List Loc} {ls : Array Slot} {D : va_G} {cI : ClassId} {h : Nat} {ad : Nat → Nat} (S : CallFix p m c cX9_drop 5 s args WA RX9) (K : va_K D vwCl [(cI, .int)] s) (hr : meth.sig.returnType = (some .int)) (hk : meth.locks = false) (a0 : Int32) (a1 : Int32) (σ : zSt) (r0 : Int32) (σ0 : zSt) (hf : fX9_drop a0 a1 σ = some (r0, σ0)) (hl : lv_has ls 5 [(0, .ref h), (1, .int a0), (2, .int a1)]) (hs : mS D cI h ad s σ H locs) : W p l e rmX9_drop s m args below meth c H locs 0 0 (MQ below (mQi D cI h ad r0 σ0) args s 0 0 (mA h ad)) (F0 m 0 ls []) := by
  obtain ⟨res, hres⟩ : ∃ q, q = (r0, σ0) := ⟨_, rfl⟩
  rw [← hres] at hf
  have J20 : ∀ (σ : zSt), fX9_drop_j20 σ = some res → mGo p l e rmX9_drop s m args below meth c (MQ below (mQi D cI h ad r0 σ0) args s 0 0 (mA h ad)) D cI h ad 5 σ [(0, .ref h)] 20 [] := by
    intro σ hf H locs ls hl hs
    unfold fX9_drop_j20 at hf
    refine lv_aload_n S.1 S.2.1 dX9_drop_20 rfl (lv_at hl 0 rfl) ?_
    refine lv_iconst S.1 S.2.1 dX9_drop_21 k_iconst_1 ?_
    refine mcV S K hs hl.1 hf (fun _ _ hX => metX9_fails _ _ _ _ _ _ _ _ _ hX) (cwX9_99 S.2.2.2.2 ⟨Nat.le_of_ble_eq_true rfl, Nat.le_of_ble_eq_true rfl⟩) rfl dX9_drop_22 rfl (Nat.le_of_ble_eq_true rfl) ⟨Nat.le_refl _, Nat.le_refl _⟩ (fun x3 σ4 H locs hs hf => ?_)
    exact mrI S K hr hk hs (hf.trans (congrArg some hres)) dX9_drop_25
  unfold fX9_drop at hf
  refine lv_aload_n S.1 S.2.1 dX9_drop_0 rfl (lv_at hl 0 rfl) ?_
  refine lv_iconst S.1 S.2.1 dX9_drop_1 k_iconst_0 ?_
  refine mp29 S K hs hf dX9_drop_2 (fun σ1 H locs hs hf => ?_)
  refine lv_aload_n S.1 S.2.1 dX9_drop_5 rfl (lv_at hl 0 rfl) ?_
  refine lv_iload_n S.1 S.2.1 dX9_drop_6 rfl (lv_at hl 1 rfl) ?_
  refine mcP S K hs hl.1 hf (fun _ hX => metX9_isCache _ _ _ _ _ _ _ _ hX) (cwX9_105 S.2.2.2.2 ⟨Nat.le_of_ble_eq_true rfl, Nat.le_of_ble_eq_true rfl⟩) rfl dX9_drop_7 rfl (Nat.le_of_ble_eq_true rfl) ⟨Nat.le_refl _, Nat.le_refl _⟩ (fun x2 H locs hs hf => ?_)
  refine z_if_eq (tgt := 20) S hf dX9_drop_10 (by decide) (fun hf => ?_) (fun hf => ?_)
  · exact J20 _ hf _ _ _ (lv_sub hl [0] rfl) hs
  · refine lv_iload_n S.1 S.2.1 dX9_drop_13 rfl (lv_at hl 2 rfl) ?_
    refine mcT S K hs hl.1 hf (fun _ hX => metX9_isLine _ _ _ _ _ _ _ _ hX) (cwX9_108 S.2.2.2.2 ⟨Nat.le_of_ble_eq_true rfl, Nat.le_of_ble_eq_true rfl⟩) rfl dX9_drop_14 rfl (Nat.le_of_ble_eq_true rfl) ⟨Nat.le_refl _, Nat.le_refl _⟩ (fun x5 H locs hs hf => ?_)
    refine z_if_ne (tgt := 26) S hf dX9_drop_17 (by decide) (fun hf => ?_) (fun hf => ?_)
    · refine lv_aload_n S.1 S.2.1 dX9_drop_26 rfl (lv_at hl 0 rfl) ?_
      refine lv_iload_n S.1 S.2.1 dX9_drop_27 rfl (lv_at hl 1 rfl) ?_
      refine lv_iload_n S.1 S.2.1 dX9_drop_28 rfl (lv_at hl 2 rfl) ?_
      refine mcP S K hs hl.1 hf (fun _ hX => metX9_copyOf _ _ _ _ _ _ _ _ _ hX) (cwX9_52 S.2.2.2.2 ⟨Nat.le_of_ble_eq_true rfl, Nat.le_of_ble_eq_true rfl⟩) rfl dX9_drop_29 rfl (Nat.le_of_ble_eq_true rfl) ⟨Nat.le_refl _, Nat.le_refl _⟩ (fun x6 H locs hs hf => ?_)
      refine lv_istore_n (lv' := [(3, .int x6), (0, .ref h), (1, .int a0), (2, .int a1)]) S.1 S.2.1 dX9_drop_32 rfl hl (by decide) rfl (fun ls hl => ?_)
      refine lv_iload_n S.1 S.2.1 dX9_drop_33 rfl (lv_at hl 0 rfl) ?_
      refine z_if_ge (tgt := 43) S hf dX9_drop_34 (by decide) (fun hf => ?_) (fun hf => ?_)
      · refine lv_aload_n S.1 S.2.1 dX9_drop_43 rfl (lv_at hl 1 rfl) ?_
        refine mcU S K hs hl.1 hf (fun _ hX => metX9_save _ _ _ _ _ _ _ hX) (cwX9_102 S.2.2.2.2 ⟨Nat.le_of_ble_eq_true rfl, Nat.le_of_ble_eq_true rfl⟩) rfl dX9_drop_44 rfl (Nat.le_of_ble_eq_true rfl) ⟨Nat.le_refl _, Nat.le_refl _⟩ (fun σ7 H locs hs hf => ?_)
        refine lv_aload_n S.1 S.2.1 dX9_drop_47 rfl (lv_at hl 1 rfl) ?_
        refine lv_iload_n S.1 S.2.1 dX9_drop_48 rfl (lv_at hl 2 rfl) ?_
        refine lv_iload_n S.1 S.2.1 dX9_drop_49 rfl (lv_at hl 0 rfl) ?_
        refine mcV S K hs hl.1 hf (fun _ _ hX => metX9_throwAway _ _ _ _ _ _ _ _ _ _ hX) (cwX9_78 S.2.2.2.2 ⟨Nat.le_of_ble_eq_true rfl, Nat.le_of_ble_eq_true rfl⟩) rfl dX9_drop_50 rfl (Nat.le_of_ble_eq_true rfl) ⟨Nat.le_refl _, Nat.le_refl _⟩ (fun x8 σ9 H locs hs hf => ?_)
        refine lv_istore (lv' := [(4, .int x8), (3, .int x6), (0, .ref h), (1, .int a0), (2, .int a1)]) S.1 S.2.1 dX9_drop_53 hl (by decide) rfl (fun ls hl => ?_)
        refine lv_aload_n S.1 S.2.1 dX9_drop_55 rfl (lv_at hl 2 rfl) ?_
        refine mg7 S K hs dX9_drop_56 ?_
        refine lv_iconst S.1 S.2.1 dX9_drop_59 k_iconst_5 ?_
        refine lv_dup2_11 S.1 S.2.1 dX9_drop_60 rfl rfl ?_
        refine mld0 S K hs hf dX9_drop_61 (fun x10 hf => ?_)
        refine lv_iload S.1 S.2.1 dX9_drop_62 (lv_at hl 0 rfl) ?_
        refine lv_iadd S.1 S.2.1 dX9_drop_64 ?_
        refine mst0 S K hs hf dX9_drop_65 (fun σ11 H locs hs hf => ?_)
        refine lv_iload S.1 S.2.1 dX9_drop_66 (lv_at hl 0 rfl) ?_
        exact mrI S K hr hk hs (hf.trans (congrArg some hres)) dX9_drop_68
      · refine lv_aload_n S.1 S.2.1 dX9_drop_37 rfl (lv_at hl 1 rfl) ?_
        refine lv_iconst S.1 S.2.1 dX9_drop_38 k_iconst_2 ?_
        refine mcV S K hs hl.1 hf (fun _ _ hX => metX9_fails _ _ _ _ _ _ _ _ _ hX) (cwX9_99 S.2.2.2.2 ⟨Nat.le_of_ble_eq_true rfl, Nat.le_of_ble_eq_true rfl⟩) rfl dX9_drop_39 rfl (Nat.le_of_ble_eq_true rfl) ⟨Nat.le_refl _, Nat.le_refl _⟩ (fun x12 σ13 H locs hs hf => ?_)
        exact mrI S K hr hk hs (hf.trans (congrArg some hres)) dX9_drop_42
    · exact J20 _ hf _ _ _ (lv_sub hl [0] rfl) hs
theorem metX9_drop (l : Launch) (D : va_G) (cI : ClassId) (h : Nat) (ad : Nat → Nat) (a0 : Int32) (a1 : Int32) (σ : zSt) (r0 : Int32) (σ0 : zSt) (hf : fX9_drop a0 a1 σ = some (r0, σ0)) : Met l yX9_drop (Cond.code yX9_drop cX9_drop 5 (some .int) :: WA) rmX9_drop (mPc D cI h ad σ [.ref h, .int a0, .int a1]) ((mQi D cI h ad r0 σ0)) 0 0 (mA h ad) :=
  mMet (by decide) (Nat.le_of_ble_eq_true rfl) (fun p e s m args below meth c H locs ls S K hr hk hl hs => bdX9_drop S K hr hk _ _ _ _ _ hf hl hs)
set_option maxHeartbeats 4000000 in
set_option maxRecDepth 100000 in
theorem bdX9_entry {p : Program} {l : Launch} {e : Env} {s : State} {m : MethodId} {args : Array Value} {below : List Frame} {meth : Method} {c : Code} {H : Heap} {locs : List Loc} {ls : Array Slot} {D : va_G} {cI : ClassId} {h : Nat} {ad : Nat → Nat} (S : CallFix p m c cX9_entry 3 s args WA RX9) (K : va_K D vwCl [(cI, .int)] s) (hr : meth.sig.returnType = (some .int)) (hk : meth.locks = false) (a0 : Int32) (a1 : Int32) (σ : zSt) (r0 : Int32) (σ0 : zSt) (hf : fX9_entry a0 a1 σ = some (r0, σ0)) (hl : lv_has ls 3 [(0, .ref h), (1, .int a0), (2, .int a1)]) (hs : mS D cI h ad s σ H locs) : W p l e rmX9_entry s m args below meth c H locs 0 0 (MQ below (mQi D cI h ad r0 σ0) args s 0 0 (mA h ad)) (F0 m 0 ls []) := by
  unfold fX9_entry at hf
  refine lv_aload_n S.1 S.2.1 dX9_entry_0 rfl (lv_at hl 0 rfl) ?_
  refine lv_iconst S.1 S.2.1 dX9_entry_1 k_iconst_0 ?_
  refine mp29 S K hs hf dX9_entry_2 (fun σ1 H locs hs hf => ?_)
  refine lv_iload_n S.1 S.2.1 dX9_entry_5 rfl (lv_at hl 1 rfl) ?_
  refine lv_iconst S.1 S.2.1 dX9_entry_6 k_iconst_0 ?_
  refine lv_aload_n S.1 S.2.1 dX9_entry_7 rfl (lv_at hl 0 rfl) ?_
  refine mg7 S K hs dX9_entry_8 ?_
  refine lv_bipush S.1 S.2.1 dX9_entry_11 k_bipush_12 ?_
  refine mld0 S K hs hf dX9_entry_13 (fun x2 hf => ?_)
  refine lv_iconst S.1 S.2.1 dX9_entry_14 k_iconst_1 ?_
  refine lv_isub S.1 S.2.1 dX9_entry_15 ?_
  refine mcT S K hs hl.1 hf (fun _ hX => metX9_in _ _ _ _ _ _ _ _ _ _ hX) (cwX9_36 S.2.2.2.2 ⟨Nat.le_of_ble_eq_true rfl, Nat.le_of_ble_eq_true rfl⟩) rfl dX9_entry_16 rfl (Nat.le_of_ble_eq_true rfl) ⟨Nat.le_refl _, Nat.le_refl _⟩ (fun x3 H locs hs hf => ?_)
  refine z_if_ne (tgt := 28) S hf dX9_entry_19 (by decide) (fun hf => ?_) (fun hf => ?_)
  · refine lv_iload_n S.1 S.2.1 dX9_entry_28 rfl (lv_at hl 2 rfl) ?_
    refine lv_iconst S.1 S.2.1 dX9_entry_29 k_iconst_0 ?_
    refine lv_iconst S.1 S.2.1 dX9_entry_30 k_iconst_5 ?_
    refine mcT S K hs hl.1 hf (fun _ hX => metX9_in _ _ _ _ _ _ _ _ _ _ hX) (cwX9_36 S.2.2.2.2 ⟨Nat.le_of_ble_eq_true rfl, Nat.le_of_ble_eq_true rfl⟩) rfl dX9_entry_31 rfl (Nat.le_of_ble_eq_true rfl) ⟨Nat.le_refl _, Nat.le_refl _⟩ (fun x4 H locs hs hf => ?_)
    refine z_if_eq (tgt := 55) S hf dX9_entry_34 (by decide) (fun hf => ?_) (fun hf => ?_)
    · refine lv_aload_n S.1 S.2.1 dX9_entry_55 rfl (lv_at hl 0 rfl) ?_
      refine lv_iconst S.1 S.2.1 dX9_entry_56 k_iconst_2 ?_
      refine mcV S K hs hl.1 hf (fun _ _ hX => metX9_fails _ _ _ _ _ _ _ _ _ hX) (cwX9_99 S.2.2.2.2 ⟨Nat.le_of_ble_eq_true rfl, Nat.le_of_ble_eq_true rfl⟩) rfl dX9_entry_57 rfl (Nat.le_of_ble_eq_true rfl) ⟨Nat.le_refl _, Nat.le_refl _⟩ (fun x5 σ6 H locs hs hf => ?_)
      exact mrI S K hr hk hs hf dX9_entry_60
    · refine lv_aload_n S.1 S.2.1 dX9_entry_37 rfl (lv_at hl 0 rfl) ?_
      refine mg7 S K hs dX9_entry_38 ?_
      refine lv_sipush S.1 S.2.1 dX9_entry_41 k_sipush_384 ?_
      refine lv_bipush S.1 S.2.1 dX9_entry_44 k_bipush_6 ?_
      refine lv_iload_n S.1 S.2.1 dX9_entry_46 rfl (lv_at hl 1 rfl) ?_
      refine lv_imul S.1 S.2.1 dX9_entry_47 ?_
      refine lv_iadd S.1 S.2.1 dX9_entry_48 ?_
      refine lv_iload_n S.1 S.2.1 dX9_entry_49 rfl (lv_at hl 2 rfl) ?_
      refine lv_iadd S.1 S.2.1 dX9_entry_50 ?_
      refine mld0 S K hs hf dX9_entry_51 (fun x7 hf => ?_)
      refine lv_goto (tgt := 60) S.1 S.2.1 dX9_entry_52 (by decide) ?_
      exact mrI S K hr hk hs hf dX9_entry_60
  · refine lv_aload_n S.1 S.2.1 dX9_entry_22 rfl (lv_at hl 0 rfl) ?_
    refine lv_iconst S.1 S.2.1 dX9_entry_23 k_iconst_1 ?_
    refine mcV S K hs hl.1 hf (fun _ _ hX => metX9_fails _ _ _ _ _ _ _ _ _ hX) (cwX9_99 S.2.2.2.2 ⟨Nat.le_of_ble_eq_true rfl, Nat.le_of_ble_eq_true rfl⟩) rfl dX9_entry_24 rfl (Nat.le_of_ble_eq_true rfl) ⟨Nat.le_refl _, Nat.le_refl _⟩ (fun x8 σ9 H locs hs hf => ?_)
    exact mrI S K hr hk hs hf dX9_entry_27
theorem metX9_entry (l : Launch) (D : va_G) (cI : ClassId) (h : Nat) (ad : Nat → Nat) (a0 : Int32) (a1 : Int32) (σ : zSt) (r0 : Int32) (σ0 : zSt) (hf : fX9_entry a0 a1 σ = some (r0, σ0)) : Met l yX9_entry (Cond.code yX9_entry cX9_entry 3 (some .int) :: WA) rmX9_entry (mPc D cI h ad σ [.ref h, .int a0, .int a1]) ((mQi D cI h ad r0 σ0)) 0 0 (mA h ad) :=
  mMet (by decide) (Nat.le_of_ble_eq_true rfl) (fun p e s m args below meth c H locs ls S K hr hk hl hs => bdX9_entry S K hr hk _ _ _ _ _ hf hl hs)
