/-! the reference: contracts (by wip/tools/walk.py) -/
set_option maxHeartbeats 4000000 in
set_option maxRecDepth 100000 in
theorem bdX9_line {p : Program} {l : Launch} {e : Env} {s : State} {m : MethodId} {args : Array Value} {below : List Frame} {meth : Method} {c : Code} {H : Heap} {locs : List Loc} {ls : Array Slot} {D : va_G} {cI : ClassId} {h : Nat} {ad : Nat → Nat} (S : CallFix p m c cX9_line 3 s args WA RX9) (K : va_K D vwCl [(cI, .int)] s) (hr : meth.sig.returnType = (some .int)) (hk : meth.locks = false) (a0 : Int32) (a1 : Int32) (σ : zSt) (r0 : Int32) (σ0 : zSt) (hf : fX9_line a0 a1 σ = some (r0, σ0)) (hl : lv_has ls 3 [(0, .ref h), (1, .int a0), (2, .int a1)]) (hs : mS D cI h ad s σ H locs) : W p l e rmX9_line s m args below meth c H locs 0 0 (MQ below (mQi D cI h ad r0 σ0) args s 0 0 (mA h ad)) (F0 m 0 ls []) := by
  unfold fX9_line at hf
  refine lv_aload_n S.1 S.2.1 dX9_line_0 rfl (lv_at hl 0 rfl) ?_
  refine lv_iconst S.1 S.2.1 dX9_line_1 k_iconst_0 ?_
  refine mp29 S K hs hf dX9_line_2 (fun σ1 H locs hs hf => ?_)
  refine lv_iload_n S.1 S.2.1 dX9_line_5 rfl (lv_at hl 1 rfl) ?_
  refine mcT S K hs hl.1 hf (fun _ hX => metX9_isLine _ _ _ _ _ _ _ _ hX) (cwX9_108 S.2.2.2.2 ⟨Nat.le_of_ble_eq_true rfl, Nat.le_of_ble_eq_true rfl⟩) rfl dX9_line_6 rfl (Nat.le_of_ble_eq_true rfl) ⟨Nat.le_refl _, Nat.le_refl _⟩ (fun x2 H locs hs hf => ?_)
  refine z_if_ne (tgt := 18) S hf dX9_line_9 (by decide) (fun hf => ?_) (fun hf => ?_)
  · refine lv_iload_n S.1 S.2.1 dX9_line_18 rfl (lv_at hl 2 rfl) ?_
    refine lv_iconst S.1 S.2.1 dX9_line_19 k_iconst_0 ?_
    refine lv_bipush S.1 S.2.1 dX9_line_20 k_bipush_7 ?_
    refine mcT S K hs hl.1 hf (fun _ hX => metX9_in _ _ _ _ _ _ _ _ _ _ hX) (cwX9_36 S.2.2.2.2 ⟨Nat.le_of_ble_eq_true rfl, Nat.le_of_ble_eq_true rfl⟩) rfl dX9_line_22 rfl (Nat.le_of_ble_eq_true rfl) ⟨Nat.le_refl _, Nat.le_refl _⟩ (fun x3 H locs hs hf => ?_)
    refine z_if_eq (tgt := 37) S hf dX9_line_25 (by decide) (fun hf => ?_) (fun hf => ?_)
    · refine lv_aload_n S.1 S.2.1 dX9_line_37 rfl (lv_at hl 0 rfl) ?_
      refine lv_iconst S.1 S.2.1 dX9_line_38 k_iconst_2 ?_
      refine mcV S K hs hl.1 hf (fun _ _ hX => metX9_fails _ _ _ _ _ _ _ _ _ hX) (cwX9_99 S.2.2.2.2 ⟨Nat.le_of_ble_eq_true rfl, Nat.le_of_ble_eq_true rfl⟩) rfl dX9_line_39 rfl (Nat.le_of_ble_eq_true rfl) ⟨Nat.le_refl _, Nat.le_refl _⟩ (fun x4 σ5 H locs hs hf => ?_)
      exact mrI S K hr hk hs hf dX9_line_42
    · refine lv_aload_n S.1 S.2.1 dX9_line_28 rfl (lv_at hl 0 rfl) ?_
      refine lv_iload_n S.1 S.2.1 dX9_line_29 rfl (lv_at hl 1 rfl) ?_
      refine lv_iload_n S.1 S.2.1 dX9_line_30 rfl (lv_at hl 2 rfl) ?_
      refine mcP S K hs hl.1 hf (fun _ hX => metX9_aboutLine _ _ _ _ _ _ _ _ _ hX) (cwX9_124 S.2.2.2.2 ⟨Nat.le_of_ble_eq_true rfl, Nat.le_of_ble_eq_true rfl⟩) rfl dX9_line_31 rfl (Nat.le_of_ble_eq_true rfl) ⟨Nat.le_refl _, Nat.le_refl _⟩ (fun x6 H locs hs hf => ?_)
      refine lv_goto (tgt := 42) S.1 S.2.1 dX9_line_34 (by decide) ?_
      exact mrI S K hr hk hs hf dX9_line_42
  · refine lv_aload_n S.1 S.2.1 dX9_line_12 rfl (lv_at hl 0 rfl) ?_
    refine lv_iconst S.1 S.2.1 dX9_line_13 k_iconst_1 ?_
    refine mcV S K hs hl.1 hf (fun _ _ hX => metX9_fails _ _ _ _ _ _ _ _ _ hX) (cwX9_99 S.2.2.2.2 ⟨Nat.le_of_ble_eq_true rfl, Nat.le_of_ble_eq_true rfl⟩) rfl dX9_line_14 rfl (Nat.le_of_ble_eq_true rfl) ⟨Nat.le_refl _, Nat.le_refl _⟩ (fun x7 σ8 H locs hs hf => ?_)
    exact mrI S K hr hk hs hf dX9_line_17
theorem metX9_line (l : Launch) (D : va_G) (cI : ClassId) (h : Nat) (ad : Nat → Nat) (a0 : Int32) (a1 : Int32) (σ : zSt) (r0 : Int32) (σ0 : zSt) (hf : fX9_line a0 a1 σ = some (r0, σ0)) : Met l yX9_line (Cond.code yX9_line cX9_line 3 (some .int) :: WA) rmX9_line (mPc D cI h ad σ [.ref h, .int a0, .int a1]) ((mQi D cI h ad r0 σ0)) 0 0 (mA h ad) :=
  mMet (by decide) (Nat.le_of_ble_eq_true rfl) (fun p e s m args below meth c H locs ls S K hr hk hl hs => bdX9_line S K hr hk _ _ _ _ _ hf hl hs)
set_option maxHeartbeats 4000000 in
set_option maxRecDepth 100000 in
theorem bdX9_nextDropped {p : Program} {l : Launch} {e : Env} {s : State} {m : MethodId} {args : Array Value} {below : List Frame} {meth : Method} {c : Code} {H : Heap} {locs : List Loc} {ls : Array Slot} {D : va_G} {cI : ClassId} {h : Nat} {ad : Nat → Nat} (S : CallFix p m c cX9_nextDropped 2 s args WA RX9) (K : va_K D vwCl [(cI, .int)] s) (hr : meth.sig.returnType = (some .int)) (hk : meth.locks = false) (a0 : Int32) (σ : zSt) (r0 : Int32) (σ0 : zSt) (hf : fX9_nextDropped a0 σ = some (r0, σ0)) (hl : lv_has ls 2 [(0, .ref h), (1, .int a0)]) (hs : mS D cI h ad s σ H locs) : W p l e rmX9_nextDropped s m args below meth c H locs 0 0 (MQ below (mQi D cI h ad r0 σ0) args s 0 0 (mA h ad)) (F0 m 0 ls []) := by
  unfold fX9_nextDropped at hf
  refine lv_aload_n S.1 S.2.1 dX9_nextDropped_0 rfl (lv_at hl 0 rfl) ?_
  refine lv_iconst S.1 S.2.1 dX9_nextDropped_1 k_iconst_0 ?_
  refine mp29 S K hs hf dX9_nextDropped_2 (fun σ1 H locs hs hf => ?_)
  refine lv_aload_n S.1 S.2.1 dX9_nextDropped_5 rfl (lv_at hl 0 rfl) ?_
  refine lv_iload_n S.1 S.2.1 dX9_nextDropped_6 rfl (lv_at hl 1 rfl) ?_
  refine mcP S K hs hl.1 hf (fun _ hX => metX9_isCache _ _ _ _ _ _ _ _ hX) (cwX9_105 S.2.2.2.2 ⟨Nat.le_of_ble_eq_true rfl, Nat.le_of_ble_eq_true rfl⟩) rfl dX9_nextDropped_7 rfl (Nat.le_of_ble_eq_true rfl) ⟨Nat.le_refl _, Nat.le_refl _⟩ (fun x2 H locs hs hf => ?_)
  refine z_if_ne (tgt := 19) S hf dX9_nextDropped_10 (by decide) (fun hf => ?_) (fun hf => ?_)
  · refine lv_aload_n S.1 S.2.1 dX9_nextDropped_19 rfl (lv_at hl 0 rfl) ?_
    refine lv_iload_n S.1 S.2.1 dX9_nextDropped_20 rfl (lv_at hl 1 rfl) ?_
    refine lv_iconst S.1 S.2.1 dX9_nextDropped_21 k_iconst_m1 ?_
    refine mcP S K hs hl.1 hf (fun _ hX => metX9_copyOf _ _ _ _ _ _ _ _ _ hX) (cwX9_52 S.2.2.2.2 ⟨Nat.le_of_ble_eq_true rfl, Nat.le_of_ble_eq_true rfl⟩) rfl dX9_nextDropped_22 rfl (Nat.le_of_ble_eq_true rfl) ⟨Nat.le_refl _, Nat.le_refl _⟩ (fun x3 H locs hs hf => ?_)
    refine z_if_lt (tgt := 32) S hf dX9_nextDropped_25 (by decide) (fun hf => ?_) (fun hf => ?_)
    · refine lv_aload_n S.1 S.2.1 dX9_nextDropped_32 rfl (lv_at hl 0 rfl) ?_
      refine mg7 S K hs dX9_nextDropped_33 ?_
      refine lv_aload_n S.1 S.2.1 dX9_nextDropped_36 rfl (lv_at hl 0 rfl) ?_
      refine lv_iload_n S.1 S.2.1 dX9_nextDropped_37 rfl (lv_at hl 1 rfl) ?_
      refine mcP S K hs hl.1 hf (fun _ hX => metX9_oldestCopy _ _ _ _ _ _ _ _ hX) (cwX9_75 S.2.2.2.2 ⟨Nat.le_of_ble_eq_true rfl, Nat.le_of_ble_eq_true rfl⟩) rfl dX9_nextDropped_38 rfl (Nat.le_of_ble_eq_true rfl) ⟨Nat.le_refl _, Nat.le_refl _⟩ (fun x4 H locs hs hf => ?_)
      refine mld0 S K hs hf dX9_nextDropped_41 (fun x5 hf => ?_)
      exact mrI S K hr hk hs hf dX9_nextDropped_42
    · refine lv_iconst S.1 S.2.1 dX9_nextDropped_28 k_iconst_m1 ?_
      refine lv_goto (tgt := 42) S.1 S.2.1 dX9_nextDropped_29 (by decide) ?_
      exact mrI S K hr hk hs hf dX9_nextDropped_42
  · refine lv_aload_n S.1 S.2.1 dX9_nextDropped_13 rfl (lv_at hl 0 rfl) ?_
    refine lv_iconst S.1 S.2.1 dX9_nextDropped_14 k_iconst_1 ?_
    refine mcV S K hs hl.1 hf (fun _ _ hX => metX9_fails _ _ _ _ _ _ _ _ _ hX) (cwX9_99 S.2.2.2.2 ⟨Nat.le_of_ble_eq_true rfl, Nat.le_of_ble_eq_true rfl⟩) rfl dX9_nextDropped_15 rfl (Nat.le_of_ble_eq_true rfl) ⟨Nat.le_refl _, Nat.le_refl _⟩ (fun x6 σ7 H locs hs hf => ?_)
    exact mrI S K hr hk hs hf dX9_nextDropped_18
theorem metX9_nextDropped (l : Launch) (D : va_G) (cI : ClassId) (h : Nat) (ad : Nat → Nat) (a0 : Int32) (σ : zSt) (r0 : Int32) (σ0 : zSt) (hf : fX9_nextDropped a0 σ = some (r0, σ0)) : Met l yX9_nextDropped (Cond.code yX9_nextDropped cX9_nextDropped 2 (some .int) :: WA) rmX9_nextDropped (mPc D cI h ad σ [.ref h, .int a0]) ((mQi D cI h ad r0 σ0)) 0 0 (mA h ad) :=
  mMet (by decide) (Nat.le_of_ble_eq_true rfl) (fun p e s m args below meth c H locs ls S K hr hk hl hs => bdX9_nextDropped S K hr hk _ _ _ _ hf hl hs)
set_option maxHeartbeats 4000000 in
set_option maxRecDepth 100000 in
theorem bdX9_ones {p : Program} {l : Launch} {e : Env} {s : State} {m : MethodId} {args : Array Value} {below : List Frame} {meth : Method} {c : Code} {H : Heap} {locs : List Loc} {ls : Array Slot} {D : va_G} {cI : ClassId} {h : Nat} {ad : Nat → Nat} (S : CallFix p m c cX9_ones 3 s args WA RX9) (K : va_K D vwCl [(cI, .int)] s) (hr : meth.sig.returnType = (some .int)) (hk : meth.locks = false) (a0 : Int32) (σ : zSt) (r0 : Int32) (hf : fX9_ones a0 σ = some r0) (hl : lv_has ls 3 [(0, .int a0)]) (hs : mS D cI h ad s σ H locs) : W p l e rmX9_ones s m args below meth c H locs 0 0 (MQ below (mQi D cI h ad r0 σ) args s 0 0 (mA h ad)) (F0 m 0 ls []) := by
  obtain ⟨res, hres⟩ : ∃ q, q = r0 := ⟨_, rfl⟩
  rw [← hres] at hf
  have L4 : ∀ (K4 : Int32 → Option (Int32)) (hK4 : ∀ (y1 : Int32), K4 y1 = some res → mGo p l e rmX9_ones s m args below meth c (MQ below (mQi D cI h ad r0 σ) args s 0 0 (mA h ad)) D cI h ad 3 σ [(1, .int y1)] 20 []) (n : Nat) (y1 : Int32) (y2 : Int32), fX9_ones_l4 σ K4 n y1 y2 = some res → mGo p l e rmX9_ones s m args below meth c (MQ below (mQi D cI h ad r0 σ) args s 0 0 (mA h ad)) D cI h ad 3 σ [(1, .int y1), (2, .int y2)] 4 [] := by
    intro K4 hK4 n
    induction n with
    | zero =>
      intro y1 y2 hf H locs ls hl hs
      rw [fX9_ones_l4] at hf
      cases hf
    | succ n ih =>
      intro y1 y2 hf H locs ls hl hs
      rw [fX9_ones_l4] at hf
      refine lv_iload_n S.1 S.2.1 dX9_ones_4 rfl (lv_at hl 1 rfl) ?_
      refine z_if_eq (tgt := 20) S hf dX9_ones_5 (by decide) (fun hf => ?_) (fun hf => ?_)
      · exact hK4 _ hf _ _ _ (lv_sub hl [0] rfl) hs
      · refine lv_iinc (v := y1 + nI 1) (lv' := [(1, .int (y1 + nI 1)), (2, .int y2)]) S.1 S.2.1 dX9_ones_8 hl (k := 0) rfl (by rw [k_iconst_1]) (by decide) rfl (fun ls hl => ?_)
        refine lv_iload_n S.1 S.2.1 dX9_ones_11 rfl (lv_at hl 1 rfl) ?_
        refine lv_iload_n S.1 S.2.1 dX9_ones_12 rfl (lv_at hl 1 rfl) ?_
        refine lv_iconst S.1 S.2.1 dX9_ones_13 k_iconst_1 ?_
        refine lv_isub S.1 S.2.1 dX9_ones_14 ?_
        refine lv_iand S.1 S.2.1 dX9_ones_15 ?_
        refine lv_istore_n (lv' := [(2, .int (y2 &&& (y2 - (nI 1)))), (1, .int (y1 + nI 1))]) S.1 S.2.1 dX9_ones_16 rfl hl (by decide) rfl (fun ls hl => ?_)
        refine lv_goto (tgt := 4) S.1 S.2.1 dX9_ones_17 (by decide) ?_
        exact ih _ _ hf _ _ _ (lv_sub hl [1, 0] rfl) hs
  unfold fX9_ones at hf
  refine lv_iconst S.1 S.2.1 dX9_ones_0 k_iconst_0 ?_
  refine lv_istore_n (lv' := [(1, .int (nI 0)), (0, .int a0)]) S.1 S.2.1 dX9_ones_1 rfl hl (by decide) rfl (fun ls hl => ?_)
  refine lv_iload_n S.1 S.2.1 dX9_ones_2 rfl (lv_at hl 1 rfl) ?_
  refine lv_istore_n (lv' := [(2, .int a0), (1, .int (nI 0)), (0, .int a0)]) S.1 S.2.1 dX9_ones_3 rfl hl (by decide) rfl (fun ls hl => ?_)
  refine L4 _ (fun x1 hf H locs ls hl hs => ?_) _ _ _ hf _ _ _ (lv_sub hl [1, 0] rfl) hs
  refine lv_iload_n S.1 S.2.1 dX9_ones_20 rfl (lv_at hl 0 rfl) ?_
  exact mrP S K hr hk hs (hf.trans (congrArg some hres)) dX9_ones_21
theorem metX9_ones (l : Launch) (D : va_G) (cI : ClassId) (h : Nat) (ad : Nat → Nat) (a0 : Int32) (σ : zSt) (r0 : Int32) (hf : fX9_ones a0 σ = some r0) : Met l yX9_ones (Cond.code yX9_ones cX9_ones 3 (some .int) :: WA) rmX9_ones (mPc D cI h ad σ [.int a0]) ((mQi D cI h ad r0 σ)) 0 0 (mA h ad) :=
  mMet (by decide) (Nat.le_of_ble_eq_true rfl) (fun p e s m args below meth c H locs ls S K hr hk hl hs => bdX9_ones S K hr hk _ _ _ hf hl hs)
set_option maxHeartbeats 4000000 in
set_option maxRecDepth 100000 in
theorem bdX9_pass {p : Program} {l : Launch} {e : Env} {s : State} {m : MethodId} {args : Array Value} {below : List Frame} {meth : Method} {c : Code} {H : Heap} {locs : List Loc} {ls : Array Slot} {D : va_G} {cI : ClassId} {h : Nat} {ad : Nat → Nat} (S : CallFix p m c cX9_pass 2 s args WA RX9) (K : va_K D vwCl [(cI, .int)] s) (hr : meth.sig.returnType = (some .int)) (hk : meth.locks = false) (a0 : Int32) (σ : zSt) (r0 : Int32) (σ0 : zSt) (hf : fX9_pass a0 σ = some (r0, σ0)) (hl : lv_has ls 2 [(0, .ref h), (1, .int a0)]) (hs : mS D cI h ad s σ H locs) : W p l e rmX9_pass s m args below meth c H locs 0 0 (MQ below (mQi D cI h ad r0 σ0) args s 0 0 (mA h ad)) (F0 m 0 ls []) := by
  unfold fX9_pass at hf
  refine lv_aload_n S.1 S.2.1 dX9_pass_0 rfl (lv_at hl 0 rfl) ?_
  refine lv_iconst S.1 S.2.1 dX9_pass_1 k_iconst_0 ?_
  refine mp29 S K hs hf dX9_pass_2 (fun σ1 H locs hs hf => ?_)
  refine lv_iload_n S.1 S.2.1 dX9_pass_5 rfl (lv_at hl 1 rfl) ?_
  refine lv_iconst S.1 S.2.1 dX9_pass_6 k_iconst_1 ?_
  refine lv_bipush S.1 S.2.1 dX9_pass_7 k_bipush_100 ?_
  refine mcT S K hs hl.1 hf (fun _ hX => metX9_in _ _ _ _ _ _ _ _ _ _ hX) (cwX9_36 S.2.2.2.2 ⟨Nat.le_of_ble_eq_true rfl, Nat.le_of_ble_eq_true rfl⟩) rfl dX9_pass_9 rfl (Nat.le_of_ble_eq_true rfl) ⟨Nat.le_refl _, Nat.le_refl _⟩ (fun x2 H locs hs hf => ?_)
  refine z_if_ne (tgt := 21) S hf dX9_pass_12 (by decide) (fun hf => ?_) (fun hf => ?_)
  · refine lv_aload_n S.1 S.2.1 dX9_pass_21 rfl (lv_at hl 0 rfl) ?_
    refine mg7 S K hs dX9_pass_22 ?_
    refine lv_iconst S.1 S.2.1 dX9_pass_25 k_iconst_4 ?_
    refine mld0 S K hs hf dX9_pass_26 (fun x3 hf => ?_)
    refine lv_iload_n S.1 S.2.1 dX9_pass_27 rfl (lv_at hl 1 rfl) ?_
    refine lv_iadd S.1 S.2.1 dX9_pass_28 ?_
    refine lv_ldc (v := nI 100000) S.1 S.2.1 S.2.2.2.1 (S.2.2.2.2 _ (z_in0 _ (List.mem_of_getElem? (i := 457) (by decide +kernel)))) dX9_pass_29 ?_
    refine z_icmp_le (tgt := 40) S hf dX9_pass_31 (by decide) (fun hf => ?_) (fun hf => ?_)
    · refine lv_aload_n S.1 S.2.1 dX9_pass_40 rfl (lv_at hl 0 rfl) ?_
      refine mcU S K hs hl.1 hf (fun _ hX => metX9_save _ _ _ _ _ _ _ hX) (cwX9_102 S.2.2.2.2 ⟨Nat.le_of_ble_eq_true rfl, Nat.le_of_ble_eq_true rfl⟩) rfl dX9_pass_41 rfl (Nat.le_of_ble_eq_true rfl) ⟨Nat.le_refl _, Nat.le_refl _⟩ (fun σ4 H locs hs hf => ?_)
      refine lv_aload_n S.1 S.2.1 dX9_pass_44 rfl (lv_at hl 0 rfl) ?_
      refine lv_iload_n S.1 S.2.1 dX9_pass_45 rfl (lv_at hl 1 rfl) ?_
      refine mcV S K hs hl.1 hf (fun _ _ hX => metX9_ticks _ _ _ _ _ _ _ _ _ hX) (cwX9_115 S.2.2.2.2 ⟨Nat.le_of_ble_eq_true rfl, Nat.le_of_ble_eq_true rfl⟩) rfl dX9_pass_46 rfl (Nat.le_of_ble_eq_true rfl) ⟨Nat.le_refl _, Nat.le_refl _⟩ (fun x5 σ6 H locs hs hf => ?_)
      exact mrI S K hr hk hs hf dX9_pass_49
    · refine lv_aload_n S.1 S.2.1 dX9_pass_34 rfl (lv_at hl 0 rfl) ?_
      refine lv_iconst S.1 S.2.1 dX9_pass_35 k_iconst_2 ?_
      refine mcV S K hs hl.1 hf (fun _ _ hX => metX9_fails _ _ _ _ _ _ _ _ _ hX) (cwX9_99 S.2.2.2.2 ⟨Nat.le_of_ble_eq_true rfl, Nat.le_of_ble_eq_true rfl⟩) rfl dX9_pass_36 rfl (Nat.le_of_ble_eq_true rfl) ⟨Nat.le_refl _, Nat.le_refl _⟩ (fun x7 σ8 H locs hs hf => ?_)
      exact mrI S K hr hk hs hf dX9_pass_39
  · refine lv_aload_n S.1 S.2.1 dX9_pass_15 rfl (lv_at hl 0 rfl) ?_
    refine lv_iconst S.1 S.2.1 dX9_pass_16 k_iconst_1 ?_
    refine mcV S K hs hl.1 hf (fun _ _ hX => metX9_fails _ _ _ _ _ _ _ _ _ hX) (cwX9_99 S.2.2.2.2 ⟨Nat.le_of_ble_eq_true rfl, Nat.le_of_ble_eq_true rfl⟩) rfl dX9_pass_17 rfl (Nat.le_of_ble_eq_true rfl) ⟨Nat.le_refl _, Nat.le_refl _⟩ (fun x9 σ10 H locs hs hf => ?_)
    exact mrI S K hr hk hs hf dX9_pass_20
theorem metX9_pass (l : Launch) (D : va_G) (cI : ClassId) (h : Nat) (ad : Nat → Nat) (a0 : Int32) (σ : zSt) (r0 : Int32) (σ0 : zSt) (hf : fX9_pass a0 σ = some (r0, σ0)) : Met l yX9_pass (Cond.code yX9_pass cX9_pass 2 (some .int) :: WA) rmX9_pass (mPc D cI h ad σ [.ref h, .int a0]) ((mQi D cI h ad r0 σ0)) 0 0 (mA h ad) :=
  mMet (by decide) (Nat.le_of_ble_eq_true rfl) (fun p e s m args below meth c H locs ls S K hr hk hl hs => bdX9_pass S K hr hk _ _ _ _ hf hl hs)
set_option maxHeartbeats 4000000 in
set_option maxRecDepth 100000 in
theorem bdX9_pending {p : Program} {l : Launch} {e : Env} {s : State} {m : MethodId} {args : Array Value} {below : List Frame} {meth : Method} {c : Code} {H : Heap} {locs : List Loc} {ls : Array Slot} {D : va_G} {cI : ClassId} {h : Nat} {ad : Nat → Nat} (S : CallFix p m c cX9_pending 3 s args WA RX9) (K : va_K D vwCl [(cI, .int)] s) (hr : meth.sig.returnType = (some .int)) (hk : meth.locks = false) (a0 : Int32) (a1 : Int32) (σ : zSt) (r0 : Int32) (σ0 : zSt) (hf : fX9_pending a0 a1 σ = some (r0, σ0)) (hl : lv_has ls 3 [(0, .ref h), (1, .int a0), (2, .int a1)]) (hs : mS D cI h ad s σ H locs) : W p l e rmX9_pending s m args below meth c H locs 0 0 (MQ below (mQi D cI h ad r0 σ0) args s 0 0 (mA h ad)) (F0 m 0 ls []) := by
  unfold fX9_pending at hf
  refine lv_aload_n S.1 S.2.1 dX9_pending_0 rfl (lv_at hl 0 rfl) ?_
  refine lv_iconst S.1 S.2.1 dX9_pending_1 k_iconst_0 ?_
  refine mp29 S K hs hf dX9_pending_2 (fun σ1 H locs hs hf => ?_)
  refine lv_aload_n S.1 S.2.1 dX9_pending_5 rfl (lv_at hl 0 rfl) ?_
  refine lv_iload_n S.1 S.2.1 dX9_pending_6 rfl (lv_at hl 1 rfl) ?_
  refine mcP S K hs hl.1 hf (fun _ hX => metX9_isCache _ _ _ _ _ _ _ _ hX) (cwX9_105 S.2.2.2.2 ⟨Nat.le_of_ble_eq_true rfl, Nat.le_of_ble_eq_true rfl⟩) rfl dX9_pending_7 rfl (Nat.le_of_ble_eq_true rfl) ⟨Nat.le_refl _, Nat.le_refl _⟩ (fun x2 H locs hs hf => ?_)
  refine z_if_ne (tgt := 19) S hf dX9_pending_10 (by decide) (fun hf => ?_) (fun hf => ?_)
  · refine lv_iload_n S.1 S.2.1 dX9_pending_19 rfl (lv_at hl 2 rfl) ?_
    refine lv_iconst S.1 S.2.1 dX9_pending_20 k_iconst_0 ?_
    refine lv_iconst S.1 S.2.1 dX9_pending_21 k_iconst_2 ?_
    refine mcT S K hs hl.1 hf (fun _ hX => metX9_in _ _ _ _ _ _ _ _ _ _ hX) (cwX9_36 S.2.2.2.2 ⟨Nat.le_of_ble_eq_true rfl, Nat.le_of_ble_eq_true rfl⟩) rfl dX9_pending_22 rfl (Nat.le_of_ble_eq_true rfl) ⟨Nat.le_refl _, Nat.le_refl _⟩ (fun x3 H locs hs hf => ?_)
    refine z_if_eq (tgt := 37) S hf dX9_pending_25 (by decide) (fun hf => ?_) (fun hf => ?_)
    · refine lv_aload_n S.1 S.2.1 dX9_pending_37 rfl (lv_at hl 0 rfl) ?_
      refine lv_iconst S.1 S.2.1 dX9_pending_38 k_iconst_2 ?_
      refine mcV S K hs hl.1 hf (fun _ _ hX => metX9_fails _ _ _ _ _ _ _ _ _ hX) (cwX9_99 S.2.2.2.2 ⟨Nat.le_of_ble_eq_true rfl, Nat.le_of_ble_eq_true rfl⟩) rfl dX9_pending_39 rfl (Nat.le_of_ble_eq_true rfl) ⟨Nat.le_refl _, Nat.le_refl _⟩ (fun x4 σ5 H locs hs hf => ?_)
      exact mrI S K hr hk hs hf dX9_pending_42
    · refine lv_aload_n S.1 S.2.1 dX9_pending_28 rfl (lv_at hl 0 rfl) ?_
      refine lv_iload_n S.1 S.2.1 dX9_pending_29 rfl (lv_at hl 1 rfl) ?_
      refine lv_iload_n S.1 S.2.1 dX9_pending_30 rfl (lv_at hl 2 rfl) ?_
      refine mcP S K hs hl.1 hf (fun _ hX => metX9_aboutPending _ _ _ _ _ _ _ _ _ hX) (cwX9_127 S.2.2.2.2 ⟨Nat.le_of_ble_eq_true rfl, Nat.le_of_ble_eq_true rfl⟩) rfl dX9_pending_31 rfl (Nat.le_of_ble_eq_true rfl) ⟨Nat.le_refl _, Nat.le_refl _⟩ (fun x6 H locs hs hf => ?_)
      refine lv_goto (tgt := 42) S.1 S.2.1 dX9_pending_34 (by decide) ?_
      exact mrI S K hr hk hs hf dX9_pending_42
  · refine lv_aload_n S.1 S.2.1 dX9_pending_13 rfl (lv_at hl 0 rfl) ?_
    refine lv_iconst S.1 S.2.1 dX9_pending_14 k_iconst_1 ?_
    refine mcV S K hs hl.1 hf (fun _ _ hX => metX9_fails _ _ _ _ _ _ _ _ _ hX) (cwX9_99 S.2.2.2.2 ⟨Nat.le_of_ble_eq_true rfl, Nat.le_of_ble_eq_true rfl⟩) rfl dX9_pending_15 rfl (Nat.le_of_ble_eq_true rfl) ⟨Nat.le_refl _, Nat.le_refl _⟩ (fun x7 σ8 H locs hs hf => ?_)
    exact mrI S K hr hk hs hf dX9_pending_18
theorem metX9_pending (l : Launch) (D : va_G) (cI : ClassId) (h : Nat) (ad : Nat → Nat) (a0 : Int32) (a1 : Int32) (σ : zSt) (r0 : Int32) (σ0 : zSt) (hf : fX9_pending a0 a1 σ = some (r0, σ0)) : Met l yX9_pending (Cond.code yX9_pending cX9_pending 3 (some .int) :: WA) rmX9_pending (mPc D cI h ad σ [.ref h, .int a0, .int a1]) ((mQi D cI h ad r0 σ0)) 0 0 (mA h ad) :=
  mMet (by decide) (Nat.le_of_ble_eq_true rfl) (fun p e s m args below meth c H locs ls S K hr hk hl hs => bdX9_pending S K hr hk _ _ _ _ _ hf hl hs)
set_option maxHeartbeats 4000000 in
set_option maxRecDepth 100000 in
theorem bdX9_read {p : Program} {l : Launch} {e : Env} {s : State} {m : MethodId} {args : Array Value} {below : List Frame} {meth : Method} {c : Code} {H : Heap} {locs : List Loc} {ls : Array Slot} {D : va_G} {cI : ClassId} {h : Nat} {ad : Nat → Nat} (S : CallFix p m c cX9_read 3 s args WA RX9) (K : va_K D vwCl [(cI, .int)] s) (hr : meth.sig.returnType = (some .int)) (hk : meth.locks = false) (a0 : Int32) (a1 : Int32) (σ : zSt) (r0 : Int32) (σ0 : zSt) (hf : fX9_read a0 a1 σ = some (r0, σ0)) (hl : lv_has ls 3 [(0, .ref h), (1, .int a0), (2, .int a1)]) (hs : mS D cI h ad s σ H locs) : W p l e rmX9_read s m args below meth c H locs 0 0 (MQ below (mQi D cI h ad r0 σ0) args s 0 0 (mA h ad)) (F0 m 0 ls []) := by
  obtain ⟨res, hres⟩ : ∃ q, q = (r0, σ0) := ⟨_, rfl⟩
  rw [← hres] at hf
  have J20 : ∀ (σ : zSt), fX9_read_j20 σ = some res → mGo p l e rmX9_read s m args below meth c (MQ below (mQi D cI h ad r0 σ0) args s 0 0 (mA h ad)) D cI h ad 3 σ [(0, .ref h)] 20 [] := by
    intro σ hf H locs ls hl hs
    unfold fX9_read_j20 at hf
    refine lv_aload_n S.1 S.2.1 dX9_read_20 rfl (lv_at hl 0 rfl) ?_
    refine lv_iconst S.1 S.2.1 dX9_read_21 k_iconst_1 ?_
    refine mcV S K hs hl.1 hf (fun _ _ hX => metX9_fails _ _ _ _ _ _ _ _ _ hX) (cwX9_99 S.2.2.2.2 ⟨Nat.le_of_ble_eq_true rfl, Nat.le_of_ble_eq_true rfl⟩) rfl dX9_read_22 rfl (Nat.le_of_ble_eq_true rfl) ⟨Nat.le_refl _, Nat.le_refl _⟩ (fun x3 σ4 H locs hs hf => ?_)
    exact mrI S K hr hk hs (hf.trans (congrArg some hres)) dX9_read_25
  unfold fX9_read at hf
  refine lv_aload_n S.1 S.2.1 dX9_read_0 rfl (lv_at hl 0 rfl) ?_
  refine lv_iconst S.1 S.2.1 dX9_read_1 k_iconst_0 ?_
  refine mp29 S K hs hf dX9_read_2 (fun σ1 H locs hs hf => ?_)
  refine lv_aload_n S.1 S.2.1 dX9_read_5 rfl (lv_at hl 0 rfl) ?_
  refine lv_iload_n S.1 S.2.1 dX9_read_6 rfl (lv_at hl 1 rfl) ?_
  refine mcP S K hs hl.1 hf (fun _ hX => metX9_isCache _ _ _ _ _ _ _ _ hX) (cwX9_105 S.2.2.2.2 ⟨Nat.le_of_ble_eq_true rfl, Nat.le_of_ble_eq_true rfl⟩) rfl dX9_read_7 rfl (Nat.le_of_ble_eq_true rfl) ⟨Nat.le_refl _, Nat.le_refl _⟩ (fun x2 H locs hs hf => ?_)
  refine z_if_eq (tgt := 20) S hf dX9_read_10 (by decide) (fun hf => ?_) (fun hf => ?_)
  · exact J20 _ hf _ _ _ (lv_sub hl [0] rfl) hs
  · refine lv_iload_n S.1 S.2.1 dX9_read_13 rfl (lv_at hl 2 rfl) ?_
    refine mcT S K hs hl.1 hf (fun _ hX => metX9_isLine _ _ _ _ _ _ _ _ hX) (cwX9_108 S.2.2.2.2 ⟨Nat.le_of_ble_eq_true rfl, Nat.le_of_ble_eq_true rfl⟩) rfl dX9_read_14 rfl (Nat.le_of_ble_eq_true rfl) ⟨Nat.le_refl _, Nat.le_refl _⟩ (fun x5 H locs hs hf => ?_)
    refine z_if_ne (tgt := 26) S hf dX9_read_17 (by decide) (fun hf => ?_) (fun hf => ?_)
    · refine lv_aload_n S.1 S.2.1 dX9_read_26 rfl (lv_at hl 0 rfl) ?_
      refine lv_iload_n S.1 S.2.1 dX9_read_27 rfl (lv_at hl 1 rfl) ?_
      refine mcP S K hs hl.1 hf (fun _ hX => metX9_isAsking _ _ _ _ _ _ _ _ hX) (cwX9_95 S.2.2.2.2 ⟨Nat.le_of_ble_eq_true rfl, Nat.le_of_ble_eq_true rfl⟩) rfl dX9_read_28 rfl (Nat.le_of_ble_eq_true rfl) ⟨Nat.le_refl _, Nat.le_refl _⟩ (fun x6 H locs hs hf => ?_)
      refine z_if_eq (tgt := 40) S hf dX9_read_31 (by decide) (fun hf => ?_) (fun hf => ?_)
      · refine lv_aload_n S.1 S.2.1 dX9_read_40 rfl (lv_at hl 0 rfl) ?_
        refine mcU S K hs hl.1 hf (fun _ hX => metX9_save _ _ _ _ _ _ _ hX) (cwX9_102 S.2.2.2.2 ⟨Nat.le_of_ble_eq_true rfl, Nat.le_of_ble_eq_true rfl⟩) rfl dX9_read_41 rfl (Nat.le_of_ble_eq_true rfl) ⟨Nat.le_refl _, Nat.le_refl _⟩ (fun σ7 H locs hs hf => ?_)
        refine lv_aload_n S.1 S.2.1 dX9_read_44 rfl (lv_at hl 0 rfl) ?_
        refine lv_iload_n S.1 S.2.1 dX9_read_45 rfl (lv_at hl 1 rfl) ?_
        refine lv_iload_n S.1 S.2.1 dX9_read_46 rfl (lv_at hl 2 rfl) ?_
        refine lv_iconst S.1 S.2.1 dX9_read_47 k_iconst_m1 ?_
        refine mcV S K hs hl.1 hf (fun _ _ hX => metX9_asks _ _ _ _ _ _ _ _ _ _ _ hX) (cwX9_111 S.2.2.2.2 ⟨Nat.le_of_ble_eq_true rfl, Nat.le_of_ble_eq_true rfl⟩) rfl dX9_read_48 rfl (Nat.le_of_ble_eq_true rfl) ⟨Nat.le_refl _, Nat.le_refl _⟩ (fun x8 σ9 H locs hs hf => ?_)
        exact mrI S K hr hk hs (hf.trans (congrArg some hres)) dX9_read_51
      · refine lv_aload_n S.1 S.2.1 dX9_read_34 rfl (lv_at hl 0 rfl) ?_
        refine lv_iconst S.1 S.2.1 dX9_read_35 k_iconst_2 ?_
        refine mcV S K hs hl.1 hf (fun _ _ hX => metX9_fails _ _ _ _ _ _ _ _ _ hX) (cwX9_99 S.2.2.2.2 ⟨Nat.le_of_ble_eq_true rfl, Nat.le_of_ble_eq_true rfl⟩) rfl dX9_read_36 rfl (Nat.le_of_ble_eq_true rfl) ⟨Nat.le_refl _, Nat.le_refl _⟩ (fun x10 σ11 H locs hs hf => ?_)
        exact mrI S K hr hk hs (hf.trans (congrArg some hres)) dX9_read_39
    · exact J20 _ hf _ _ _ (lv_sub hl [0] rfl) hs
theorem metX9_read (l : Launch) (D : va_G) (cI : ClassId) (h : Nat) (ad : Nat → Nat) (a0 : Int32) (a1 : Int32) (σ : zSt) (r0 : Int32) (σ0 : zSt) (hf : fX9_read a0 a1 σ = some (r0, σ0)) : Met l yX9_read (Cond.code yX9_read cX9_read 3 (some .int) :: WA) rmX9_read (mPc D cI h ad σ [.ref h, .int a0, .int a1]) ((mQi D cI h ad r0 σ0)) 0 0 (mA h ad) :=
  mMet (by decide) (Nat.le_of_ble_eq_true rfl) (fun p e s m args below meth c H locs ls S K hr hk hl hs => bdX9_read S K hr hk _ _ _ _ _ hf hl hs)
set_option maxHeartbeats 4000000 in
set_option maxRecDepth 100000 in
theorem bdX9_takeBack {p : Program} {l : Launch} {e : Env} {s : State} {m : MethodId} {args : Array Value} {below : List Frame} {meth : Method} {c : Code} {H : Heap} {locs : List Loc} {ls : Array Slot} {D : va_G} {cI : ClassId} {h : Nat} {ad : Nat → Nat} (S : CallFix p m c cX9_takeBack 3 s args WA RX9) (K : va_K D vwCl [(cI, .int)] s) (hr : meth.sig.returnType = (some .int)) (hk : meth.locks = false) (a0 : Int32) (σ : zSt) (r0 : Int32) (σ0 : zSt) (hf : fX9_takeBack a0 σ = some (r0, σ0)) (hl : lv_has ls 3 [(0, .ref h), (1, .int a0)]) (hs : mS D cI h ad s σ H locs) : W p l e rmX9_takeBack s m args below meth c H locs 0 0 (MQ below (mQi D cI h ad r0 σ0) args s 0 0 (mA h ad)) (F0 m 0 ls []) := by
  unfold fX9_takeBack at hf
  refine lv_aload_n S.1 S.2.1 dX9_takeBack_0 rfl (lv_at hl 0 rfl) ?_
  refine lv_iconst S.1 S.2.1 dX9_takeBack_1 k_iconst_0 ?_
  refine mp29 S K hs hf dX9_takeBack_2 (fun σ1 H locs hs hf => ?_)
  refine lv_aload_n S.1 S.2.1 dX9_takeBack_5 rfl (lv_at hl 0 rfl) ?_
  refine lv_iload_n S.1 S.2.1 dX9_takeBack_6 rfl (lv_at hl 1 rfl) ?_
  refine mcP S K hs hl.1 hf (fun _ hX => metX9_isCache _ _ _ _ _ _ _ _ hX) (cwX9_105 S.2.2.2.2 ⟨Nat.le_of_ble_eq_true rfl, Nat.le_of_ble_eq_true rfl⟩) rfl dX9_takeBack_7 rfl (Nat.le_of_ble_eq_true rfl) ⟨Nat.le_refl _, Nat.le_refl _⟩ (fun x2 H locs hs hf => ?_)
  refine z_if_ne (tgt := 19) S hf dX9_takeBack_10 (by decide) (fun hf => ?_) (fun hf => ?_)
  · refine lv_aload_n S.1 S.2.1 dX9_takeBack_19 rfl (lv_at hl 0 rfl) ?_
    refine lv_iload_n S.1 S.2.1 dX9_takeBack_20 rfl (lv_at hl 1 rfl) ?_
    refine mcP S K hs hl.1 hf (fun _ hX => metX9_isAsking _ _ _ _ _ _ _ _ hX) (cwX9_95 S.2.2.2.2 ⟨Nat.le_of_ble_eq_true rfl, Nat.le_of_ble_eq_true rfl⟩) rfl dX9_takeBack_21 rfl (Nat.le_of_ble_eq_true rfl) ⟨Nat.le_refl _, Nat.le_refl _⟩ (fun x3 H locs hs hf => ?_)
    refine z_if_ne (tgt := 33) S hf dX9_takeBack_24 (by decide) (fun hf => ?_) (fun hf => ?_)
    · refine lv_aload_n S.1 S.2.1 dX9_takeBack_33 rfl (lv_at hl 0 rfl) ?_
      refine mcU S K hs hl.1 hf (fun _ hX => metX9_save _ _ _ _ _ _ _ hX) (cwX9_102 S.2.2.2.2 ⟨Nat.le_of_ble_eq_true rfl, Nat.le_of_ble_eq_true rfl⟩) rfl dX9_takeBack_34 rfl (Nat.le_of_ble_eq_true rfl) ⟨Nat.le_refl _, Nat.le_refl _⟩ (fun σ4 H locs hs hf => ?_)
      refine lv_aload_n S.1 S.2.1 dX9_takeBack_37 rfl (lv_at hl 0 rfl) ?_
      refine mg7 S K hs dX9_takeBack_38 ?_
      refine lv_sipush S.1 S.2.1 dX9_takeBack_41 k_sipush_366 ?_
      refine lv_iconst S.1 S.2.1 dX9_takeBack_44 k_iconst_3 ?_
      refine lv_iload_n S.1 S.2.1 dX9_takeBack_45 rfl (lv_at hl 1 rfl) ?_
      refine lv_imul S.1 S.2.1 dX9_takeBack_46 ?_
      refine lv_iadd S.1 S.2.1 dX9_takeBack_47 ?_
      refine mld0 S K hs hf dX9_takeBack_48 (fun x5 hf => ?_)
      refine lv_istore_n (lv' := [(2, .int x5), (0, .ref h), (1, .int a0)]) S.1 S.2.1 dX9_takeBack_49 rfl hl (by decide) rfl (fun ls hl => ?_)
      refine lv_aload_n S.1 S.2.1 dX9_takeBack_50 rfl (lv_at hl 1 rfl) ?_
      refine mg7 S K hs dX9_takeBack_51 ?_
      refine lv_sipush S.1 S.2.1 dX9_takeBack_54 k_sipush_366 ?_
      refine lv_iconst S.1 S.2.1 dX9_takeBack_57 k_iconst_3 ?_
      refine lv_iload_n S.1 S.2.1 dX9_takeBack_58 rfl (lv_at hl 2 rfl) ?_
      refine lv_imul S.1 S.2.1 dX9_takeBack_59 ?_
      refine lv_iadd S.1 S.2.1 dX9_takeBack_60 ?_
      refine lv_iconst S.1 S.2.1 dX9_takeBack_61 k_iconst_m1 ?_
      refine mst0 S K hs hf dX9_takeBack_62 (fun σ6 H locs hs hf => ?_)
      refine lv_iload_n S.1 S.2.1 dX9_takeBack_63 rfl (lv_at hl 0 rfl) ?_
      exact mrI S K hr hk hs hf dX9_takeBack_64
    · refine lv_aload_n S.1 S.2.1 dX9_takeBack_27 rfl (lv_at hl 0 rfl) ?_
      refine lv_iconst S.1 S.2.1 dX9_takeBack_28 k_iconst_2 ?_
      refine mcV S K hs hl.1 hf (fun _ _ hX => metX9_fails _ _ _ _ _ _ _ _ _ hX) (cwX9_99 S.2.2.2.2 ⟨Nat.le_of_ble_eq_true rfl, Nat.le_of_ble_eq_true rfl⟩) rfl dX9_takeBack_29 rfl (Nat.le_of_ble_eq_true rfl) ⟨Nat.le_refl _, Nat.le_refl _⟩ (fun x7 σ8 H locs hs hf => ?_)
      exact mrI S K hr hk hs hf dX9_takeBack_32
  · refine lv_aload_n S.1 S.2.1 dX9_takeBack_13 rfl (lv_at hl 0 rfl) ?_
    refine lv_iconst S.1 S.2.1 dX9_takeBack_14 k_iconst_1 ?_
    refine mcV S K hs hl.1 hf (fun _ _ hX => metX9_fails _ _ _ _ _ _ _ _ _ hX) (cwX9_99 S.2.2.2.2 ⟨Nat.le_of_ble_eq_true rfl, Nat.le_of_ble_eq_true rfl⟩) rfl dX9_takeBack_15 rfl (Nat.le_of_ble_eq_true rfl) ⟨Nat.le_refl _, Nat.le_refl _⟩ (fun x9 σ10 H locs hs hf => ?_)
    exact mrI S K hr hk hs hf dX9_takeBack_18
theorem metX9_takeBack (l : Launch) (D : va_G) (cI : ClassId) (h : Nat) (ad : Nat → Nat) (a0 : Int32) (σ : zSt) (r0 : Int32) (σ0 : zSt) (hf : fX9_takeBack a0 σ = some (r0, σ0)) : Met l yX9_takeBack (Cond.code yX9_takeBack cX9_takeBack 3 (some .int) :: WA) rmX9_takeBack (mPc D cI h ad σ [.ref h, .int a0]) ((mQi D cI h ad r0 σ0)) 0 0 (mA h ad) :=
  mMet (by decide) (Nat.le_of_ble_eq_true rfl) (fun p e s m args below meth c H locs ls S K hr hk hl hs => bdX9_takeBack S K hr hk _ _ _ _ hf hl hs)
set_option maxHeartbeats 4000000 in
set_option maxRecDepth 100000 in
theorem bdX9_tear {p : Program} {l : Launch} {e : Env} {s : State} {m : MethodId} {args : Array Value} {below : List Frame} {meth : Method} {c : Code} {H : Heap} {locs : List Loc} {ls : Array Slot} {D : va_G} {cI : ClassId} {h : Nat} {ad : Nat → Nat} (S : CallFix p m c cX9_tear 4 s args WA RX9) (K : va_K D vwCl [(cI, .int)] s) (hr : meth.sig.returnType = (some .int)) (hk : meth.locks = false) (a0 : Int32) (σ : zSt) (r0 : Int32) (σ0 : zSt) (hf : fX9_tear a0 σ = some (r0, σ0)) (hl : lv_has ls 4 [(0, .ref h), (1, .int a0)]) (hs : mS D cI h ad s σ H locs) : W p l e rmX9_tear s m args below meth c H locs 0 0 (MQ below (mQi D cI h ad r0 σ0) args s 0 0 (mA h ad)) (F0 m 0 ls []) := by
  obtain ⟨res, hres⟩ : ∃ q, q = (r0, σ0) := ⟨_, rfl⟩
  rw [← hres] at hf
  have J65 : ∀ (y2 : Int32) (w0 : Int32) (w1 : Int32) (σ : zSt), fX9_tear_j65 y2 w0 w1 σ = some res → mGo p l e rmX9_tear s m args below meth c (MQ below (mQi D cI h ad r0 σ0) args s 0 0 (mA h ad)) D cI h ad 4 σ [(0, .ref h), (2, .int y2)] 65 [.int w0, .int w1] := by
    intro y2 w0 w1 σ hf H locs ls hl hs
    unfold fX9_tear_j65 at hf
    refine lv_iadd S.1 S.2.1 dX9_tear_65 ?_
    refine lv_istore_n (lv' := [(3, .int (w1 + w0)), (0, .ref h), (2, .int y2)]) S.1 S.2.1 dX9_tear_66 rfl hl (by decide) rfl (fun ls hl => ?_)
    refine lv_aload_n S.1 S.2.1 dX9_tear_67 rfl (lv_at hl 1 rfl) ?_
    refine lv_iload_n S.1 S.2.1 dX9_tear_68 rfl (lv_at hl 2 rfl) ?_
    refine mcU S K hs hl.1 hf (fun _ hX => metX9_tearOut _ _ _ _ _ _ _ _ hX) (cwX9_59 S.2.2.2.2 ⟨Nat.le_of_ble_eq_true rfl, Nat.le_of_ble_eq_true rfl⟩) rfl dX9_tear_69 rfl (Nat.le_of_ble_eq_true rfl) ⟨Nat.le_refl _, Nat.le_refl _⟩ (fun σ8 H locs hs hf => ?_)
    refine lv_iload_n S.1 S.2.1 dX9_tear_72 rfl (lv_at hl 0 rfl) ?_
    exact mrI S K hr hk hs (hf.trans (congrArg some hres)) dX9_tear_73
  unfold fX9_tear at hf
  refine lv_aload_n S.1 S.2.1 dX9_tear_0 rfl (lv_at hl 0 rfl) ?_
  refine lv_iconst S.1 S.2.1 dX9_tear_1 k_iconst_0 ?_
  refine mp29 S K hs hf dX9_tear_2 (fun σ1 H locs hs hf => ?_)
  refine lv_iload_n S.1 S.2.1 dX9_tear_5 rfl (lv_at hl 1 rfl) ?_
  refine mcT S K hs hl.1 hf (fun _ hX => metX9_isLine _ _ _ _ _ _ _ _ hX) (cwX9_108 S.2.2.2.2 ⟨Nat.le_of_ble_eq_true rfl, Nat.le_of_ble_eq_true rfl⟩) rfl dX9_tear_6 rfl (Nat.le_of_ble_eq_true rfl) ⟨Nat.le_refl _, Nat.le_refl _⟩ (fun x2 H locs hs hf => ?_)
  refine z_if_ne (tgt := 18) S hf dX9_tear_9 (by decide) (fun hf => ?_) (fun hf => ?_)
  · refine lv_aload_n S.1 S.2.1 dX9_tear_18 rfl (lv_at hl 0 rfl) ?_
    refine lv_iload_n S.1 S.2.1 dX9_tear_19 rfl (lv_at hl 1 rfl) ?_
    refine mcP S K hs hl.1 hf (fun _ hX => metX9_pageOf _ _ _ _ _ _ _ _ hX) (cwX9_48 S.2.2.2.2 ⟨Nat.le_of_ble_eq_true rfl, Nat.le_of_ble_eq_true rfl⟩) rfl dX9_tear_20 rfl (Nat.le_of_ble_eq_true rfl) ⟨Nat.le_refl _, Nat.le_refl _⟩ (fun x3 H locs hs hf => ?_)
    refine lv_istore_n (lv' := [(2, .int x3), (0, .ref h), (1, .int a0)]) S.1 S.2.1 dX9_tear_23 rfl hl (by decide) rfl (fun ls hl => ?_)
    refine lv_iload_n S.1 S.2.1 dX9_tear_24 rfl (lv_at hl 0 rfl) ?_
    refine z_if_ge (tgt := 34) S hf dX9_tear_25 (by decide) (fun hf => ?_) (fun hf => ?_)
    · refine lv_aload_n S.1 S.2.1 dX9_tear_34 rfl (lv_at hl 1 rfl) ?_
      refine mcU S K hs hl.1 hf (fun _ hX => metX9_save _ _ _ _ _ _ _ hX) (cwX9_102 S.2.2.2.2 ⟨Nat.le_of_ble_eq_true rfl, Nat.le_of_ble_eq_true rfl⟩) rfl dX9_tear_35 rfl (Nat.le_of_ble_eq_true rfl) ⟨Nat.le_refl _, Nat.le_refl _⟩ (fun σ4 H locs hs hf => ?_)
      refine lv_aload_n S.1 S.2.1 dX9_tear_38 rfl (lv_at hl 1 rfl) ?_
      refine mg7 S K hs dX9_tear_39 ?_
      refine lv_iload_n S.1 S.2.1 dX9_tear_42 rfl (lv_at hl 0 rfl) ?_
      refine lv_iconst S.1 S.2.1 dX9_tear_43 k_iconst_2 ?_
      refine lv_iadd S.1 S.2.1 dX9_tear_44 ?_
      refine mld0 S K hs hf dX9_tear_45 (fun x5 hf => ?_)
      refine mcT S K hs hl.1 hf (fun _ hX => metX9_ones _ _ _ _ _ _ _ _ hX) (cwX9_118 S.2.2.2.2 ⟨Nat.le_of_ble_eq_true rfl, Nat.le_of_ble_eq_true rfl⟩) rfl dX9_tear_46 rfl (Nat.le_of_ble_eq_true rfl) ⟨Nat.le_refl _, Nat.le_refl _⟩ (fun x6 H locs hs hf => ?_)
      refine lv_aload_n S.1 S.2.1 dX9_tear_49 rfl (lv_at hl 1 rfl) ?_
      refine mg7 S K hs dX9_tear_50 ?_
      refine lv_iload_n S.1 S.2.1 dX9_tear_53 rfl (lv_at hl 0 rfl) ?_
      refine lv_iconst S.1 S.2.1 dX9_tear_54 k_iconst_1 ?_
      refine lv_iadd S.1 S.2.1 dX9_tear_55 ?_
      refine mld0 S K hs hf dX9_tear_56 (fun x7 hf => ?_)
      refine z_if_lt (tgt := 64) S hf dX9_tear_57 (by decide) (fun hf => ?_) (fun hf => ?_)
      · refine lv_iconst S.1 S.2.1 dX9_tear_64 k_iconst_0 ?_
        exact J65 _ _ _ _ hf _ _ _ (lv_sub hl [1, 0] rfl) hs
      · refine lv_iconst S.1 S.2.1 dX9_tear_60 k_iconst_1 ?_
        refine lv_goto (tgt := 65) S.1 S.2.1 dX9_tear_61 (by decide) ?_
        exact J65 _ _ _ _ hf _ _ _ (lv_sub hl [1, 0] rfl) hs
    · refine lv_aload_n S.1 S.2.1 dX9_tear_28 rfl (lv_at hl 1 rfl) ?_
      refine lv_iconst S.1 S.2.1 dX9_tear_29 k_iconst_2 ?_
      refine mcV S K hs hl.1 hf (fun _ _ hX => metX9_fails _ _ _ _ _ _ _ _ _ hX) (cwX9_99 S.2.2.2.2 ⟨Nat.le_of_ble_eq_true rfl, Nat.le_of_ble_eq_true rfl⟩) rfl dX9_tear_30 rfl (Nat.le_of_ble_eq_true rfl) ⟨Nat.le_refl _, Nat.le_refl _⟩ (fun x9 σ10 H locs hs hf => ?_)
      exact mrI S K hr hk hs (hf.trans (congrArg some hres)) dX9_tear_33
  · refine lv_aload_n S.1 S.2.1 dX9_tear_12 rfl (lv_at hl 0 rfl) ?_
    refine lv_iconst S.1 S.2.1 dX9_tear_13 k_iconst_1 ?_
    refine mcV S K hs hl.1 hf (fun _ _ hX => metX9_fails _ _ _ _ _ _ _ _ _ hX) (cwX9_99 S.2.2.2.2 ⟨Nat.le_of_ble_eq_true rfl, Nat.le_of_ble_eq_true rfl⟩) rfl dX9_tear_14 rfl (Nat.le_of_ble_eq_true rfl) ⟨Nat.le_refl _, Nat.le_refl _⟩ (fun x11 σ12 H locs hs hf => ?_)
    exact mrI S K hr hk hs (hf.trans (congrArg some hres)) dX9_tear_17
theorem metX9_tear (l : Launch) (D : va_G) (cI : ClassId) (h : Nat) (ad : Nat → Nat) (a0 : Int32) (σ : zSt) (r0 : Int32) (σ0 : zSt) (hf : fX9_tear a0 σ = some (r0, σ0)) : Met l yX9_tear (Cond.code yX9_tear cX9_tear 4 (some .int) :: WA) rmX9_tear (mPc D cI h ad σ [.ref h, .int a0]) ((mQi D cI h ad r0 σ0)) 0 0 (mA h ad) :=
  mMet (by decide) (Nat.le_of_ble_eq_true rfl) (fun p e s m args below meth c H locs ls S K hr hk hl hs => bdX9_tear S K hr hk _ _ _ _ hf hl hs)
set_option maxHeartbeats 4000000 in
set_option maxRecDepth 100000 in
theorem bdX9_thrown {p : Program} {l : Launch} {e : Env} {s : State} {m : MethodId} {args : Array Value} {below : List Frame} {meth : Method} {c : Code} {H : Heap} {locs : List Loc} {ls : Array Slot} {D : va_G} {cI : ClassId} {h : Nat} {ad : Nat → Nat} (S : CallFix p m c cX9_thrown 1 s args WA RX9) (K : va_K D vwCl [(cI, .int)] s) (hr : meth.sig.returnType = (some .int)) (hk : meth.locks = false) (σ : zSt) (r0 : Int32) (hf : fX9_thrown σ = some r0) (hl : lv_has ls 1 [(0, .ref h)]) (hs : mS D cI h ad s σ H locs) : W p l e rmX9_thrown s m args below meth c H locs 0 0 (MQ below (mQi D cI h ad r0 σ) args s 0 0 (mA h ad)) (F0 m 0 ls []) := by
  unfold fX9_thrown at hf
  refine lv_aload_n S.1 S.2.1 dX9_thrown_0 rfl (lv_at hl 0 rfl) ?_
  refine mg29 S K hs dX9_thrown_1 ?_
  exact mrP S K hr hk hs hf dX9_thrown_4
theorem metX9_thrown (l : Launch) (D : va_G) (cI : ClassId) (h : Nat) (ad : Nat → Nat) (σ : zSt) (r0 : Int32) (hf : fX9_thrown σ = some r0) : Met l yX9_thrown (Cond.code yX9_thrown cX9_thrown 1 (some .int) :: WA) rmX9_thrown (mPc D cI h ad σ [.ref h]) ((mQi D cI h ad r0 σ)) 0 0 (mA h ad) :=
  mMet (by decide) (Nat.le_of_ble_eq_true rfl) (fun p e s m args below meth c H locs ls S K hr hk hl hs => bdX9_thrown S K hr hk  _ _ hf hl hs)
set_option maxHeartbeats 4000000 in
set_option maxRecDepth 100000 in
theorem bdX9_ticksToServe {p : Program} {l : Launch} {e : Env} {s : State} {m : MethodId} {args : Array Value} {below : List Frame} {meth : Method} {c : Code} {H : Heap} {locs : List Loc} {ls : Array Slot} {D : va_G} {cI : ClassId} {h : Nat} {ad : Nat → Nat} (S : CallFix p m c cX9_ticksToServe 2 s args WA RX9) (K : va_K D vwCl [(cI, .int)] s) (hr : meth.sig.returnType = (some .int)) (hk : meth.locks = false) (σ : zSt) (r0 : Int32) (σ0 : zSt) (hf : fX9_ticksToServe σ = some (r0, σ0)) (hl : lv_has ls 2 [(0, .ref h)]) (hs : mS D cI h ad s σ H locs) : W p l e rmX9_ticksToServe s m args below meth c H locs 0 0 (MQ below (mQi D cI h ad r0 σ0) args s 0 0 (mA h ad)) (F0 m 0 ls []) := by
  obtain ⟨res, hres⟩ : ∃ q, q = (r0, σ0) := ⟨_, rfl⟩
  rw [← hres] at hf
  have L11 : ∀ (K11 : Int32 → zSt → Option (Int32 × zSt)) (hK11 : ∀ (y1 : Int32) (σ : zSt), K11 y1 σ = some res → mGo p l e rmX9_ticksToServe s m args below meth c (MQ below (mQi D cI h ad r0 σ0) args s 0 0 (mA h ad)) D cI h ad 2 σ [(0, .ref h), (1, .int y1)] 35 []) (n : Nat) (y1 : Int32) (σ : zSt), fX9_ticksToServe_l11 K11 n y1 σ = some res → mGo p l e rmX9_ticksToServe s m args below meth c (MQ below (mQi D cI h ad r0 σ0) args s 0 0 (mA h ad)) D cI h ad 2 σ [(0, .ref h), (1, .int y1)] 11 [] := by
    intro K11 hK11 n
    induction n with
    | zero =>
      intro y1 σ hf H locs ls hl hs
      rw [fX9_ticksToServe_l11] at hf
      cases hf
    | succ n ih =>
      intro y1 σ hf H locs ls hl hs
      rw [fX9_ticksToServe_l11] at hf
      refine lv_aload_n S.1 S.2.1 dX9_ticksToServe_11 rfl (lv_at hl 0 rfl) ?_
      refine mcP S K hs hl.1 hf (fun _ hX => metX9_waiting _ _ _ _ _ _ _ hX) (cwX9_130 S.2.2.2.2 ⟨Nat.le_of_ble_eq_true rfl, Nat.le_of_ble_eq_true rfl⟩) rfl dX9_ticksToServe_12 rfl (Nat.le_of_ble_eq_true rfl) ⟨Nat.le_refl _, Nat.le_refl _⟩ (fun x3 H locs hs hf => ?_)
      refine z_if_le (tgt := 35) S hf dX9_ticksToServe_15 (by decide) (fun hf => ?_) (fun hf => ?_)
      · exact hK11 _ _ hf _ _ _ (lv_sub hl [0, 1] rfl) hs
      · refine lv_iload_n S.1 S.2.1 dX9_ticksToServe_18 rfl (lv_at hl 1 rfl) ?_
        refine lv_bipush S.1 S.2.1 dX9_ticksToServe_19 k_bipush_6 ?_
        refine z_icmp_ge (tgt := 35) S hf dX9_ticksToServe_21 (by decide) (fun hf => ?_) (fun hf => ?_)
        · exact hK11 _ _ hf _ _ _ (lv_sub hl [0, 1] rfl) hs
        · refine lv_aload_n S.1 S.2.1 dX9_ticksToServe_24 rfl (lv_at hl 0 rfl) ?_
          refine mcV S K hs hl.1 hf (fun _ _ hX => metX9_tick _ _ _ _ _ _ _ _ hX) (cwX9_92 S.2.2.2.2 ⟨Nat.le_of_ble_eq_true rfl, Nat.le_of_ble_eq_true rfl⟩) rfl dX9_ticksToServe_25 rfl (Nat.le_of_ble_eq_true rfl) ⟨Nat.le_refl _, Nat.le_refl _⟩ (fun x4 σ5 H locs hs hf => ?_)
          refine lv_pop S.1 S.2.1 dX9_ticksToServe_28 rfl ?_
          refine lv_iinc (v := y1 + nI 1) (lv' := [(1, .int (y1 + nI 1)), (0, .ref h)]) S.1 S.2.1 dX9_ticksToServe_29 hl (k := 1) rfl (by rw [k_iconst_1]) (by decide) rfl (fun ls hl => ?_)
          refine lv_goto (tgt := 11) S.1 S.2.1 dX9_ticksToServe_32 (by decide) ?_
          exact ih _ _ hf _ _ _ (lv_sub hl [1, 0] rfl) hs
  unfold fX9_ticksToServe at hf
  refine lv_aload_n S.1 S.2.1 dX9_ticksToServe_0 rfl (lv_at hl 0 rfl) ?_
  refine lv_iconst S.1 S.2.1 dX9_ticksToServe_1 k_iconst_0 ?_
  refine mp29 S K hs hf dX9_ticksToServe_2 (fun σ1 H locs hs hf => ?_)
  refine lv_aload_n S.1 S.2.1 dX9_ticksToServe_5 rfl (lv_at hl 0 rfl) ?_
  refine mcU S K hs hl.1 hf (fun _ hX => metX9_keep _ _ _ _ _ _ _ hX) (cwX9_136 S.2.2.2.2 ⟨Nat.le_of_ble_eq_true rfl, Nat.le_of_ble_eq_true rfl⟩) rfl dX9_ticksToServe_6 rfl (Nat.le_of_ble_eq_true rfl) ⟨Nat.le_refl _, Nat.le_refl _⟩ (fun σ2 H locs hs hf => ?_)
  refine lv_iconst S.1 S.2.1 dX9_ticksToServe_9 k_iconst_0 ?_
  refine lv_istore_n (lv' := [(1, .int (nI 0)), (0, .ref h)]) S.1 S.2.1 dX9_ticksToServe_10 rfl hl (by decide) rfl (fun ls hl => ?_)
  refine L11 _ (fun x6 σ7 hf H locs ls hl hs => ?_) _ _ _ hf _ _ _ (lv_sub hl [1, 0] rfl) hs
  refine lv_aload_n S.1 S.2.1 dX9_ticksToServe_35 rfl (lv_at hl 0 rfl) ?_
  refine mcU S K hs hl.1 hf (fun _ hX => metX9_bringBack _ _ _ _ _ _ _ hX) (cwX9_139 S.2.2.2.2 ⟨Nat.le_of_ble_eq_true rfl, Nat.le_of_ble_eq_true rfl⟩) rfl dX9_ticksToServe_36 rfl (Nat.le_of_ble_eq_true rfl) ⟨Nat.le_refl _, Nat.le_refl _⟩ (fun σ8 H locs hs hf => ?_)
  refine lv_iload_n S.1 S.2.1 dX9_ticksToServe_39 rfl (lv_at hl 1 rfl) ?_
  exact mrI S K hr hk hs (hf.trans (congrArg some hres)) dX9_ticksToServe_40
theorem metX9_ticksToServe (l : Launch) (D : va_G) (cI : ClassId) (h : Nat) (ad : Nat → Nat) (σ : zSt) (r0 : Int32) (σ0 : zSt) (hf : fX9_ticksToServe σ = some (r0, σ0)) : Met l yX9_ticksToServe (Cond.code yX9_ticksToServe cX9_ticksToServe 2 (some .int) :: WA) rmX9_ticksToServe (mPc D cI h ad σ [.ref h]) ((mQi D cI h ad r0 σ0)) 0 0 (mA h ad) :=
  mMet (by decide) (Nat.le_of_ble_eq_true rfl) (fun p e s m args below meth c H locs ls S K hr hk hl hs => bdX9_ticksToServe S K hr hk  _ _ _ hf hl hs)
set_option maxHeartbeats 4000000 in
set_option maxRecDepth 100000 in
theorem bdX9_undo {p : Program} {l : Launch} {e : Env} {s : State} {m : MethodId} {args : Array Value} {below : List Frame} {meth : Method} {c : Code} {H : Heap} {locs : List Loc} {ls : Array Slot} {D : va_G} {cI : ClassId} {h : Nat} {ad : Nat → Nat} (S : CallFix p m c cX9_undo 2 s args WA RX9) (K : va_K D vwCl [(cI, .int)] s) (hr : meth.sig.returnType = (some .int)) (hk : meth.locks = false) (σ : zSt) (r0 : Int32) (σ0 : zSt) (hf : fX9_undo σ = some (r0, σ0)) (hl : lv_has ls 2 [(0, .ref h)]) (hs : mS D cI h ad s σ H locs) : W p l e rmX9_undo s m args below meth c H locs 0 0 (MQ below (mQi D cI h ad r0 σ0) args s 0 0 (mA h ad)) (F0 m 0 ls []) := by
  obtain ⟨res, hres⟩ : ∃ q, q = (r0, σ0) := ⟨_, rfl⟩
  rw [← hres] at hf
  have L30 : ∀ (K30 : zSt → Option (Int32 × zSt)) (hK30 : ∀ (σ : zSt), K30 σ = some res → mGo p l e rmX9_undo s m args below meth c (MQ below (mQi D cI h ad r0 σ0) args s 0 0 (mA h ad)) D cI h ad 2 σ [(0, .ref h)] 64 []) (n : Nat) (y1 : Int32) (σ : zSt), fX9_undo_l30 K30 n y1 σ = some res → mGo p l e rmX9_undo s m args below meth c (MQ below (mQi D cI h ad r0 σ0) args s 0 0 (mA h ad)) D cI h ad 2 σ [(0, .ref h), (1, .int y1)] 30 [] := by
    intro K30 hK30 n
    induction n with
    | zero =>
      intro y1 σ hf H locs ls hl hs
      rw [fX9_undo_l30] at hf
      cases hf
    | succ n ih =>
      intro y1 σ hf H locs ls hl hs
      rw [fX9_undo_l30] at hf
      refine lv_iload_n S.1 S.2.1 dX9_undo_30 rfl (lv_at hl 1 rfl) ?_
      refine lv_sipush S.1 S.2.1 dX9_undo_31 k_sipush_456 ?_
      refine z_icmp_ge (tgt := 64) S hf dX9_undo_34 (by decide) (fun hf => ?_) (fun hf => ?_)
      · exact hK30 _ hf _ _ _ (lv_sub hl [0] rfl) hs
      · refine lv_aload_n S.1 S.2.1 dX9_undo_37 rfl (lv_at hl 0 rfl) ?_
        refine mg7 S K hs dX9_undo_38 ?_
        refine lv_iload_n S.1 S.2.1 dX9_undo_41 rfl (lv_at hl 1 rfl) ?_
        refine lv_aload_n S.1 S.2.1 dX9_undo_42 rfl (lv_at hl 0 rfl) ?_
        refine mg16 S K hs dX9_undo_43 ?_
        refine lv_sipush S.1 S.2.1 dX9_undo_46 k_sipush_456 ?_
        refine lv_aload_n S.1 S.2.1 dX9_undo_49 rfl (lv_at hl 0 rfl) ?_
        refine mg33 S K hs dX9_undo_50 ?_
        refine lv_imul S.1 S.2.1 dX9_undo_53 ?_
        refine lv_iload_n S.1 S.2.1 dX9_undo_54 rfl (lv_at hl 1 rfl) ?_
        refine lv_iadd S.1 S.2.1 dX9_undo_55 ?_
        refine mld2 S K hs hf dX9_undo_56 (fun x3 hf => ?_)
        refine mst0 S K hs hf dX9_undo_57 (fun σ4 H locs hs hf => ?_)
        refine lv_iinc (v := y1 + nI 1) (lv' := [(1, .int (y1 + nI 1)), (0, .ref h)]) S.1 S.2.1 dX9_undo_58 hl (k := 1) rfl (by rw [k_iconst_1]) (by decide) rfl (fun ls hl => ?_)
        refine lv_goto (tgt := 30) S.1 S.2.1 dX9_undo_61 (by decide) ?_
        exact ih _ _ hf _ _ _ (lv_sub hl [1, 0] rfl) hs
  unfold fX9_undo at hf
  refine lv_aload_n S.1 S.2.1 dX9_undo_0 rfl (lv_at hl 0 rfl) ?_
  refine lv_iconst S.1 S.2.1 dX9_undo_1 k_iconst_0 ?_
  refine mp29 S K hs hf dX9_undo_2 (fun σ1 H locs hs hf => ?_)
  refine lv_aload_n S.1 S.2.1 dX9_undo_5 rfl (lv_at hl 0 rfl) ?_
  refine mg33 S K hs dX9_undo_6 ?_
  refine z_if_ne (tgt := 18) S hf dX9_undo_9 (by decide) (fun hf => ?_) (fun hf => ?_)
  · refine lv_aload_n S.1 S.2.1 dX9_undo_18 rfl (lv_at hl 0 rfl) ?_
    refine lv_dup S.1 S.2.1 dX9_undo_19 rfl ?_
    refine mg33 S K hs dX9_undo_20 ?_
    refine lv_iconst S.1 S.2.1 dX9_undo_23 k_iconst_1 ?_
    refine lv_isub S.1 S.2.1 dX9_undo_24 ?_
    refine mp33 S K hs hf dX9_undo_25 (fun σ2 H locs hs hf => ?_)
    refine lv_iconst S.1 S.2.1 dX9_undo_28 k_iconst_0 ?_
    refine lv_istore_n (lv' := [(1, .int (nI 0)), (0, .ref h)]) S.1 S.2.1 dX9_undo_29 rfl hl (by decide) rfl (fun ls hl => ?_)
    refine L30 _ (fun σ5 hf H locs ls hl hs => ?_) _ _ _ hf _ _ _ (lv_sub hl [1, 0] rfl) hs
    refine lv_aload_n S.1 S.2.1 dX9_undo_64 rfl (lv_at hl 0 rfl) ?_
    refine mg33 S K hs dX9_undo_65 ?_
    exact mrI S K hr hk hs (hf.trans (congrArg some hres)) dX9_undo_68
  · refine lv_aload_n S.1 S.2.1 dX9_undo_12 rfl (lv_at hl 0 rfl) ?_
    refine lv_iconst S.1 S.2.1 dX9_undo_13 k_iconst_1 ?_
    refine mcV S K hs hl.1 hf (fun _ _ hX => metX9_fails _ _ _ _ _ _ _ _ _ hX) (cwX9_99 S.2.2.2.2 ⟨Nat.le_of_ble_eq_true rfl, Nat.le_of_ble_eq_true rfl⟩) rfl dX9_undo_14 rfl (Nat.le_of_ble_eq_true rfl) ⟨Nat.le_refl _, Nat.le_refl _⟩ (fun x6 σ7 H locs hs hf => ?_)
    exact mrI S K hr hk hs (hf.trans (congrArg some hres)) dX9_undo_17
theorem metX9_undo (l : Launch) (D : va_G) (cI : ClassId) (h : Nat) (ad : Nat → Nat) (σ : zSt) (r0 : Int32) (σ0 : zSt) (hf : fX9_undo σ = some (r0, σ0)) : Met l yX9_undo (Cond.code yX9_undo cX9_undo 2 (some .int) :: WA) rmX9_undo (mPc D cI h ad σ [.ref h]) ((mQi D cI h ad r0 σ0)) 0 0 (mA h ad) :=
  mMet (by decide) (Nat.le_of_ble_eq_true rfl) (fun p e s m args below meth c H locs ls S K hr hk hl hs => bdX9_undo S K hr hk  _ _ _ hf hl hs)
set_option maxHeartbeats 4000000 in
set_option maxRecDepth 100000 in
theorem bdX9_value {p : Program} {l : Launch} {e : Env} {s : State} {m : MethodId} {args : Array Value} {below : List Frame} {meth : Method} {c : Code} {H : Heap} {locs : List Loc} {ls : Array Slot} {D : va_G} {cI : ClassId} {h : Nat} {ad : Nat → Nat} (S : CallFix p m c cX9_value 2 s args WA RX9) (K : va_K D vwCl [(cI, .int)] s) (hr : meth.sig.returnType = (some .int)) (hk : meth.locks = false) (a0 : Int32) (σ : zSt) (r0 : Int32) (σ0 : zSt) (hf : fX9_value a0 σ = some (r0, σ0)) (hl : lv_has ls 2 [(0, .ref h), (1, .int a0)]) (hs : mS D cI h ad s σ H locs) : W p l e rmX9_value s m args below meth c H locs 0 0 (MQ below (mQi D cI h ad r0 σ0) args s 0 0 (mA h ad)) (F0 m 0 ls []) := by
  unfold fX9_value at hf
  refine lv_aload_n S.1 S.2.1 dX9_value_0 rfl (lv_at hl 0 rfl) ?_
  refine lv_iconst S.1 S.2.1 dX9_value_1 k_iconst_0 ?_
  refine mp29 S K hs hf dX9_value_2 (fun σ1 H locs hs hf => ?_)
  refine lv_iload_n S.1 S.2.1 dX9_value_5 rfl (lv_at hl 1 rfl) ?_
  refine lv_iconst S.1 S.2.1 dX9_value_6 k_iconst_0 ?_
  refine lv_bipush S.1 S.2.1 dX9_value_7 k_bipush_13 ?_
  refine mcT S K hs hl.1 hf (fun _ hX => metX9_in _ _ _ _ _ _ _ _ _ _ hX) (cwX9_36 S.2.2.2.2 ⟨Nat.le_of_ble_eq_true rfl, Nat.le_of_ble_eq_true rfl⟩) rfl dX9_value_9 rfl (Nat.le_of_ble_eq_true rfl) ⟨Nat.le_refl _, Nat.le_refl _⟩ (fun x2 H locs hs hf => ?_)
  refine z_if_eq (tgt := 23) S hf dX9_value_12 (by decide) (fun hf => ?_) (fun hf => ?_)
  · refine lv_aload_n S.1 S.2.1 dX9_value_23 rfl (lv_at hl 0 rfl) ?_
    refine lv_iconst S.1 S.2.1 dX9_value_24 k_iconst_1 ?_
    refine mcV S K hs hl.1 hf (fun _ _ hX => metX9_fails _ _ _ _ _ _ _ _ _ hX) (cwX9_99 S.2.2.2.2 ⟨Nat.le_of_ble_eq_true rfl, Nat.le_of_ble_eq_true rfl⟩) rfl dX9_value_25 rfl (Nat.le_of_ble_eq_true rfl) ⟨Nat.le_refl _, Nat.le_refl _⟩ (fun x3 σ4 H locs hs hf => ?_)
    exact mrI S K hr hk hs hf dX9_value_28
  · refine lv_aload_n S.1 S.2.1 dX9_value_15 rfl (lv_at hl 0 rfl) ?_
    refine lv_iload_n S.1 S.2.1 dX9_value_16 rfl (lv_at hl 1 rfl) ?_
    refine mcP S K hs hl.1 hf (fun _ hX => metX9_number _ _ _ _ _ _ _ _ hX) (cwX9_133 S.2.2.2.2 ⟨Nat.le_of_ble_eq_true rfl, Nat.le_of_ble_eq_true rfl⟩) rfl dX9_value_17 rfl (Nat.le_of_ble_eq_true rfl) ⟨Nat.le_refl _, Nat.le_refl _⟩ (fun x5 H locs hs hf => ?_)
    refine lv_goto (tgt := 28) S.1 S.2.1 dX9_value_20 (by decide) ?_
    exact mrI S K hr hk hs hf dX9_value_28
theorem metX9_value (l : Launch) (D : va_G) (cI : ClassId) (h : Nat) (ad : Nat → Nat) (a0 : Int32) (σ : zSt) (r0 : Int32) (σ0 : zSt) (hf : fX9_value a0 σ = some (r0, σ0)) : Met l yX9_value (Cond.code yX9_value cX9_value 2 (some .int) :: WA) rmX9_value (mPc D cI h ad σ [.ref h, .int a0]) ((mQi D cI h ad r0 σ0)) 0 0 (mA h ad) :=
  mMet (by decide) (Nat.le_of_ble_eq_true rfl) (fun p e s m args below meth c H locs ls S K hr hk hl hs => bdX9_value S K hr hk _ _ _ _ hf hl hs)
set_option maxHeartbeats 4000000 in
set_option maxRecDepth 100000 in
theorem bdX9_write {p : Program} {l : Launch} {e : Env} {s : State} {m : MethodId} {args : Array Value} {below : List Frame} {meth : Method} {c : Code} {H : Heap} {locs : List Loc} {ls : Array Slot} {D : va_G} {cI : ClassId} {h : Nat} {ad : Nat → Nat} (S : CallFix p m c cX9_write 4 s args WA RX9) (K : va_K D vwCl [(cI, .int)] s) (hr : meth.sig.returnType = (some .int)) (hk : meth.locks = false) (a0 : Int32) (a1 : Int32) (a2 : Int32) (σ : zSt) (r0 : Int32) (σ0 : zSt) (hf : fX9_write a0 a1 a2 σ = some (r0, σ0)) (hl : lv_has ls 4 [(0, .ref h), (1, .int a0), (2, .int a1), (3, .int a2)]) (hs : mS D cI h ad s σ H locs) : W p l e rmX9_write s m args below meth c H locs 0 0 (MQ below (mQi D cI h ad r0 σ0) args s 0 0 (mA h ad)) (F0 m 0 ls []) := by
  obtain ⟨res, hres⟩ : ∃ q, q = (r0, σ0) := ⟨_, rfl⟩
  rw [← hres] at hf
  have J20 : ∀ (σ : zSt), fX9_write_j20 σ = some res → mGo p l e rmX9_write s m args below meth c (MQ below (mQi D cI h ad r0 σ0) args s 0 0 (mA h ad)) D cI h ad 4 σ [(0, .ref h)] 20 [] := by
    intro σ hf H locs ls hl hs
    unfold fX9_write_j20 at hf
    refine lv_aload_n S.1 S.2.1 dX9_write_20 rfl (lv_at hl 0 rfl) ?_
    refine lv_iconst S.1 S.2.1 dX9_write_21 k_iconst_1 ?_
    refine mcV S K hs hl.1 hf (fun _ _ hX => metX9_fails _ _ _ _ _ _ _ _ _ hX) (cwX9_99 S.2.2.2.2 ⟨Nat.le_of_ble_eq_true rfl, Nat.le_of_ble_eq_true rfl⟩) rfl dX9_write_22 rfl (Nat.le_of_ble_eq_true rfl) ⟨Nat.le_refl _, Nat.le_refl _⟩ (fun x3 σ4 H locs hs hf => ?_)
    exact mrI S K hr hk hs (hf.trans (congrArg some hres)) dX9_write_25
  unfold fX9_write at hf
  refine lv_aload_n S.1 S.2.1 dX9_write_0 rfl (lv_at hl 0 rfl) ?_
  refine lv_iconst S.1 S.2.1 dX9_write_1 k_iconst_0 ?_
  refine mp29 S K hs hf dX9_write_2 (fun σ1 H locs hs hf => ?_)
  refine lv_aload_n S.1 S.2.1 dX9_write_5 rfl (lv_at hl 0 rfl) ?_
  refine lv_iload_n S.1 S.2.1 dX9_write_6 rfl (lv_at hl 1 rfl) ?_
  refine mcP S K hs hl.1 hf (fun _ hX => metX9_isCache _ _ _ _ _ _ _ _ hX) (cwX9_105 S.2.2.2.2 ⟨Nat.le_of_ble_eq_true rfl, Nat.le_of_ble_eq_true rfl⟩) rfl dX9_write_7 rfl (Nat.le_of_ble_eq_true rfl) ⟨Nat.le_refl _, Nat.le_refl _⟩ (fun x2 H locs hs hf => ?_)
  refine z_if_eq (tgt := 20) S hf dX9_write_10 (by decide) (fun hf => ?_) (fun hf => ?_)
  · exact J20 _ hf _ _ _ (lv_sub hl [0] rfl) hs
  · refine lv_iload_n S.1 S.2.1 dX9_write_13 rfl (lv_at hl 2 rfl) ?_
    refine mcT S K hs hl.1 hf (fun _ hX => metX9_isLine _ _ _ _ _ _ _ _ hX) (cwX9_108 S.2.2.2.2 ⟨Nat.le_of_ble_eq_true rfl, Nat.le_of_ble_eq_true rfl⟩) rfl dX9_write_14 rfl (Nat.le_of_ble_eq_true rfl) ⟨Nat.le_refl _, Nat.le_refl _⟩ (fun x5 H locs hs hf => ?_)
    refine z_if_ne (tgt := 26) S hf dX9_write_17 (by decide) (fun hf => ?_) (fun hf => ?_)
    · refine lv_iload_n S.1 S.2.1 dX9_write_26 rfl (lv_at hl 3 rfl) ?_
      refine lv_iconst S.1 S.2.1 dX9_write_27 k_iconst_0 ?_
      refine lv_sipush S.1 S.2.1 dX9_write_28 k_sipush_999 ?_
      refine mcT S K hs hl.1 hf (fun _ hX => metX9_in _ _ _ _ _ _ _ _ _ _ hX) (cwX9_36 S.2.2.2.2 ⟨Nat.le_of_ble_eq_true rfl, Nat.le_of_ble_eq_true rfl⟩) rfl dX9_write_31 rfl (Nat.le_of_ble_eq_true rfl) ⟨Nat.le_refl _, Nat.le_refl _⟩ (fun x6 H locs hs hf => ?_)
      refine z_if_ne (tgt := 43) S hf dX9_write_34 (by decide) (fun hf => ?_) (fun hf => ?_)
      · refine lv_aload_n S.1 S.2.1 dX9_write_43 rfl (lv_at hl 0 rfl) ?_
        refine lv_iload_n S.1 S.2.1 dX9_write_44 rfl (lv_at hl 1 rfl) ?_
        refine mcP S K hs hl.1 hf (fun _ hX => metX9_isAsking _ _ _ _ _ _ _ _ hX) (cwX9_95 S.2.2.2.2 ⟨Nat.le_of_ble_eq_true rfl, Nat.le_of_ble_eq_true rfl⟩) rfl dX9_write_45 rfl (Nat.le_of_ble_eq_true rfl) ⟨Nat.le_refl _, Nat.le_refl _⟩ (fun x7 H locs hs hf => ?_)
        refine z_if_eq (tgt := 57) S hf dX9_write_48 (by decide) (fun hf => ?_) (fun hf => ?_)
        · refine lv_aload_n S.1 S.2.1 dX9_write_57 rfl (lv_at hl 0 rfl) ?_
          refine mcU S K hs hl.1 hf (fun _ hX => metX9_save _ _ _ _ _ _ _ hX) (cwX9_102 S.2.2.2.2 ⟨Nat.le_of_ble_eq_true rfl, Nat.le_of_ble_eq_true rfl⟩) rfl dX9_write_58 rfl (Nat.le_of_ble_eq_true rfl) ⟨Nat.le_refl _, Nat.le_refl _⟩ (fun σ8 H locs hs hf => ?_)
          refine lv_aload_n S.1 S.2.1 dX9_write_61 rfl (lv_at hl 0 rfl) ?_
          refine lv_iload_n S.1 S.2.1 dX9_write_62 rfl (lv_at hl 1 rfl) ?_
          refine lv_iload_n S.1 S.2.1 dX9_write_63 rfl (lv_at hl 2 rfl) ?_
          refine lv_iload_n S.1 S.2.1 dX9_write_64 rfl (lv_at hl 3 rfl) ?_
          refine mcV S K hs hl.1 hf (fun _ _ hX => metX9_asks _ _ _ _ _ _ _ _ _ _ _ hX) (cwX9_111 S.2.2.2.2 ⟨Nat.le_of_ble_eq_true rfl, Nat.le_of_ble_eq_true rfl⟩) rfl dX9_write_65 rfl (Nat.le_of_ble_eq_true rfl) ⟨Nat.le_refl _, Nat.le_refl _⟩ (fun x9 σ10 H locs hs hf => ?_)
          exact mrI S K hr hk hs (hf.trans (congrArg some hres)) dX9_write_68
        · refine lv_aload_n S.1 S.2.1 dX9_write_51 rfl (lv_at hl 0 rfl) ?_
          refine lv_iconst S.1 S.2.1 dX9_write_52 k_iconst_3 ?_
          refine mcV S K hs hl.1 hf (fun _ _ hX => metX9_fails _ _ _ _ _ _ _ _ _ hX) (cwX9_99 S.2.2.2.2 ⟨Nat.le_of_ble_eq_true rfl, Nat.le_of_ble_eq_true rfl⟩) rfl dX9_write_53 rfl (Nat.le_of_ble_eq_true rfl) ⟨Nat.le_refl _, Nat.le_refl _⟩ (fun x11 σ12 H locs hs hf => ?_)
          exact mrI S K hr hk hs (hf.trans (congrArg some hres)) dX9_write_56
      · refine lv_aload_n S.1 S.2.1 dX9_write_37 rfl (lv_at hl 0 rfl) ?_
        refine lv_iconst S.1 S.2.1 dX9_write_38 k_iconst_2 ?_
        refine mcV S K hs hl.1 hf (fun _ _ hX => metX9_fails _ _ _ _ _ _ _ _ _ hX) (cwX9_99 S.2.2.2.2 ⟨Nat.le_of_ble_eq_true rfl, Nat.le_of_ble_eq_true rfl⟩) rfl dX9_write_39 rfl (Nat.le_of_ble_eq_true rfl) ⟨Nat.le_refl _, Nat.le_refl _⟩ (fun x13 σ14 H locs hs hf => ?_)
        exact mrI S K hr hk hs (hf.trans (congrArg some hres)) dX9_write_42
    · exact J20 _ hf _ _ _ (lv_sub hl [0] rfl) hs
theorem metX9_write (l : Launch) (D : va_G) (cI : ClassId) (h : Nat) (ad : Nat → Nat) (a0 : Int32) (a1 : Int32) (a2 : Int32) (σ : zSt) (r0 : Int32) (σ0 : zSt) (hf : fX9_write a0 a1 a2 σ = some (r0, σ0)) : Met l yX9_write (Cond.code yX9_write cX9_write 4 (some .int) :: WA) rmX9_write (mPc D cI h ad σ [.ref h, .int a0, .int a1, .int a2]) ((mQi D cI h ad r0 σ0)) 0 0 (mA h ad) :=
  mMet (by decide) (Nat.le_of_ble_eq_true rfl) (fun p e s m args below meth c H locs ls S K hr hk hl hs => bdX9_write S K hr hk _ _ _ _ _ _ hf hl hs)
