/-! the reference: contracts (by wip/tools/walk.py) -/
set_option maxHeartbeats 4000000 in
set_option maxRecDepth 100000 in
theorem bdX9_slotAt {p : Program} {l : Launch} {e : Env} {s : State} {m : MethodId} {args : Array Value} {below : List Frame} {meth : Method} {c : Code} {H : Heap} {locs : List Loc} {ls : Array Slot} {D : va_G} {cI : ClassId} {h : Nat} {ad : Nat → Nat} (S : CallFix p m c cX9_slotAt 2 s args WA RX9) (K : va_K D vwCl [(cI, .int)] s) (hr : meth.sig.returnType = (some .int)) (hk : meth.locks = false) (a0 : Int32) (a1 : Int32) (σ : zSt) (r0 : Int32) (hf : fX9_slotAt a0 a1 σ = some r0) (hl : lv_has ls 2 [(0, .int a0), (1, .int a1)]) (hs : mS D cI h ad s σ H locs) : W p l e rmX9_slotAt s m args below meth c H locs 0 0 (MQ below (mQi D cI h ad r0 σ) args s 0 0 (mA h ad)) (F0 m 0 ls []) := by
  unfold fX9_slotAt at hf
  refine lv_bipush S.1 S.2.1 dX9_slotAt_0 k_bipush_110 ?_
  refine lv_iconst S.1 S.2.1 dX9_slotAt_2 k_iconst_4 ?_
  refine lv_bipush S.1 S.2.1 dX9_slotAt_3 k_bipush_8 ?_
  refine lv_iload_n S.1 S.2.1 dX9_slotAt_5 rfl (lv_at hl 0 rfl) ?_
  refine lv_imul S.1 S.2.1 dX9_slotAt_6 ?_
  refine lv_iload_n S.1 S.2.1 dX9_slotAt_7 rfl (lv_at hl 1 rfl) ?_
  refine lv_iadd S.1 S.2.1 dX9_slotAt_8 ?_
  refine lv_imul S.1 S.2.1 dX9_slotAt_9 ?_
  refine lv_iadd S.1 S.2.1 dX9_slotAt_10 ?_
  exact mrP S K hr hk hs hf dX9_slotAt_11
theorem metX9_slotAt (l : Launch) (D : va_G) (cI : ClassId) (h : Nat) (ad : Nat → Nat) (a0 : Int32) (a1 : Int32) (σ : zSt) (r0 : Int32) (hf : fX9_slotAt a0 a1 σ = some r0) : Met l yX9_slotAt (Cond.code yX9_slotAt cX9_slotAt 2 (some .int) :: WA) rmX9_slotAt (mPc D cI h ad σ [.int a0, .int a1]) ((mQi D cI h ad r0 σ)) 0 0 (mA h ad) :=
  mMet (by decide) (Nat.le_of_ble_eq_true rfl) (fun p e s m args below meth c H locs ls S K hr hk hl hs => bdX9_slotAt S K hr hk _ _ _ _ hf hl hs)
set_option maxHeartbeats 4000000 in
set_option maxRecDepth 100000 in
theorem bdX9_copyOf {p : Program} {l : Launch} {e : Env} {s : State} {m : MethodId} {args : Array Value} {below : List Frame} {meth : Method} {c : Code} {H : Heap} {locs : List Loc} {ls : Array Slot} {D : va_G} {cI : ClassId} {h : Nat} {ad : Nat → Nat} (S : CallFix p m c cX9_copyOf 4 s args WA RX9) (K : va_K D vwCl [(cI, .int)] s) (hr : meth.sig.returnType = (some .int)) (hk : meth.locks = false) (a0 : Int32) (a1 : Int32) (σ : zSt) (r0 : Int32) (hf : fX9_copyOf a0 a1 σ = some r0) (hl : lv_has ls 4 [(0, .ref h), (1, .int a0), (2, .int a1)]) (hs : mS D cI h ad s σ H locs) : W p l e rmX9_copyOf s m args below meth c H locs 0 0 (MQ below (mQi D cI h ad r0 σ) args s 0 0 (mA h ad)) (F0 m 0 ls []) := by
  obtain ⟨res, hres⟩ : ∃ q, q = r0 := ⟨_, rfl⟩
  rw [← hres] at hf
  have L2 : ∀ (K2 : Option (Int32)) (hK2 : K2  = some res → mGo p l e rmX9_copyOf s m args below meth c (MQ below (mQi D cI h ad r0 σ) args s 0 0 (mA h ad)) D cI h ad 4 σ [(0, .ref h)] 38 []) (n : Nat) (y1 : Int32) (y2 : Int32) (y3 : Int32), fX9_copyOf_l2 σ K2 n y1 y2 y3 = some res → mGo p l e rmX9_copyOf s m args below meth c (MQ below (mQi D cI h ad r0 σ) args s 0 0 (mA h ad)) D cI h ad 4 σ [(0, .ref h), (1, .int y1), (2, .int y2), (3, .int y3)] 2 [] := by
    intro K2 hK2 n
    induction n with
    | zero =>
      intro y1 y2 y3 hf H locs ls hl hs
      rw [fX9_copyOf_l2] at hf
      cases hf
    | succ n ih =>
      intro y1 y2 y3 hf H locs ls hl hs
      rw [fX9_copyOf_l2] at hf
      refine lv_iload_n S.1 S.2.1 dX9_copyOf_2 rfl (lv_at hl 3 rfl) ?_
      refine lv_aload_n S.1 S.2.1 dX9_copyOf_3 rfl (lv_at hl 0 rfl) ?_
      refine mg7 S K hs dX9_copyOf_4 ?_
      refine lv_iconst S.1 S.2.1 dX9_copyOf_7 k_iconst_1 ?_
      refine mld0 S K hs hf dX9_copyOf_8 (fun x1 hf => ?_)
      refine z_icmp_ge (tgt := 38) S hf dX9_copyOf_9 (by decide) (fun hf => ?_) (fun hf => ?_)
      · exact hK2  hf _ _ _ (lv_sub hl [0] rfl) hs
      · refine lv_aload_n S.1 S.2.1 dX9_copyOf_12 rfl (lv_at hl 0 rfl) ?_
        refine mg7 S K hs dX9_copyOf_13 ?_
        refine lv_iload_n S.1 S.2.1 dX9_copyOf_16 rfl (lv_at hl 1 rfl) ?_
        refine lv_iload_n S.1 S.2.1 dX9_copyOf_17 rfl (lv_at hl 3 rfl) ?_
        refine mcT S K hs hl.1 hf (fun _ hX => metX9_slotAt _ _ _ _ _ _ _ _ _ hX) (cwX9_40 S.2.2.2.2 ⟨Nat.le_of_ble_eq_true rfl, Nat.le_of_ble_eq_true rfl⟩) rfl dX9_copyOf_18 rfl (Nat.le_of_ble_eq_true rfl) ⟨Nat.le_refl _, Nat.le_refl _⟩ (fun x2 H locs hs hf => ?_)
        refine mld0 S K hs hf dX9_copyOf_21 (fun x3 hf => ?_)
        refine lv_iload_n S.1 S.2.1 dX9_copyOf_22 rfl (lv_at hl 2 rfl) ?_
        refine z_icmp_ne (tgt := 32) S hf dX9_copyOf_23 (by decide) (fun hf => ?_) (fun hf => ?_)
        · refine lv_iinc (v := y3 + nI 1) (lv' := [(3, .int (y3 + nI 1)), (0, .ref h), (1, .int y1), (2, .int y2)]) S.1 S.2.1 dX9_copyOf_32 hl (k := 3) rfl (by rw [k_iconst_1]) (by decide) rfl (fun ls hl => ?_)
          refine lv_goto (tgt := 2) S.1 S.2.1 dX9_copyOf_35 (by decide) ?_
          exact ih _ _ _ hf _ _ _ (lv_sub hl [1, 2, 3, 0] rfl) hs
        · refine lv_iload_n S.1 S.2.1 dX9_copyOf_26 rfl (lv_at hl 1 rfl) ?_
          refine lv_iload_n S.1 S.2.1 dX9_copyOf_27 rfl (lv_at hl 3 rfl) ?_
          refine mcT S K hs hl.1 hf (fun _ hX => metX9_slotAt _ _ _ _ _ _ _ _ _ hX) (cwX9_40 S.2.2.2.2 ⟨Nat.le_of_ble_eq_true rfl, Nat.le_of_ble_eq_true rfl⟩) rfl dX9_copyOf_28 rfl (Nat.le_of_ble_eq_true rfl) ⟨Nat.le_refl _, Nat.le_refl _⟩ (fun x4 H locs hs hf => ?_)
          exact mrP S K hr hk hs (hf.trans (congrArg some hres)) dX9_copyOf_31
  unfold fX9_copyOf at hf
  refine lv_iconst S.1 S.2.1 dX9_copyOf_0 k_iconst_0 ?_
  refine lv_istore_n (lv' := [(3, .int (nI 0)), (0, .ref h), (1, .int a0), (2, .int a1)]) S.1 S.2.1 dX9_copyOf_1 rfl hl (by decide) rfl (fun ls hl => ?_)
  refine L2 _ (fun  hf H locs ls hl hs => ?_) _ _ _ _ hf _ _ _ (lv_sub hl [1, 2, 3, 0] rfl) hs
  refine lv_iconst S.1 S.2.1 dX9_copyOf_38 k_iconst_m1 ?_
  exact mrP S K hr hk hs (hf.trans (congrArg some hres)) dX9_copyOf_39
theorem metX9_copyOf (l : Launch) (D : va_G) (cI : ClassId) (h : Nat) (ad : Nat → Nat) (a0 : Int32) (a1 : Int32) (σ : zSt) (r0 : Int32) (hf : fX9_copyOf a0 a1 σ = some r0) : Met l yX9_copyOf (Cond.code yX9_copyOf cX9_copyOf 4 (some .int) :: WA) rmX9_copyOf (mPc D cI h ad σ [.ref h, .int a0, .int a1]) ((mQi D cI h ad r0 σ)) 0 0 (mA h ad) :=
  mMet (by decide) (Nat.le_of_ble_eq_true rfl) (fun p e s m args below meth c H locs ls S K hr hk hl hs => bdX9_copyOf S K hr hk _ _ _ _ hf hl hs)
set_option maxHeartbeats 4000000 in
set_option maxRecDepth 100000 in
theorem bdX9_aboutCopy {p : Program} {l : Launch} {e : Env} {s : State} {m : MethodId} {args : Array Value} {below : List Frame} {meth : Method} {c : Code} {H : Heap} {locs : List Loc} {ls : Array Slot} {D : va_G} {cI : ClassId} {h : Nat} {ad : Nat → Nat} (S : CallFix p m c cX9_aboutCopy 7 s args WA RX9) (K : va_K D vwCl [(cI, .int)] s) (hr : meth.sig.returnType = (some .int)) (hk : meth.locks = false) (a0 : Int32) (a1 : Int32) (a2 : Int32) (σ : zSt) (r0 : Int32) (hf : fX9_aboutCopy a0 a1 a2 σ = some r0) (hl : lv_has ls 7 [(0, .ref h), (1, .int a0), (2, .int a1), (3, .int a2)]) (hs : mS D cI h ad s σ H locs) : W p l e rmX9_aboutCopy s m args below meth c H locs 0 0 (MQ below (mQi D cI h ad r0 σ) args s 0 0 (mA h ad)) (F0 m 0 ls []) := by
  obtain ⟨res, hres⟩ : ∃ q, q = r0 := ⟨_, rfl⟩
  rw [← hres] at hf
  have J102 : ∀ (C45 : Int32 → Int32 → Int32 → Int32 → Int32 → Option (Int32)) (hC45 : ∀ (y1 : Int32) (y3 : Int32) (y4 : Int32) (y5 : Int32) (y6 : Int32), C45 y1 y3 y4 y5 y6 = some res → mGo p l e rmX9_aboutCopy s m args below meth c (MQ below (mQi D cI h ad r0 σ) args s 0 0 (mA h ad)) D cI h ad 7 σ [(0, .ref h), (1, .int y1), (3, .int y3), (4, .int y4), (5, .int y5), (6, .int y6)] 45 []) (y1 : Int32) (y3 : Int32) (y4 : Int32) (y6 : Int32) (w0 : Int32) (w1 : Int32), fX9_aboutCopy_j102 σ C45 y1 y3 y4 y6 w0 w1 = some res → mGo p l e rmX9_aboutCopy s m args below meth c (MQ below (mQi D cI h ad r0 σ) args s 0 0 (mA h ad)) D cI h ad 7 σ [(0, .ref h), (1, .int y1), (3, .int y3), (4, .int y4), (6, .int y6)] 102 [.int w0, .int w1] := by
    intro C45 hC45 y1 y3 y4 y6 w0 w1 hf H locs ls hl hs
    unfold fX9_aboutCopy_j102 at hf
    refine lv_iadd S.1 S.2.1 dX9_aboutCopy_102 ?_
    refine lv_istore (lv' := [(5, .int (w1 + w0)), (0, .ref h), (1, .int y1), (3, .int y3), (4, .int y4), (6, .int y6)]) S.1 S.2.1 dX9_aboutCopy_103 hl (by decide) rfl (fun ls hl => ?_)
    refine lv_iinc (v := y6 + nI 1) (lv' := [(6, .int (y6 + nI 1)), (5, .int (w1 + w0)), (0, .ref h), (1, .int y1), (3, .int y3), (4, .int y4)]) S.1 S.2.1 dX9_aboutCopy_105 hl (k := 5) rfl (by rw [k_iconst_1]) (by decide) rfl (fun ls hl => ?_)
    refine lv_goto (tgt := 45) S.1 S.2.1 dX9_aboutCopy_108 (by decide) ?_
    exact hC45 _ _ _ _ _ hf _ _ _ (lv_sub hl [2, 3, 4, 5, 1, 0] rfl) hs
  have J101 : ∀ (C45 : Int32 → Int32 → Int32 → Int32 → Int32 → Option (Int32)) (hC45 : ∀ (y1 : Int32) (y3 : Int32) (y4 : Int32) (y5 : Int32) (y6 : Int32), C45 y1 y3 y4 y5 y6 = some res → mGo p l e rmX9_aboutCopy s m args below meth c (MQ below (mQi D cI h ad r0 σ) args s 0 0 (mA h ad)) D cI h ad 7 σ [(0, .ref h), (1, .int y1), (3, .int y3), (4, .int y4), (5, .int y5), (6, .int y6)] 45 []) (y1 : Int32) (y3 : Int32) (y4 : Int32) (y6 : Int32) (w0 : Int32), fX9_aboutCopy_j101 σ C45 y1 y3 y4 y6 w0 = some res → mGo p l e rmX9_aboutCopy s m args below meth c (MQ below (mQi D cI h ad r0 σ) args s 0 0 (mA h ad)) D cI h ad 7 σ [(0, .ref h), (1, .int y1), (3, .int y3), (4, .int y4), (6, .int y6)] 101 [.int w0] := by
    intro C45 hC45 y1 y3 y4 y6 w0 hf H locs ls hl hs
    unfold fX9_aboutCopy_j101 at hf
    refine lv_iconst S.1 S.2.1 dX9_aboutCopy_101 k_iconst_0 ?_
    exact J102 _ hC45 _ _ _ _ _ _ hf _ _ _ (lv_sub hl [0, 1, 2, 3, 4] rfl) hs
  have L45 : ∀ (K45 : Int32 → Int32 → Int32 → Option (Int32)) (hK45 : ∀ (y3 : Int32) (y4 : Int32) (y5 : Int32), K45 y3 y4 y5 = some res → mGo p l e rmX9_aboutCopy s m args below meth c (MQ below (mQi D cI h ad r0 σ) args s 0 0 (mA h ad)) D cI h ad 7 σ [(0, .ref h), (3, .int y3), (4, .int y4), (5, .int y5)] 111 []) (n : Nat) (y1 : Int32) (y3 : Int32) (y4 : Int32) (y5 : Int32) (y6 : Int32), fX9_aboutCopy_l45 σ K45 n y1 y3 y4 y5 y6 = some res → mGo p l e rmX9_aboutCopy s m args below meth c (MQ below (mQi D cI h ad r0 σ) args s 0 0 (mA h ad)) D cI h ad 7 σ [(0, .ref h), (1, .int y1), (3, .int y3), (4, .int y4), (5, .int y5), (6, .int y6)] 45 [] := by
    intro K45 hK45 n
    induction n with
    | zero =>
      intro y1 y3 y4 y5 y6 hf H locs ls hl hs
      rw [fX9_aboutCopy_l45] at hf
      cases hf
    | succ n ih =>
      intro y1 y3 y4 y5 y6 hf H locs ls hl hs
      rw [fX9_aboutCopy_l45] at hf
      refine lv_iload S.1 S.2.1 dX9_aboutCopy_45 (lv_at hl 5 rfl) ?_
      refine lv_aload_n S.1 S.2.1 dX9_aboutCopy_47 rfl (lv_at hl 0 rfl) ?_
      refine mg7 S K hs dX9_aboutCopy_48 ?_
      refine lv_iconst S.1 S.2.1 dX9_aboutCopy_51 k_iconst_1 ?_
      refine mld0 S K hs hf dX9_aboutCopy_52 (fun x2 hf => ?_)
      refine z_icmp_ge (tgt := 111) S hf dX9_aboutCopy_53 (by decide) (fun hf => ?_) (fun hf => ?_)
      · exact hK45 _ _ _ hf _ _ _ (lv_sub hl [0, 2, 3, 4] rfl) hs
      · refine lv_iload S.1 S.2.1 dX9_aboutCopy_56 (lv_at hl 4 rfl) ?_
        refine lv_aload_n S.1 S.2.1 dX9_aboutCopy_58 rfl (lv_at hl 0 rfl) ?_
        refine mg7 S K hs dX9_aboutCopy_59 ?_
        refine lv_iload_n S.1 S.2.1 dX9_aboutCopy_62 rfl (lv_at hl 1 rfl) ?_
        refine lv_iload S.1 S.2.1 dX9_aboutCopy_63 (lv_at hl 5 rfl) ?_
        refine mcT S K hs hl.1 hf (fun _ hX => metX9_slotAt _ _ _ _ _ _ _ _ _ hX) (cwX9_40 S.2.2.2.2 ⟨Nat.le_of_ble_eq_true rfl, Nat.le_of_ble_eq_true rfl⟩) rfl dX9_aboutCopy_65 rfl (Nat.le_of_ble_eq_true rfl) ⟨Nat.le_refl _, Nat.le_refl _⟩ (fun x3 H locs hs hf => ?_)
        refine mld0 S K hs hf dX9_aboutCopy_68 (fun x4 hf => ?_)
        refine z_if_lt (tgt := 101) S hf dX9_aboutCopy_69 (by decide) (fun hf => ?_) (fun hf => ?_)
        · exact J101 _ ih _ _ _ _ _ hf _ _ _ (lv_sub hl [0, 1, 2, 3, 5] rfl) hs
        · refine lv_aload_n S.1 S.2.1 dX9_aboutCopy_72 rfl (lv_at hl 0 rfl) ?_
          refine mg7 S K hs dX9_aboutCopy_73 ?_
          refine lv_iload_n S.1 S.2.1 dX9_aboutCopy_76 rfl (lv_at hl 1 rfl) ?_
          refine lv_iload S.1 S.2.1 dX9_aboutCopy_77 (lv_at hl 5 rfl) ?_
          refine mcT S K hs hl.1 hf (fun _ hX => metX9_slotAt _ _ _ _ _ _ _ _ _ hX) (cwX9_40 S.2.2.2.2 ⟨Nat.le_of_ble_eq_true rfl, Nat.le_of_ble_eq_true rfl⟩) rfl dX9_aboutCopy_79 rfl (Nat.le_of_ble_eq_true rfl) ⟨Nat.le_refl _, Nat.le_refl _⟩ (fun x5 H locs hs hf => ?_)
          refine lv_iconst S.1 S.2.1 dX9_aboutCopy_82 k_iconst_3 ?_
          refine lv_iadd S.1 S.2.1 dX9_aboutCopy_83 ?_
          refine mld0 S K hs hf dX9_aboutCopy_84 (fun x6 hf => ?_)
          refine lv_aload_n S.1 S.2.1 dX9_aboutCopy_85 rfl (lv_at hl 0 rfl) ?_
          refine mg7 S K hs dX9_aboutCopy_86 ?_
          refine lv_iload S.1 S.2.1 dX9_aboutCopy_89 (lv_at hl 3 rfl) ?_
          refine lv_iconst S.1 S.2.1 dX9_aboutCopy_91 k_iconst_3 ?_
          refine lv_iadd S.1 S.2.1 dX9_aboutCopy_92 ?_
          refine mld0 S K hs hf dX9_aboutCopy_93 (fun x7 hf => ?_)
          refine z_icmp_le (tgt := 101) S hf dX9_aboutCopy_94 (by decide) (fun hf => ?_) (fun hf => ?_)
          · exact J101 _ ih _ _ _ _ _ hf _ _ _ (lv_sub hl [0, 1, 2, 3, 5] rfl) hs
          · refine lv_iconst S.1 S.2.1 dX9_aboutCopy_97 k_iconst_1 ?_
            refine lv_goto (tgt := 102) S.1 S.2.1 dX9_aboutCopy_98 (by decide) ?_
            exact J102 _ ih _ _ _ _ _ _ hf _ _ _ (lv_sub hl [0, 1, 2, 3, 5] rfl) hs
  unfold fX9_aboutCopy at hf
  refine lv_aload_n S.1 S.2.1 dX9_aboutCopy_0 rfl (lv_at hl 0 rfl) ?_
  refine lv_iload_n S.1 S.2.1 dX9_aboutCopy_1 rfl (lv_at hl 1 rfl) ?_
  refine lv_iload_n S.1 S.2.1 dX9_aboutCopy_2 rfl (lv_at hl 2 rfl) ?_
  refine mcP S K hs hl.1 hf (fun _ hX => metX9_copyOf _ _ _ _ _ _ _ _ _ hX) (cwX9_52 S.2.2.2.2 ⟨Nat.le_of_ble_eq_true rfl, Nat.le_of_ble_eq_true rfl⟩) rfl dX9_aboutCopy_3 rfl (Nat.le_of_ble_eq_true rfl) ⟨Nat.le_refl _, Nat.le_refl _⟩ (fun x1 H locs hs hf => ?_)
  refine lv_istore (lv' := [(4, .int x1), (0, .ref h), (1, .int a0), (2, .int a1), (3, .int a2)]) S.1 S.2.1 dX9_aboutCopy_6 hl (by decide) rfl (fun ls hl => ?_)
  refine lv_iload S.1 S.2.1 dX9_aboutCopy_8 (lv_at hl 0 rfl) ?_
  refine z_if_ge (tgt := 23) S hf dX9_aboutCopy_10 (by decide) (fun hf => ?_) (fun hf => ?_)
  · refine lv_iload_n S.1 S.2.1 dX9_aboutCopy_23 rfl (lv_at hl 4 rfl) ?_
    refine lv_iconst S.1 S.2.1 dX9_aboutCopy_24 k_iconst_2 ?_
    refine z_icmp_ne (tgt := 39) S hf dX9_aboutCopy_25 (by decide) (fun hf => ?_) (fun hf => ?_)
    · refine lv_iconst S.1 S.2.1 dX9_aboutCopy_39 k_iconst_0 ?_
      refine lv_istore (lv' := [(5, .int (nI 0)), (4, .int x1), (0, .ref h), (1, .int a0), (2, .int a1), (3, .int a2)]) S.1 S.2.1 dX9_aboutCopy_40 hl (by decide) rfl (fun ls hl => ?_)
      refine lv_iconst S.1 S.2.1 dX9_aboutCopy_42 k_iconst_0 ?_
      refine lv_istore (lv' := [(6, .int (nI 0)), (5, .int (nI 0)), (4, .int x1), (0, .ref h), (1, .int a0), (2, .int a1), (3, .int a2)]) S.1 S.2.1 dX9_aboutCopy_43 hl (by decide) rfl (fun ls hl => ?_)
      refine L45 _ (fun x8 x9 x10 hf H locs ls hl hs => ?_) _ _ _ _ _ _ hf _ _ _ (lv_sub hl [3, 4, 6, 2, 1, 0] rfl) hs
      refine lv_iload_n S.1 S.2.1 dX9_aboutCopy_111 rfl (lv_at hl 1 rfl) ?_
      refine z_if_ne (tgt := 127) S hf dX9_aboutCopy_112 (by decide) (fun hf => ?_) (fun hf => ?_)
      · refine lv_iload_n S.1 S.2.1 dX9_aboutCopy_127 rfl (lv_at hl 1 rfl) ?_
        refine lv_iconst S.1 S.2.1 dX9_aboutCopy_128 k_iconst_1 ?_
        refine z_icmp_ne (tgt := 144) S hf dX9_aboutCopy_129 (by decide) (fun hf => ?_) (fun hf => ?_)
        · refine lv_iload S.1 S.2.1 dX9_aboutCopy_144 (lv_at hl 3 rfl) ?_
          exact mrP S K hr hk hs (hf.trans (congrArg some hres)) dX9_aboutCopy_146
        · refine lv_aload_n S.1 S.2.1 dX9_aboutCopy_132 rfl (lv_at hl 0 rfl) ?_
          refine mg7 S K hs dX9_aboutCopy_133 ?_
          refine lv_iload S.1 S.2.1 dX9_aboutCopy_136 (lv_at hl 2 rfl) ?_
          refine lv_iconst S.1 S.2.1 dX9_aboutCopy_138 k_iconst_2 ?_
          refine lv_iadd S.1 S.2.1 dX9_aboutCopy_139 ?_
          refine mld0 S K hs hf dX9_aboutCopy_140 (fun x11 hf => ?_)
          refine lv_goto (tgt := 146) S.1 S.2.1 dX9_aboutCopy_141 (by decide) ?_
          exact mrP S K hr hk hs (hf.trans (congrArg some hres)) dX9_aboutCopy_146
      · refine lv_aload_n S.1 S.2.1 dX9_aboutCopy_115 rfl (lv_at hl 0 rfl) ?_
        refine mg7 S K hs dX9_aboutCopy_116 ?_
        refine lv_iload S.1 S.2.1 dX9_aboutCopy_119 (lv_at hl 2 rfl) ?_
        refine lv_iconst S.1 S.2.1 dX9_aboutCopy_121 k_iconst_1 ?_
        refine lv_iadd S.1 S.2.1 dX9_aboutCopy_122 ?_
        refine mld0 S K hs hf dX9_aboutCopy_123 (fun x12 hf => ?_)
        refine lv_goto (tgt := 146) S.1 S.2.1 dX9_aboutCopy_124 (by decide) ?_
        exact mrP S K hr hk hs (hf.trans (congrArg some hres)) dX9_aboutCopy_146
    · refine lv_iload S.1 S.2.1 dX9_aboutCopy_28 (lv_at hl 0 rfl) ?_
      refine lv_iload_n S.1 S.2.1 dX9_aboutCopy_30 rfl (lv_at hl 2 rfl) ?_
      refine lv_iconst S.1 S.2.1 dX9_aboutCopy_31 k_iconst_0 ?_
      refine mcT S K hs hl.1 hf (fun _ hX => metX9_slotAt _ _ _ _ _ _ _ _ _ hX) (cwX9_40 S.2.2.2.2 ⟨Nat.le_of_ble_eq_true rfl, Nat.le_of_ble_eq_true rfl⟩) rfl dX9_aboutCopy_32 rfl (Nat.le_of_ble_eq_true rfl) ⟨Nat.le_refl _, Nat.le_refl _⟩ (fun x13 H locs hs hf => ?_)
      refine lv_isub S.1 S.2.1 dX9_aboutCopy_35 ?_
      refine lv_iconst S.1 S.2.1 dX9_aboutCopy_36 k_iconst_4 ?_
      refine z_idiv S hf dX9_aboutCopy_37 (fun x14 hf => ?_)
      exact mrP S K hr hk hs (hf.trans (congrArg some hres)) dX9_aboutCopy_38
  · refine lv_iload_n S.1 S.2.1 dX9_aboutCopy_13 rfl (lv_at hl 4 rfl) ?_
    refine z_if_ne (tgt := 21) S hf dX9_aboutCopy_14 (by decide) (fun hf => ?_) (fun hf => ?_)
    · refine lv_iconst S.1 S.2.1 dX9_aboutCopy_21 k_iconst_m1 ?_
      exact mrP S K hr hk hs (hf.trans (congrArg some hres)) dX9_aboutCopy_22
    · refine lv_iconst S.1 S.2.1 dX9_aboutCopy_17 k_iconst_0 ?_
      refine lv_goto (tgt := 22) S.1 S.2.1 dX9_aboutCopy_18 (by decide) ?_
      exact mrP S K hr hk hs (hf.trans (congrArg some hres)) dX9_aboutCopy_22
theorem metX9_aboutCopy (l : Launch) (D : va_G) (cI : ClassId) (h : Nat) (ad : Nat → Nat) (a0 : Int32) (a1 : Int32) (a2 : Int32) (σ : zSt) (r0 : Int32) (hf : fX9_aboutCopy a0 a1 a2 σ = some r0) : Met l yX9_aboutCopy (Cond.code yX9_aboutCopy cX9_aboutCopy 7 (some .int) :: WA) rmX9_aboutCopy (mPc D cI h ad σ [.ref h, .int a0, .int a1, .int a2]) ((mQi D cI h ad r0 σ)) 0 0 (mA h ad) :=
  mMet (by decide) (Nat.le_of_ble_eq_true rfl) (fun p e s m args below meth c H locs ls S K hr hk hl hs => bdX9_aboutCopy S K hr hk _ _ _ _ _ hf hl hs)
set_option maxHeartbeats 4000000 in
set_option maxRecDepth 100000 in
theorem bdX9_pageOf {p : Program} {l : Launch} {e : Env} {s : State} {m : MethodId} {args : Array Value} {below : List Frame} {meth : Method} {c : Code} {H : Heap} {locs : List Loc} {ls : Array Slot} {D : va_G} {cI : ClassId} {h : Nat} {ad : Nat → Nat} (S : CallFix p m c cX9_pageOf 3 s args WA RX9) (K : va_K D vwCl [(cI, .int)] s) (hr : meth.sig.returnType = (some .int)) (hk : meth.locks = false) (a0 : Int32) (σ : zSt) (r0 : Int32) (hf : fX9_pageOf a0 σ = some r0) (hl : lv_has ls 3 [(0, .ref h), (1, .int a0)]) (hs : mS D cI h ad s σ H locs) : W p l e rmX9_pageOf s m args below meth c H locs 0 0 (MQ below (mQi D cI h ad r0 σ) args s 0 0 (mA h ad)) (F0 m 0 ls []) := by
  obtain ⟨res, hres⟩ : ∃ q, q = r0 := ⟨_, rfl⟩
  rw [← hres] at hf
  have L2 : ∀ (K2 : Option (Int32)) (hK2 : K2  = some res → mGo p l e rmX9_pageOf s m args below meth c (MQ below (mQi D cI h ad r0 σ) args s 0 0 (mA h ad)) D cI h ad 3 σ [(0, .ref h)] 42 []) (n : Nat) (y1 : Int32) (y2 : Int32), fX9_pageOf_l2 σ K2 n y1 y2 = some res → mGo p l e rmX9_pageOf s m args below meth c (MQ below (mQi D cI h ad r0 σ) args s 0 0 (mA h ad)) D cI h ad 3 σ [(0, .ref h), (1, .int y1), (2, .int y2)] 2 [] := by
    intro K2 hK2 n
    induction n with
    | zero =>
      intro y1 y2 hf H locs ls hl hs
      rw [fX9_pageOf_l2] at hf
      cases hf
    | succ n ih =>
      intro y1 y2 hf H locs ls hl hs
      rw [fX9_pageOf_l2] at hf
      refine lv_iload_n S.1 S.2.1 dX9_pageOf_2 rfl (lv_at hl 2 rfl) ?_
      refine lv_aload_n S.1 S.2.1 dX9_pageOf_3 rfl (lv_at hl 0 rfl) ?_
      refine mg7 S K hs dX9_pageOf_4 ?_
      refine lv_iconst S.1 S.2.1 dX9_pageOf_7 k_iconst_3 ?_
      refine mld0 S K hs hf dX9_pageOf_8 (fun x1 hf => ?_)
      refine z_icmp_ge (tgt := 42) S hf dX9_pageOf_9 (by decide) (fun hf => ?_) (fun hf => ?_)
      · exact hK2  hf _ _ _ (lv_sub hl [0] rfl) hs
      · refine lv_aload_n S.1 S.2.1 dX9_pageOf_12 rfl (lv_at hl 0 rfl) ?_
        refine mg7 S K hs dX9_pageOf_13 ?_
        refine lv_sipush S.1 S.2.1 dX9_pageOf_16 k_sipush_302 ?_
        refine lv_iconst S.1 S.2.1 dX9_pageOf_19 k_iconst_4 ?_
        refine lv_iload_n S.1 S.2.1 dX9_pageOf_20 rfl (lv_at hl 2 rfl) ?_
        refine lv_imul S.1 S.2.1 dX9_pageOf_21 ?_
        refine lv_iadd S.1 S.2.1 dX9_pageOf_22 ?_
        refine mld0 S K hs hf dX9_pageOf_23 (fun x2 hf => ?_)
        refine lv_iload_n S.1 S.2.1 dX9_pageOf_24 rfl (lv_at hl 1 rfl) ?_
        refine z_icmp_ne (tgt := 36) S hf dX9_pageOf_25 (by decide) (fun hf => ?_) (fun hf => ?_)
        · refine lv_iinc (v := y2 + nI 1) (lv' := [(2, .int (y2 + nI 1)), (0, .ref h), (1, .int y1)]) S.1 S.2.1 dX9_pageOf_36 hl (k := 2) rfl (by rw [k_iconst_1]) (by decide) rfl (fun ls hl => ?_)
          refine lv_goto (tgt := 2) S.1 S.2.1 dX9_pageOf_39 (by decide) ?_
          exact ih _ _ hf _ _ _ (lv_sub hl [1, 2, 0] rfl) hs
        · refine lv_sipush S.1 S.2.1 dX9_pageOf_28 k_sipush_302 ?_
          refine lv_iconst S.1 S.2.1 dX9_pageOf_31 k_iconst_4 ?_
          refine lv_iload_n S.1 S.2.1 dX9_pageOf_32 rfl (lv_at hl 2 rfl) ?_
          refine lv_imul S.1 S.2.1 dX9_pageOf_33 ?_
          refine lv_iadd S.1 S.2.1 dX9_pageOf_34 ?_
          exact mrP S K hr hk hs (hf.trans (congrArg some hres)) dX9_pageOf_35
  unfold fX9_pageOf at hf
  refine lv_iconst S.1 S.2.1 dX9_pageOf_0 k_iconst_0 ?_
  refine lv_istore_n (lv' := [(2, .int (nI 0)), (0, .ref h), (1, .int a0)]) S.1 S.2.1 dX9_pageOf_1 rfl hl (by decide) rfl (fun ls hl => ?_)
  refine L2 _ (fun  hf H locs ls hl hs => ?_) _ _ _ hf _ _ _ (lv_sub hl [1, 2, 0] rfl) hs
  refine lv_iconst S.1 S.2.1 dX9_pageOf_42 k_iconst_m1 ?_
  exact mrP S K hr hk hs (hf.trans (congrArg some hres)) dX9_pageOf_43
theorem metX9_pageOf (l : Launch) (D : va_G) (cI : ClassId) (h : Nat) (ad : Nat → Nat) (a0 : Int32) (σ : zSt) (r0 : Int32) (hf : fX9_pageOf a0 σ = some r0) : Met l yX9_pageOf (Cond.code yX9_pageOf cX9_pageOf 3 (some .int) :: WA) rmX9_pageOf (mPc D cI h ad σ [.ref h, .int a0]) ((mQi D cI h ad r0 σ)) 0 0 (mA h ad) :=
  mMet (by decide) (Nat.le_of_ble_eq_true rfl) (fun p e s m args below meth c H locs ls S K hr hk hl hs => bdX9_pageOf S K hr hk _ _ _ hf hl hs)
set_option maxHeartbeats 4000000 in
set_option maxRecDepth 100000 in
theorem bdX9_ownerOf {p : Program} {l : Launch} {e : Env} {s : State} {m : MethodId} {args : Array Value} {below : List Frame} {meth : Method} {c : Code} {H : Heap} {locs : List Loc} {ls : Array Slot} {D : va_G} {cI : ClassId} {h : Nat} {ad : Nat → Nat} (S : CallFix p m c cX9_ownerOf 4 s args WA RX9) (K : va_K D vwCl [(cI, .int)] s) (hr : meth.sig.returnType = (some .int)) (hk : meth.locks = false) (a0 : Int32) (σ : zSt) (r0 : Int32) (hf : fX9_ownerOf a0 σ = some r0) (hl : lv_has ls 4 [(0, .ref h), (1, .int a0)]) (hs : mS D cI h ad s σ H locs) : W p l e rmX9_ownerOf s m args below meth c H locs 0 0 (MQ below (mQi D cI h ad r0 σ) args s 0 0 (mA h ad)) (F0 m 0 ls []) := by
  obtain ⟨res, hres⟩ : ∃ q, q = r0 := ⟨_, rfl⟩
  rw [← hres] at hf
  have L2 : ∀ (K2 : Option (Int32)) (hK2 : K2  = some res → mGo p l e rmX9_ownerOf s m args below meth c (MQ below (mQi D cI h ad r0 σ) args s 0 0 (mA h ad)) D cI h ad 4 σ [(0, .ref h)] 43 []) (n : Nat) (y1 : Int32) (y2 : Int32), fX9_ownerOf_l2 σ K2 n y1 y2 = some res → mGo p l e rmX9_ownerOf s m args below meth c (MQ below (mQi D cI h ad r0 σ) args s 0 0 (mA h ad)) D cI h ad 4 σ [(0, .ref h), (1, .int y1), (2, .int y2)] 2 [] := by
    intro K2 hK2 n
    induction n with
    | zero =>
      intro y1 y2 hf H locs ls hl hs
      rw [fX9_ownerOf_l2] at hf
      cases hf
    | succ n ih =>
      intro y1 y2 hf H locs ls hl hs
      rw [fX9_ownerOf_l2] at hf
      refine lv_iload_n S.1 S.2.1 dX9_ownerOf_2 rfl (lv_at hl 2 rfl) ?_
      refine lv_aload_n S.1 S.2.1 dX9_ownerOf_3 rfl (lv_at hl 0 rfl) ?_
      refine mg7 S K hs dX9_ownerOf_4 ?_
      refine lv_iconst S.1 S.2.1 dX9_ownerOf_7 k_iconst_0 ?_
      refine mld0 S K hs hf dX9_ownerOf_8 (fun x1 hf => ?_)
      refine z_icmp_ge (tgt := 43) S hf dX9_ownerOf_9 (by decide) (fun hf => ?_) (fun hf => ?_)
      · exact hK2  hf _ _ _ (lv_sub hl [0] rfl) hs
      · refine lv_aload_n S.1 S.2.1 dX9_ownerOf_12 rfl (lv_at hl 0 rfl) ?_
        refine lv_iload_n S.1 S.2.1 dX9_ownerOf_13 rfl (lv_at hl 2 rfl) ?_
        refine lv_iload_n S.1 S.2.1 dX9_ownerOf_14 rfl (lv_at hl 1 rfl) ?_
        refine mcP S K hs hl.1 hf (fun _ hX => metX9_copyOf _ _ _ _ _ _ _ _ _ hX) (cwX9_52 S.2.2.2.2 ⟨Nat.le_of_ble_eq_true rfl, Nat.le_of_ble_eq_true rfl⟩) rfl dX9_ownerOf_15 rfl (Nat.le_of_ble_eq_true rfl) ⟨Nat.le_refl _, Nat.le_refl _⟩ (fun x2 H locs hs hf => ?_)
        refine lv_istore_n (lv' := [(3, .int x2), (0, .ref h), (1, .int y1), (2, .int y2)]) S.1 S.2.1 dX9_ownerOf_18 rfl hl (by decide) rfl (fun ls hl => ?_)
        refine lv_iload_n S.1 S.2.1 dX9_ownerOf_19 rfl (lv_at hl 0 rfl) ?_
        refine z_if_lt (tgt := 37) S hf dX9_ownerOf_20 (by decide) (fun hf => ?_) (fun hf => ?_)
        · refine lv_iinc (v := y2 + nI 1) (lv' := [(2, .int (y2 + nI 1)), (3, .int x2), (0, .ref h), (1, .int y1)]) S.1 S.2.1 dX9_ownerOf_37 hl (k := 3) rfl (by rw [k_iconst_1]) (by decide) rfl (fun ls hl => ?_)
          refine lv_goto (tgt := 2) S.1 S.2.1 dX9_ownerOf_40 (by decide) ?_
          exact ih _ _ hf _ _ _ (lv_sub hl [2, 3, 0] rfl) hs
        · refine lv_aload_n S.1 S.2.1 dX9_ownerOf_23 rfl (lv_at hl 1 rfl) ?_
          refine mg7 S K hs dX9_ownerOf_24 ?_
          refine lv_iload_n S.1 S.2.1 dX9_ownerOf_27 rfl (lv_at hl 0 rfl) ?_
          refine lv_iconst S.1 S.2.1 dX9_ownerOf_28 k_iconst_1 ?_
          refine lv_iadd S.1 S.2.1 dX9_ownerOf_29 ?_
          refine mld0 S K hs hf dX9_ownerOf_30 (fun x3 hf => ?_)
          refine lv_iconst S.1 S.2.1 dX9_ownerOf_31 k_iconst_2 ?_
          refine z_icmp_ne (tgt := 37) S hf dX9_ownerOf_32 (by decide) (fun hf => ?_) (fun hf => ?_)
          · refine lv_iinc (v := y2 + nI 1) (lv' := [(2, .int (y2 + nI 1)), (3, .int x2), (0, .ref h), (1, .int y1)]) S.1 S.2.1 dX9_ownerOf_37 hl (k := 3) rfl (by rw [k_iconst_1]) (by decide) rfl (fun ls hl => ?_)
            refine lv_goto (tgt := 2) S.1 S.2.1 dX9_ownerOf_40 (by decide) ?_
            exact ih _ _ hf _ _ _ (lv_sub hl [2, 3, 0] rfl) hs
          · refine lv_iload_n S.1 S.2.1 dX9_ownerOf_35 rfl (lv_at hl 3 rfl) ?_
            exact mrP S K hr hk hs (hf.trans (congrArg some hres)) dX9_ownerOf_36
  unfold fX9_ownerOf at hf
  refine lv_iconst S.1 S.2.1 dX9_ownerOf_0 k_iconst_0 ?_
  refine lv_istore_n (lv' := [(2, .int (nI 0)), (0, .ref h), (1, .int a0)]) S.1 S.2.1 dX9_ownerOf_1 rfl hl (by decide) rfl (fun ls hl => ?_)
  refine L2 _ (fun  hf H locs ls hl hs => ?_) _ _ _ hf _ _ _ (lv_sub hl [1, 2, 0] rfl) hs
  refine lv_iconst S.1 S.2.1 dX9_ownerOf_43 k_iconst_m1 ?_
  exact mrP S K hr hk hs (hf.trans (congrArg some hres)) dX9_ownerOf_44
theorem metX9_ownerOf (l : Launch) (D : va_G) (cI : ClassId) (h : Nat) (ad : Nat → Nat) (a0 : Int32) (σ : zSt) (r0 : Int32) (hf : fX9_ownerOf a0 σ = some r0) : Met l yX9_ownerOf (Cond.code yX9_ownerOf cX9_ownerOf 4 (some .int) :: WA) rmX9_ownerOf (mPc D cI h ad σ [.ref h, .int a0]) ((mQi D cI h ad r0 σ)) 0 0 (mA h ad) :=
  mMet (by decide) (Nat.le_of_ble_eq_true rfl) (fun p e s m args below meth c H locs ls S K hr hk hl hs => bdX9_ownerOf S K hr hk _ _ _ hf hl hs)
set_option maxHeartbeats 4000000 in
set_option maxRecDepth 100000 in
theorem bdX9_sharersOf {p : Program} {l : Launch} {e : Env} {s : State} {m : MethodId} {args : Array Value} {below : List Frame} {meth : Method} {c : Code} {H : Heap} {locs : List Loc} {ls : Array Slot} {D : va_G} {cI : ClassId} {h : Nat} {ad : Nat → Nat} (S : CallFix p m c cX9_sharersOf 5 s args WA RX9) (K : va_K D vwCl [(cI, .int)] s) (hr : meth.sig.returnType = (some .int)) (hk : meth.locks = false) (a0 : Int32) (σ : zSt) (r0 : Int32) (hf : fX9_sharersOf a0 σ = some r0) (hl : lv_has ls 5 [(0, .ref h), (1, .int a0)]) (hs : mS D cI h ad s σ H locs) : W p l e rmX9_sharersOf s m args below meth c H locs 0 0 (MQ below (mQi D cI h ad r0 σ) args s 0 0 (mA h ad)) (F0 m 0 ls []) := by
  obtain ⟨res, hres⟩ : ∃ q, q = r0 := ⟨_, rfl⟩
  rw [← hres] at hf
  have J48 : ∀ (C4 : Int32 → Int32 → Int32 → Option (Int32)) (hC4 : ∀ (y1 : Int32) (y2 : Int32) (y3 : Int32), C4 y1 y2 y3 = some res → mGo p l e rmX9_sharersOf s m args below meth c (MQ below (mQi D cI h ad r0 σ) args s 0 0 (mA h ad)) D cI h ad 5 σ [(0, .ref h), (1, .int y1), (2, .int y2), (3, .int y3)] 4 []) (y1 : Int32) (y3 : Int32) (w0 : Int32) (w1 : Int32), fX9_sharersOf_j48 σ C4 y1 y3 w0 w1 = some res → mGo p l e rmX9_sharersOf s m args below meth c (MQ below (mQi D cI h ad r0 σ) args s 0 0 (mA h ad)) D cI h ad 5 σ [(0, .ref h), (1, .int y1), (3, .int y3)] 48 [.int w0, .int w1] := by
    intro C4 hC4 y1 y3 w0 w1 hf H locs ls hl hs
    unfold fX9_sharersOf_j48 at hf
    refine lv_ior S.1 S.2.1 dX9_sharersOf_48 ?_
    refine lv_istore_n (lv' := [(2, .int (w1 ||| w0)), (0, .ref h), (1, .int y1), (3, .int y3)]) S.1 S.2.1 dX9_sharersOf_49 rfl hl (by decide) rfl (fun ls hl => ?_)
    refine lv_iinc (v := y3 + nI 1) (lv' := [(3, .int (y3 + nI 1)), (2, .int (w1 ||| w0)), (0, .ref h), (1, .int y1)]) S.1 S.2.1 dX9_sharersOf_50 hl (k := 3) rfl (by rw [k_iconst_1]) (by decide) rfl (fun ls hl => ?_)
    refine lv_goto (tgt := 4) S.1 S.2.1 dX9_sharersOf_53 (by decide) ?_
    exact hC4 _ _ _ hf _ _ _ (lv_sub hl [2, 3, 1, 0] rfl) hs
  have J47 : ∀ (C4 : Int32 → Int32 → Int32 → Option (Int32)) (hC4 : ∀ (y1 : Int32) (y2 : Int32) (y3 : Int32), C4 y1 y2 y3 = some res → mGo p l e rmX9_sharersOf s m args below meth c (MQ below (mQi D cI h ad r0 σ) args s 0 0 (mA h ad)) D cI h ad 5 σ [(0, .ref h), (1, .int y1), (2, .int y2), (3, .int y3)] 4 []) (y1 : Int32) (y3 : Int32) (w0 : Int32), fX9_sharersOf_j47 σ C4 y1 y3 w0 = some res → mGo p l e rmX9_sharersOf s m args below meth c (MQ below (mQi D cI h ad r0 σ) args s 0 0 (mA h ad)) D cI h ad 5 σ [(0, .ref h), (1, .int y1), (3, .int y3)] 47 [.int w0] := by
    intro C4 hC4 y1 y3 w0 hf H locs ls hl hs
    unfold fX9_sharersOf_j47 at hf
    refine lv_iconst S.1 S.2.1 dX9_sharersOf_47 k_iconst_0 ?_
    exact J48 _ hC4 _ _ _ _ hf _ _ _ (lv_sub hl [0, 1, 2] rfl) hs
  have L4 : ∀ (K4 : Int32 → Option (Int32)) (hK4 : ∀ (y2 : Int32), K4 y2 = some res → mGo p l e rmX9_sharersOf s m args below meth c (MQ below (mQi D cI h ad r0 σ) args s 0 0 (mA h ad)) D cI h ad 5 σ [(0, .ref h), (2, .int y2)] 56 []) (n : Nat) (y1 : Int32) (y2 : Int32) (y3 : Int32), fX9_sharersOf_l4 σ K4 n y1 y2 y3 = some res → mGo p l e rmX9_sharersOf s m args below meth c (MQ below (mQi D cI h ad r0 σ) args s 0 0 (mA h ad)) D cI h ad 5 σ [(0, .ref h), (1, .int y1), (2, .int y2), (3, .int y3)] 4 [] := by
    intro K4 hK4 n
    induction n with
    | zero =>
      intro y1 y2 y3 hf H locs ls hl hs
      rw [fX9_sharersOf_l4] at hf
      cases hf
    | succ n ih =>
      intro y1 y2 y3 hf H locs ls hl hs
      rw [fX9_sharersOf_l4] at hf
      refine lv_iload_n S.1 S.2.1 dX9_sharersOf_4 rfl (lv_at hl 3 rfl) ?_
      refine lv_aload_n S.1 S.2.1 dX9_sharersOf_5 rfl (lv_at hl 0 rfl) ?_
      refine mg7 S K hs dX9_sharersOf_6 ?_
      refine lv_iconst S.1 S.2.1 dX9_sharersOf_9 k_iconst_0 ?_
      refine mld0 S K hs hf dX9_sharersOf_10 (fun x1 hf => ?_)
      refine z_icmp_ge (tgt := 56) S hf dX9_sharersOf_11 (by decide) (fun hf => ?_) (fun hf => ?_)
      · exact hK4 _ hf _ _ _ (lv_sub hl [0, 2] rfl) hs
      · refine lv_aload_n S.1 S.2.1 dX9_sharersOf_14 rfl (lv_at hl 0 rfl) ?_
        refine lv_iload_n S.1 S.2.1 dX9_sharersOf_15 rfl (lv_at hl 3 rfl) ?_
        refine lv_iload_n S.1 S.2.1 dX9_sharersOf_16 rfl (lv_at hl 1 rfl) ?_
        refine mcP S K hs hl.1 hf (fun _ hX => metX9_copyOf _ _ _ _ _ _ _ _ _ hX) (cwX9_52 S.2.2.2.2 ⟨Nat.le_of_ble_eq_true rfl, Nat.le_of_ble_eq_true rfl⟩) rfl dX9_sharersOf_17 rfl (Nat.le_of_ble_eq_true rfl) ⟨Nat.le_refl _, Nat.le_refl _⟩ (fun x2 H locs hs hf => ?_)
        refine lv_istore (lv' := [(4, .int x2), (0, .ref h), (1, .int y1), (2, .int y2), (3, .int y3)]) S.1 S.2.1 dX9_sharersOf_20 hl (by decide) rfl (fun ls hl => ?_)
        refine lv_iload_n S.1 S.2.1 dX9_sharersOf_22 rfl (lv_at hl 3 rfl) ?_
        refine lv_iload S.1 S.2.1 dX9_sharersOf_23 (lv_at hl 0 rfl) ?_
        refine z_if_lt (tgt := 47) S hf dX9_sharersOf_25 (by decide) (fun hf => ?_) (fun hf => ?_)
        · exact J47 _ ih _ _ _ hf _ _ _ (lv_sub hl [1, 2, 4] rfl) hs
        · refine lv_aload_n S.1 S.2.1 dX9_sharersOf_28 rfl (lv_at hl 1 rfl) ?_
          refine mg7 S K hs dX9_sharersOf_29 ?_
          refine lv_iload S.1 S.2.1 dX9_sharersOf_32 (lv_at hl 0 rfl) ?_
          refine lv_iconst S.1 S.2.1 dX9_sharersOf_34 k_iconst_1 ?_
          refine lv_iadd S.1 S.2.1 dX9_sharersOf_35 ?_
          refine mld0 S K hs hf dX9_sharersOf_36 (fun x3 hf => ?_)
          refine lv_iconst S.1 S.2.1 dX9_sharersOf_37 k_iconst_1 ?_
          refine z_icmp_ne (tgt := 47) S hf dX9_sharersOf_38 (by decide) (fun hf => ?_) (fun hf => ?_)
          · exact J47 _ ih _ _ _ hf _ _ _ (lv_sub hl [1, 2, 4] rfl) hs
          · refine lv_iconst S.1 S.2.1 dX9_sharersOf_41 k_iconst_1 ?_
            refine lv_iload_n S.1 S.2.1 dX9_sharersOf_42 rfl (lv_at hl 4 rfl) ?_
            refine lv_ishl S.1 S.2.1 dX9_sharersOf_43 ?_
            refine lv_goto (tgt := 48) S.1 S.2.1 dX9_sharersOf_44 (by decide) ?_
            exact J48 _ ih _ _ _ _ hf _ _ _ (lv_sub hl [1, 2, 4] rfl) hs
  unfold fX9_sharersOf at hf
  refine lv_iconst S.1 S.2.1 dX9_sharersOf_0 k_iconst_0 ?_
  refine lv_istore_n (lv' := [(2, .int (nI 0)), (0, .ref h), (1, .int a0)]) S.1 S.2.1 dX9_sharersOf_1 rfl hl (by decide) rfl (fun ls hl => ?_)
  refine lv_iconst S.1 S.2.1 dX9_sharersOf_2 k_iconst_0 ?_
  refine lv_istore_n (lv' := [(3, .int (nI 0)), (2, .int (nI 0)), (0, .ref h), (1, .int a0)]) S.1 S.2.1 dX9_sharersOf_3 rfl hl (by decide) rfl (fun ls hl => ?_)
  refine L4 _ (fun x4 hf H locs ls hl hs => ?_) _ _ _ _ hf _ _ _ (lv_sub hl [2, 3, 1, 0] rfl) hs
  refine lv_iload_n S.1 S.2.1 dX9_sharersOf_56 rfl (lv_at hl 1 rfl) ?_
  exact mrP S K hr hk hs (hf.trans (congrArg some hres)) dX9_sharersOf_57
theorem metX9_sharersOf (l : Launch) (D : va_G) (cI : ClassId) (h : Nat) (ad : Nat → Nat) (a0 : Int32) (σ : zSt) (r0 : Int32) (hf : fX9_sharersOf a0 σ = some r0) : Met l yX9_sharersOf (Cond.code yX9_sharersOf cX9_sharersOf 5 (some .int) :: WA) rmX9_sharersOf (mPc D cI h ad σ [.ref h, .int a0]) ((mQi D cI h ad r0 σ)) 0 0 (mA h ad) :=
  mMet (by decide) (Nat.le_of_ble_eq_true rfl) (fun p e s m args below meth c H locs ls S K hr hk hl hs => bdX9_sharersOf S K hr hk _ _ _ hf hl hs)
set_option maxHeartbeats 4000000 in
set_option maxRecDepth 100000 in
theorem bdX9_aboutLine {p : Program} {l : Launch} {e : Env} {s : State} {m : MethodId} {args : Array Value} {below : List Frame} {meth : Method} {c : Code} {H : Heap} {locs : List Loc} {ls : Array Slot} {D : va_G} {cI : ClassId} {h : Nat} {ad : Nat → Nat} (S : CallFix p m c cX9_aboutLine 4 s args WA RX9) (K : va_K D vwCl [(cI, .int)] s) (hr : meth.sig.returnType = (some .int)) (hk : meth.locks = false) (a0 : Int32) (a1 : Int32) (σ : zSt) (r0 : Int32) (hf : fX9_aboutLine a0 a1 σ = some r0) (hl : lv_has ls 4 [(0, .ref h), (1, .int a0), (2, .int a1)]) (hs : mS D cI h ad s σ H locs) : W p l e rmX9_aboutLine s m args below meth c H locs 0 0 (MQ below (mQi D cI h ad r0 σ) args s 0 0 (mA h ad)) (F0 m 0 ls []) := by
  unfold fX9_aboutLine at hf
  refine lv_aload_n S.1 S.2.1 dX9_aboutLine_0 rfl (lv_at hl 0 rfl) ?_
  refine lv_iload_n S.1 S.2.1 dX9_aboutLine_1 rfl (lv_at hl 1 rfl) ?_
  refine mcP S K hs hl.1 hf (fun _ hX => metX9_pageOf _ _ _ _ _ _ _ _ hX) (cwX9_48 S.2.2.2.2 ⟨Nat.le_of_ble_eq_true rfl, Nat.le_of_ble_eq_true rfl⟩) rfl dX9_aboutLine_2 rfl (Nat.le_of_ble_eq_true rfl) ⟨Nat.le_refl _, Nat.le_refl _⟩ (fun x1 H locs hs hf => ?_)
  refine lv_istore_n (lv' := [(3, .int x1), (0, .ref h), (1, .int a0), (2, .int a1)]) S.1 S.2.1 dX9_aboutLine_5 rfl hl (by decide) rfl (fun ls hl => ?_)
  refine lv_iload_n S.1 S.2.1 dX9_aboutLine_6 rfl (lv_at hl 3 rfl) ?_
  refine z_case (v := 0) hf (fun hn0 hf => ?_) (fun hn0 hf => ?_)
  · refine lv_tableIn (tgt := 48) S.1 S.2.1 dX9_aboutLine_7 (by rw [hn0]; decide) (by rw [hn0]; decide) (off := 41) (by rw [hn0]; decide) (by decide) ?_
    refine lv_aload_n S.1 S.2.1 dX9_aboutLine_48 rfl (lv_at hl 1 rfl) ?_
    refine mg7 S K hs dX9_aboutLine_49 ?_
    refine lv_bipush S.1 S.2.1 dX9_aboutLine_52 k_bipush_14 ?_
    refine lv_iload_n S.1 S.2.1 dX9_aboutLine_54 rfl (lv_at hl 2 rfl) ?_
    refine lv_iadd S.1 S.2.1 dX9_aboutLine_55 ?_
    refine mld0 S K hs hf dX9_aboutLine_56 (fun x2 hf => ?_)
    exact mrP S K hr hk hs hf dX9_aboutLine_57
  refine z_case (v := 1) hf (fun hn1 hf => ?_) (fun hn1 hf => ?_)
  · refine lv_tableIn (tgt := 58) S.1 S.2.1 dX9_aboutLine_7 (by rw [hn1]; decide) (by rw [hn1]; decide) (off := 51) (by rw [hn1]; decide) (by decide) ?_
    refine lv_aload_n S.1 S.2.1 dX9_aboutLine_58 rfl (lv_at hl 1 rfl) ?_
    refine mg7 S K hs dX9_aboutLine_59 ?_
    refine lv_bipush S.1 S.2.1 dX9_aboutLine_62 k_bipush_46 ?_
    refine lv_iload_n S.1 S.2.1 dX9_aboutLine_64 rfl (lv_at hl 2 rfl) ?_
    refine lv_iadd S.1 S.2.1 dX9_aboutLine_65 ?_
    refine mld0 S K hs hf dX9_aboutLine_66 (fun x3 hf => ?_)
    exact mrP S K hr hk hs hf dX9_aboutLine_67
  refine z_case (v := 2) hf (fun hn2 hf => ?_) (fun hn2 hf => ?_)
  · refine lv_tableIn (tgt := 68) S.1 S.2.1 dX9_aboutLine_7 (by rw [hn2]; decide) (by rw [hn2]; decide) (off := 61) (by rw [hn2]; decide) (by decide) ?_
    refine lv_aload_n S.1 S.2.1 dX9_aboutLine_68 rfl (lv_at hl 1 rfl) ?_
    refine lv_iload_n S.1 S.2.1 dX9_aboutLine_69 rfl (lv_at hl 2 rfl) ?_
    refine mcP S K hs hl.1 hf (fun _ hX => metX9_ownerOf _ _ _ _ _ _ _ _ hX) (cwX9_62 S.2.2.2.2 ⟨Nat.le_of_ble_eq_true rfl, Nat.le_of_ble_eq_true rfl⟩) rfl dX9_aboutLine_70 rfl (Nat.le_of_ble_eq_true rfl) ⟨Nat.le_refl _, Nat.le_refl _⟩ (fun x4 H locs hs hf => ?_)
    exact mrP S K hr hk hs hf dX9_aboutLine_73
  refine z_case (v := 3) hf (fun hn3 hf => ?_) (fun hn3 hf => ?_)
  · refine lv_tableIn (tgt := 74) S.1 S.2.1 dX9_aboutLine_7 (by rw [hn3]; decide) (by rw [hn3]; decide) (off := 67) (by rw [hn3]; decide) (by decide) ?_
    refine lv_aload_n S.1 S.2.1 dX9_aboutLine_74 rfl (lv_at hl 1 rfl) ?_
    refine lv_iload_n S.1 S.2.1 dX9_aboutLine_75 rfl (lv_at hl 2 rfl) ?_
    refine mcP S K hs hl.1 hf (fun _ hX => metX9_sharersOf _ _ _ _ _ _ _ _ hX) (cwX9_65 S.2.2.2.2 ⟨Nat.le_of_ble_eq_true rfl, Nat.le_of_ble_eq_true rfl⟩) rfl dX9_aboutLine_76 rfl (Nat.le_of_ble_eq_true rfl) ⟨Nat.le_refl _, Nat.le_refl _⟩ (fun x5 H locs hs hf => ?_)
    exact mrP S K hr hk hs hf dX9_aboutLine_79
  refine z_case (v := 4) hf (fun hn4 hf => ?_) (fun hn4 hf => ?_)
  · refine lv_tableIn (tgt := 80) S.1 S.2.1 dX9_aboutLine_7 (by rw [hn4]; decide) (by rw [hn4]; decide) (off := 73) (by rw [hn4]; decide) (by decide) ?_
    refine lv_iload_n S.1 S.2.1 dX9_aboutLine_80 rfl (lv_at hl 0 rfl) ?_
    refine z_if_lt (tgt := 88) S hf dX9_aboutLine_81 (by decide) (fun hf => ?_) (fun hf => ?_)
    · refine lv_iconst S.1 S.2.1 dX9_aboutLine_88 k_iconst_0 ?_
      exact mrP S K hr hk hs hf dX9_aboutLine_89
    · refine lv_iconst S.1 S.2.1 dX9_aboutLine_84 k_iconst_1 ?_
      refine lv_goto (tgt := 89) S.1 S.2.1 dX9_aboutLine_85 (by decide) ?_
      exact mrP S K hr hk hs hf dX9_aboutLine_89
  refine z_case (v := 5) hf (fun hn5 hf => ?_) (fun hn5 hf => ?_)
  · refine lv_tableIn (tgt := 90) S.1 S.2.1 dX9_aboutLine_7 (by rw [hn5]; decide) (by rw [hn5]; decide) (off := 83) (by rw [hn5]; decide) (by decide) ?_
    refine lv_iload_n S.1 S.2.1 dX9_aboutLine_90 rfl (lv_at hl 0 rfl) ?_
    refine z_if_lt (tgt := 105) S hf dX9_aboutLine_91 (by decide) (fun hf => ?_) (fun hf => ?_)
    · refine lv_iconst S.1 S.2.1 dX9_aboutLine_105 k_iconst_m1 ?_
      exact mrP S K hr hk hs hf dX9_aboutLine_106
    · refine lv_aload_n S.1 S.2.1 dX9_aboutLine_94 rfl (lv_at hl 1 rfl) ?_
      refine mg7 S K hs dX9_aboutLine_95 ?_
      refine lv_iload_n S.1 S.2.1 dX9_aboutLine_98 rfl (lv_at hl 0 rfl) ?_
      refine lv_iconst S.1 S.2.1 dX9_aboutLine_99 k_iconst_1 ?_
      refine lv_iadd S.1 S.2.1 dX9_aboutLine_100 ?_
      refine mld0 S K hs hf dX9_aboutLine_101 (fun x6 hf => ?_)
      refine lv_goto (tgt := 106) S.1 S.2.1 dX9_aboutLine_102 (by decide) ?_
      exact mrP S K hr hk hs hf dX9_aboutLine_106
  refine z_case (v := 6) hf (fun hn6 hf => ?_) (fun hn6 hf => ?_)
  · refine lv_tableIn (tgt := 107) S.1 S.2.1 dX9_aboutLine_7 (by rw [hn6]; decide) (by rw [hn6]; decide) (off := 100) (by rw [hn6]; decide) (by decide) ?_
    refine lv_iload_n S.1 S.2.1 dX9_aboutLine_107 rfl (lv_at hl 0 rfl) ?_
    refine z_if_lt (tgt := 122) S hf dX9_aboutLine_108 (by decide) (fun hf => ?_) (fun hf => ?_)
    · refine lv_iconst S.1 S.2.1 dX9_aboutLine_122 k_iconst_m1 ?_
      exact mrP S K hr hk hs hf dX9_aboutLine_123
    · refine lv_aload_n S.1 S.2.1 dX9_aboutLine_111 rfl (lv_at hl 1 rfl) ?_
      refine mg7 S K hs dX9_aboutLine_112 ?_
      refine lv_iload_n S.1 S.2.1 dX9_aboutLine_115 rfl (lv_at hl 0 rfl) ?_
      refine lv_iconst S.1 S.2.1 dX9_aboutLine_116 k_iconst_2 ?_
      refine lv_iadd S.1 S.2.1 dX9_aboutLine_117 ?_
      refine mld0 S K hs hf dX9_aboutLine_118 (fun x7 hf => ?_)
      refine lv_goto (tgt := 123) S.1 S.2.1 dX9_aboutLine_119 (by decide) ?_
      exact mrP S K hr hk hs hf dX9_aboutLine_123
  refine lv_tableOut (tgt := 124) S.1 S.2.1 dX9_aboutLine_7 (by have q0 := z_ne hn0 (by decide); have q1 := z_ne hn1 (by decide); have q2 := z_ne hn2 (by decide); have q3 := z_ne hn3 (by decide); have q4 := z_ne hn4 (by decide); have q5 := z_ne hn5 (by decide); have q6 := z_ne hn6 (by decide); omega) (by decide) ?_
  refine lv_aload_n S.1 S.2.1 dX9_aboutLine_124 rfl (lv_at hl 1 rfl) ?_
  refine mg7 S K hs dX9_aboutLine_125 ?_
  refine lv_bipush S.1 S.2.1 dX9_aboutLine_128 k_bipush_78 ?_
  refine lv_iload_n S.1 S.2.1 dX9_aboutLine_130 rfl (lv_at hl 2 rfl) ?_
  refine lv_iadd S.1 S.2.1 dX9_aboutLine_131 ?_
  refine mld0 S K hs hf dX9_aboutLine_132 (fun x8 hf => ?_)
  exact mrP S K hr hk hs hf dX9_aboutLine_133
theorem metX9_aboutLine (l : Launch) (D : va_G) (cI : ClassId) (h : Nat) (ad : Nat → Nat) (a0 : Int32) (a1 : Int32) (σ : zSt) (r0 : Int32) (hf : fX9_aboutLine a0 a1 σ = some r0) : Met l yX9_aboutLine (Cond.code yX9_aboutLine cX9_aboutLine 4 (some .int) :: WA) rmX9_aboutLine (mPc D cI h ad σ [.ref h, .int a0, .int a1]) ((mQi D cI h ad r0 σ)) 0 0 (mA h ad) :=
  mMet (by decide) (Nat.le_of_ble_eq_true rfl) (fun p e s m args below meth c H locs ls S K hr hk hl hs => bdX9_aboutLine S K hr hk _ _ _ _ hf hl hs)
set_option maxHeartbeats 4000000 in
set_option maxRecDepth 100000 in
theorem bdX9_isAsking {p : Program} {l : Launch} {e : Env} {s : State} {m : MethodId} {args : Array Value} {below : List Frame} {meth : Method} {c : Code} {H : Heap} {locs : List Loc} {ls : Array Slot} {D : va_G} {cI : ClassId} {h : Nat} {ad : Nat → Nat} (S : CallFix p m c cX9_isAsking 2 s args WA RX9) (K : va_K D vwCl [(cI, .int)] s) (hr : meth.sig.returnType = (some .boolean)) (hk : meth.locks = false) (a0 : Int32) (σ : zSt) (r0 : Int32) (hf : fX9_isAsking a0 σ = some r0) (hl : lv_has ls 2 [(0, .ref h), (1, .int a0)]) (hs : mS D cI h ad s σ H locs) : W p l e rmX9_isAsking s m args below meth c H locs 0 0 (MQ below (mQi D cI h ad r0 σ) args s 0 0 (mA h ad)) (F0 m 0 ls []) := by
  unfold fX9_isAsking at hf
  refine lv_aload_n S.1 S.2.1 dX9_isAsking_0 rfl (lv_at hl 0 rfl) ?_
  refine mg7 S K hs dX9_isAsking_1 ?_
  refine lv_sipush S.1 S.2.1 dX9_isAsking_4 k_sipush_366 ?_
  refine lv_iconst S.1 S.2.1 dX9_isAsking_7 k_iconst_3 ?_
  refine lv_iload_n S.1 S.2.1 dX9_isAsking_8 rfl (lv_at hl 1 rfl) ?_
  refine lv_imul S.1 S.2.1 dX9_isAsking_9 ?_
  refine lv_iadd S.1 S.2.1 dX9_isAsking_10 ?_
  refine mld0 S K hs hf dX9_isAsking_11 (fun x1 hf => ?_)
  refine z_if_lt (tgt := 19) S hf dX9_isAsking_12 (by decide) (fun hf => ?_) (fun hf => ?_)
  · refine lv_iconst S.1 S.2.1 dX9_isAsking_19 k_iconst_0 ?_
    exact mrB S K hr hk hs hf dX9_isAsking_20
  · refine lv_iconst S.1 S.2.1 dX9_isAsking_15 k_iconst_1 ?_
    refine lv_goto (tgt := 20) S.1 S.2.1 dX9_isAsking_16 (by decide) ?_
    exact mrB S K hr hk hs hf dX9_isAsking_20
theorem metX9_isAsking (l : Launch) (D : va_G) (cI : ClassId) (h : Nat) (ad : Nat → Nat) (a0 : Int32) (σ : zSt) (r0 : Int32) (hf : fX9_isAsking a0 σ = some r0) : Met l yX9_isAsking (Cond.code yX9_isAsking cX9_isAsking 2 (some .boolean) :: WA) rmX9_isAsking (mPc D cI h ad σ [.ref h, .int a0]) ((mQi D cI h ad r0 σ)) 0 0 (mA h ad) :=
  mMet (by decide) (Nat.le_of_ble_eq_true rfl) (fun p e s m args below meth c H locs ls S K hr hk hl hs => bdX9_isAsking S K hr hk _ _ _ hf hl hs)
set_option maxHeartbeats 4000000 in
set_option maxRecDepth 100000 in
theorem bdX9_aboutPending {p : Program} {l : Launch} {e : Env} {s : State} {m : MethodId} {args : Array Value} {below : List Frame} {meth : Method} {c : Code} {H : Heap} {locs : List Loc} {ls : Array Slot} {D : va_G} {cI : ClassId} {h : Nat} {ad : Nat → Nat} (S : CallFix p m c cX9_aboutPending 3 s args WA RX9) (K : va_K D vwCl [(cI, .int)] s) (hr : meth.sig.returnType = (some .int)) (hk : meth.locks = false) (a0 : Int32) (a1 : Int32) (σ : zSt) (r0 : Int32) (hf : fX9_aboutPending a0 a1 σ = some r0) (hl : lv_has ls 3 [(0, .ref h), (1, .int a0), (2, .int a1)]) (hs : mS D cI h ad s σ H locs) : W p l e rmX9_aboutPending s m args below meth c H locs 0 0 (MQ below (mQi D cI h ad r0 σ) args s 0 0 (mA h ad)) (F0 m 0 ls []) := by
  unfold fX9_aboutPending at hf
  refine lv_aload_n S.1 S.2.1 dX9_aboutPending_0 rfl (lv_at hl 0 rfl) ?_
  refine lv_iload_n S.1 S.2.1 dX9_aboutPending_1 rfl (lv_at hl 1 rfl) ?_
  refine mcP S K hs hl.1 hf (fun _ hX => metX9_isAsking _ _ _ _ _ _ _ _ hX) (cwX9_95 S.2.2.2.2 ⟨Nat.le_of_ble_eq_true rfl, Nat.le_of_ble_eq_true rfl⟩) rfl dX9_aboutPending_2 rfl (Nat.le_of_ble_eq_true rfl) ⟨Nat.le_refl _, Nat.le_refl _⟩ (fun x1 H locs hs hf => ?_)
  refine z_if_eq (tgt := 25) S hf dX9_aboutPending_5 (by decide) (fun hf => ?_) (fun hf => ?_)
  · refine lv_iconst S.1 S.2.1 dX9_aboutPending_25 k_iconst_m1 ?_
    exact mrP S K hr hk hs hf dX9_aboutPending_26
  · refine lv_aload_n S.1 S.2.1 dX9_aboutPending_8 rfl (lv_at hl 0 rfl) ?_
    refine mg7 S K hs dX9_aboutPending_9 ?_
    refine lv_sipush S.1 S.2.1 dX9_aboutPending_12 k_sipush_366 ?_
    refine lv_iconst S.1 S.2.1 dX9_aboutPending_15 k_iconst_3 ?_
    refine lv_iload_n S.1 S.2.1 dX9_aboutPending_16 rfl (lv_at hl 1 rfl) ?_
    refine lv_imul S.1 S.2.1 dX9_aboutPending_17 ?_
    refine lv_iadd S.1 S.2.1 dX9_aboutPending_18 ?_
    refine lv_iload_n S.1 S.2.1 dX9_aboutPending_19 rfl (lv_at hl 2 rfl) ?_
    refine lv_iadd S.1 S.2.1 dX9_aboutPending_20 ?_
    refine mld0 S K hs hf dX9_aboutPending_21 (fun x2 hf => ?_)
    refine lv_goto (tgt := 26) S.1 S.2.1 dX9_aboutPending_22 (by decide) ?_
    exact mrP S K hr hk hs hf dX9_aboutPending_26
theorem metX9_aboutPending (l : Launch) (D : va_G) (cI : ClassId) (h : Nat) (ad : Nat → Nat) (a0 : Int32) (a1 : Int32) (σ : zSt) (r0 : Int32) (hf : fX9_aboutPending a0 a1 σ = some r0) : Met l yX9_aboutPending (Cond.code yX9_aboutPending cX9_aboutPending 3 (some .int) :: WA) rmX9_aboutPending (mPc D cI h ad σ [.ref h, .int a0, .int a1]) ((mQi D cI h ad r0 σ)) 0 0 (mA h ad) :=
  mMet (by decide) (Nat.le_of_ble_eq_true rfl) (fun p e s m args below meth c H locs ls S K hr hk hl hs => bdX9_aboutPending S K hr hk _ _ _ _ hf hl hs)
set_option maxHeartbeats 4000000 in
set_option maxRecDepth 100000 in
theorem bdX9_anew {p : Program} {l : Launch} {e : Env} {s : State} {m : MethodId} {args : Array Value} {below : List Frame} {meth : Method} {c : Code} {H : Heap} {locs : List Loc} {ls : Array Slot} {D : va_G} {cI : ClassId} {h : Nat} {ad : Nat → Nat} (S : CallFix p m c cX9_anew 5 s args WA RX9) (K : va_K D vwCl [(cI, .int)] s) (hr : meth.sig.returnType = none) (hk : meth.locks = false) (a0 : Int32) (a1 : Int32) (a2 : Int32) (σ : zSt) (σ0 : zSt) (hf : fX9_anew a0 a1 a2 σ = some σ0) (hl : lv_has ls 5 [(0, .ref h), (1, .int a0), (2, .int a1), (3, .int a2)]) (hs : mS D cI h ad s σ H locs) : W p l e rmX9_anew s m args below meth c H locs 0 0 (MQ below (mQv D cI h ad σ0) args s 0 0 (mA h ad)) (F0 m 0 ls []) := by
  obtain ⟨res, hres⟩ : ∃ q, q = σ0 := ⟨_, rfl⟩
  rw [← hres] at hf
  have L3 : ∀ (K3 : Int32 → Int32 → Int32 → zSt → Option (zSt)) (hK3 : ∀ (y1 : Int32) (y2 : Int32) (y3 : Int32) (σ : zSt), K3 y1 y2 y3 σ = some res → mGo p l e rmX9_anew s m args below meth c (MQ below (mQv D cI h ad σ0) args s 0 0 (mA h ad)) D cI h ad 5 σ [(0, .ref h), (1, .int y1), (2, .int y2), (3, .int y3)] 25 []) (n : Nat) (y1 : Int32) (y2 : Int32) (y3 : Int32) (y4 : Int32) (σ : zSt), fX9_anew_l3 K3 n y1 y2 y3 y4 σ = some res → mGo p l e rmX9_anew s m args below meth c (MQ below (mQv D cI h ad σ0) args s 0 0 (mA h ad)) D cI h ad 5 σ [(0, .ref h), (1, .int y1), (2, .int y2), (3, .int y3), (4, .int y4)] 3 [] := by
    intro K3 hK3 n
    induction n with
    | zero =>
      intro y1 y2 y3 y4 σ hf H locs ls hl hs
      rw [fX9_anew_l3] at hf
      cases hf
    | succ n ih =>
      intro y1 y2 y3 y4 σ hf H locs ls hl hs
      rw [fX9_anew_l3] at hf
      refine lv_iload S.1 S.2.1 dX9_anew_3 (lv_at hl 4 rfl) ?_
      refine lv_sipush S.1 S.2.1 dX9_anew_5 k_sipush_456 ?_
      refine z_icmp_ge (tgt := 25) S hf dX9_anew_8 (by decide) (fun hf => ?_) (fun hf => ?_)
      · exact hK3 _ _ _ _ hf _ _ _ (lv_sub hl [0, 1, 2, 3] rfl) hs
      · refine lv_aload_n S.1 S.2.1 dX9_anew_11 rfl (lv_at hl 0 rfl) ?_
        refine mg7 S K hs dX9_anew_12 ?_
        refine lv_iload S.1 S.2.1 dX9_anew_15 (lv_at hl 4 rfl) ?_
        refine lv_iconst S.1 S.2.1 dX9_anew_17 k_iconst_0 ?_
        refine mst0 S K hs hf dX9_anew_18 (fun σ1 H locs hs hf => ?_)
        refine lv_iinc (v := y4 + nI 1) (lv' := [(4, .int (y4 + nI 1)), (0, .ref h), (1, .int y1), (2, .int y2), (3, .int y3)]) S.1 S.2.1 dX9_anew_19 hl (k := 4) rfl (by rw [k_iconst_1]) (by decide) rfl (fun ls hl => ?_)
        refine lv_goto (tgt := 3) S.1 S.2.1 dX9_anew_22 (by decide) ?_
        exact ih _ _ _ _ _ hf _ _ _ (lv_sub hl [1, 2, 3, 4, 0] rfl) hs
  have L49 : ∀ (K49 : zSt → Option (zSt)) (hK49 : ∀ (σ : zSt), K49 σ = some res → mGo p l e rmX9_anew s m args below meth c (MQ below (mQv D cI h ad σ0) args s 0 0 (mA h ad)) D cI h ad 5 σ [(0, .ref h)] 75 []) (n : Nat) (y4 : Int32) (σ : zSt), fX9_anew_l49 K49 n y4 σ = some res → mGo p l e rmX9_anew s m args below meth c (MQ below (mQv D cI h ad σ0) args s 0 0 (mA h ad)) D cI h ad 5 σ [(0, .ref h), (4, .int y4)] 49 [] := by
    intro K49 hK49 n
    induction n with
    | zero =>
      intro y4 σ hf H locs ls hl hs
      rw [fX9_anew_l49] at hf
      cases hf
    | succ n ih =>
      intro y4 σ hf H locs ls hl hs
      rw [fX9_anew_l49] at hf
      refine lv_iload S.1 S.2.1 dX9_anew_49 (lv_at hl 1 rfl) ?_
      refine lv_bipush S.1 S.2.1 dX9_anew_51 k_bipush_48 ?_
      refine z_icmp_ge (tgt := 75) S hf dX9_anew_53 (by decide) (fun hf => ?_) (fun hf => ?_)
      · exact hK49 _ hf _ _ _ (lv_sub hl [0] rfl) hs
      · refine lv_aload_n S.1 S.2.1 dX9_anew_56 rfl (lv_at hl 0 rfl) ?_
        refine mg7 S K hs dX9_anew_57 ?_
        refine lv_bipush S.1 S.2.1 dX9_anew_60 k_bipush_110 ?_
        refine lv_iconst S.1 S.2.1 dX9_anew_62 k_iconst_4 ?_
        refine lv_iload S.1 S.2.1 dX9_anew_63 (lv_at hl 1 rfl) ?_
        refine lv_imul S.1 S.2.1 dX9_anew_65 ?_
        refine lv_iadd S.1 S.2.1 dX9_anew_66 ?_
        refine lv_iconst S.1 S.2.1 dX9_anew_67 k_iconst_m1 ?_
        refine mst0 S K hs hf dX9_anew_68 (fun σ9 H locs hs hf => ?_)
        refine lv_iinc (v := y4 + nI 1) (lv' := [(4, .int (y4 + nI 1)), (0, .ref h)]) S.1 S.2.1 dX9_anew_69 hl (k := 1) rfl (by rw [k_iconst_1]) (by decide) rfl (fun ls hl => ?_)
        refine lv_goto (tgt := 49) S.1 S.2.1 dX9_anew_72 (by decide) ?_
        exact ih _ _ hf _ _ _ (lv_sub hl [1, 0] rfl) hs
  have L78 : ∀ (K78 : zSt → Option (zSt)) (hK78 : ∀ (σ : zSt), K78 σ = some res → mGo p l e rmX9_anew s m args below meth c (MQ below (mQv D cI h ad σ0) args s 0 0 (mA h ad)) D cI h ad 5 σ [(0, .ref h)] 105 []) (n : Nat) (y4 : Int32) (σ : zSt), fX9_anew_l78 K78 n y4 σ = some res → mGo p l e rmX9_anew s m args below meth c (MQ below (mQv D cI h ad σ0) args s 0 0 (mA h ad)) D cI h ad 5 σ [(0, .ref h), (4, .int y4)] 78 [] := by
    intro K78 hK78 n
    induction n with
    | zero =>
      intro y4 σ hf H locs ls hl hs
      rw [fX9_anew_l78] at hf
      cases hf
    | succ n ih =>
      intro y4 σ hf H locs ls hl hs
      rw [fX9_anew_l78] at hf
      refine lv_iload S.1 S.2.1 dX9_anew_78 (lv_at hl 1 rfl) ?_
      refine lv_bipush S.1 S.2.1 dX9_anew_80 k_bipush_6 ?_
      refine z_icmp_ge (tgt := 105) S hf dX9_anew_82 (by decide) (fun hf => ?_) (fun hf => ?_)
      · exact hK78 _ hf _ _ _ (lv_sub hl [0] rfl) hs
      · refine lv_aload_n S.1 S.2.1 dX9_anew_85 rfl (lv_at hl 0 rfl) ?_
        refine mg7 S K hs dX9_anew_86 ?_
        refine lv_sipush S.1 S.2.1 dX9_anew_89 k_sipush_366 ?_
        refine lv_iconst S.1 S.2.1 dX9_anew_92 k_iconst_3 ?_
        refine lv_iload S.1 S.2.1 dX9_anew_93 (lv_at hl 1 rfl) ?_
        refine lv_imul S.1 S.2.1 dX9_anew_95 ?_
        refine lv_iadd S.1 S.2.1 dX9_anew_96 ?_
        refine lv_iconst S.1 S.2.1 dX9_anew_97 k_iconst_m1 ?_
        refine mst0 S K hs hf dX9_anew_98 (fun σ11 H locs hs hf => ?_)
        refine lv_iinc (v := y4 + nI 1) (lv' := [(4, .int (y4 + nI 1)), (0, .ref h)]) S.1 S.2.1 dX9_anew_99 hl (k := 1) rfl (by rw [k_iconst_1]) (by decide) rfl (fun ls hl => ?_)
        refine lv_goto (tgt := 78) S.1 S.2.1 dX9_anew_102 (by decide) ?_
        exact ih _ _ hf _ _ _ (lv_sub hl [1, 0] rfl) hs
  unfold fX9_anew at hf
  refine lv_iconst S.1 S.2.1 dX9_anew_0 k_iconst_0 ?_
  refine lv_istore (lv' := [(4, .int (nI 0)), (0, .ref h), (1, .int a0), (2, .int a1), (3, .int a2)]) S.1 S.2.1 dX9_anew_1 hl (by decide) rfl (fun ls hl => ?_)
  refine L3 _ (fun x2 x3 x4 σ5 hf H locs ls hl hs => ?_) _ _ _ _ _ _ hf _ _ _ (lv_sub hl [1, 2, 3, 4, 0] rfl) hs
  refine lv_aload_n S.1 S.2.1 dX9_anew_25 rfl (lv_at hl 0 rfl) ?_
  refine mg7 S K hs dX9_anew_26 ?_
  refine lv_iconst S.1 S.2.1 dX9_anew_29 k_iconst_0 ?_
  refine lv_iload_n S.1 S.2.1 dX9_anew_30 rfl (lv_at hl 1 rfl) ?_
  refine mst0 S K hs hf dX9_anew_31 (fun σ6 H locs hs hf => ?_)
  refine lv_aload_n S.1 S.2.1 dX9_anew_32 rfl (lv_at hl 0 rfl) ?_
  refine mg7 S K hs dX9_anew_33 ?_
  refine lv_iconst S.1 S.2.1 dX9_anew_36 k_iconst_1 ?_
  refine lv_iload_n S.1 S.2.1 dX9_anew_37 rfl (lv_at hl 2 rfl) ?_
  refine mst0 S K hs hf dX9_anew_38 (fun σ7 H locs hs hf => ?_)
  refine lv_aload_n S.1 S.2.1 dX9_anew_39 rfl (lv_at hl 0 rfl) ?_
  refine mg7 S K hs dX9_anew_40 ?_
  refine lv_iconst S.1 S.2.1 dX9_anew_43 k_iconst_2 ?_
  refine lv_iload_n S.1 S.2.1 dX9_anew_44 rfl (lv_at hl 3 rfl) ?_
  refine mst0 S K hs hf dX9_anew_45 (fun σ8 H locs hs hf => ?_)
  refine lv_iconst S.1 S.2.1 dX9_anew_46 k_iconst_0 ?_
  refine lv_istore (lv' := [(4, .int (nI 0)), (0, .ref h), (1, .int x2), (2, .int x3), (3, .int x4)]) S.1 S.2.1 dX9_anew_47 hl (by decide) rfl (fun ls hl => ?_)
  refine L49 _ (fun σ10 hf H locs ls hl hs => ?_) _ _ _ hf _ _ _ (lv_sub hl [1, 0] rfl) hs
  refine lv_iconst S.1 S.2.1 dX9_anew_75 k_iconst_0 ?_
  refine lv_istore (lv' := [(4, .int (nI 0)), (0, .ref h)]) S.1 S.2.1 dX9_anew_76 hl (by decide) rfl (fun ls hl => ?_)
  refine L78 _ (fun σ12 hf H locs ls hl hs => ?_) _ _ _ hf _ _ _ (lv_sub hl [1, 0] rfl) hs
  exact mrV S K hr hk hs (hf.trans (congrArg some hres)) dX9_anew_105
theorem metX9_anew (l : Launch) (D : va_G) (cI : ClassId) (h : Nat) (ad : Nat → Nat) (a0 : Int32) (a1 : Int32) (a2 : Int32) (σ : zSt) (σ0 : zSt) (hf : fX9_anew a0 a1 a2 σ = some σ0) : Met l yX9_anew (Cond.code yX9_anew cX9_anew 5 none :: WA) rmX9_anew (mPc D cI h ad σ [.ref h, .int a0, .int a1, .int a2]) ((mQv D cI h ad σ0)) 0 0 (mA h ad) :=
  mMet (by decide) (Nat.le_of_ble_eq_true rfl) (fun p e s m args below meth c H locs ls S K hr hk hl hs => bdX9_anew S K hr hk _ _ _ _ _ hf hl hs)
