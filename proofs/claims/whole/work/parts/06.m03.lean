/-! the reference: contracts (by wip/tools/walk.py) -/
set_option maxHeartbeats 4000000 in
set_option maxRecDepth 100000 in
theorem bdX9_oldestCopy {p : Program} {l : Launch} {e : Env} {s : State} {m : MethodId} {args : Array Value} {below : List Frame} {meth : Method} {c : Code} {H : Heap} {locs : List Loc} {ls : Array Slot} {D : va_G} {cI : ClassId} {h : Nat} {ad : Nat → Nat} (S : CallFix p m c cX9_oldestCopy 4 s args WA RX9) (K : va_K D vwCl [(cI, .int)] s) (hr : meth.sig.returnType = (some .int)) (hk : meth.locks = false) (a0 : Int32) (σ : zSt) (r0 : Int32) (hf : fX9_oldestCopy a0 σ = some r0) (hl : lv_has ls 4 [(0, .ref h), (1, .int a0)]) (hs : mS D cI h ad s σ H locs) : W p l e rmX9_oldestCopy s m args below meth c H locs 0 0 (MQ below (mQi D cI h ad r0 σ) args s 0 0 (mA h ad)) (F0 m 0 ls []) := by
  obtain ⟨res, hres⟩ : ∃ q, q = r0 := ⟨_, rfl⟩
  rw [← hres] at hf
  have L8 : ∀ (K8 : Int32 → Option (Int32)) (hK8 : ∀ (y2 : Int32), K8 y2 = some res → mGo p l e rmX9_oldestCopy s m args below meth c (MQ below (mQi D cI h ad r0 σ) args s 0 0 (mA h ad)) D cI h ad 4 σ [(0, .ref h), (2, .int y2)] 57 []) (n : Nat) (y1 : Int32) (y2 : Int32) (y3 : Int32), fX9_oldestCopy_l8 σ K8 n y1 y2 y3 = some res → mGo p l e rmX9_oldestCopy s m args below meth c (MQ below (mQi D cI h ad r0 σ) args s 0 0 (mA h ad)) D cI h ad 4 σ [(0, .ref h), (1, .int y1), (2, .int y2), (3, .int y3)] 8 [] := by
    intro K8 hK8 n
    induction n with
    | zero =>
      intro y1 y2 y3 hf H locs ls hl hs
      rw [fX9_oldestCopy_l8] at hf
      cases hf
    | succ n ih =>
      intro y1 y2 y3 hf H locs ls hl hs
      rw [fX9_oldestCopy_l8] at hf
      refine lv_iload_n S.1 S.2.1 dX9_oldestCopy_8 rfl (lv_at hl 3 rfl) ?_
      refine lv_aload_n S.1 S.2.1 dX9_oldestCopy_9 rfl (lv_at hl 0 rfl) ?_
      refine mg7 S K hs dX9_oldestCopy_10 ?_
      refine lv_iconst S.1 S.2.1 dX9_oldestCopy_13 k_iconst_1 ?_
      refine mld0 S K hs hf dX9_oldestCopy_14 (fun x2 hf => ?_)
      refine z_icmp_ge (tgt := 57) S hf dX9_oldestCopy_15 (by decide) (fun hf => ?_) (fun hf => ?_)
      · exact hK8 _ hf _ _ _ (lv_sub hl [0, 2] rfl) hs
      · refine lv_aload_n S.1 S.2.1 dX9_oldestCopy_18 rfl (lv_at hl 0 rfl) ?_
        refine mg7 S K hs dX9_oldestCopy_19 ?_
        refine lv_iload_n S.1 S.2.1 dX9_oldestCopy_22 rfl (lv_at hl 1 rfl) ?_
        refine lv_iload_n S.1 S.2.1 dX9_oldestCopy_23 rfl (lv_at hl 3 rfl) ?_
        refine mcT S K hs hl.1 hf (fun _ hX => metX9_slotAt _ _ _ _ _ _ _ _ _ hX) (cwX9_40 S.2.2.2.2 ⟨Nat.le_of_ble_eq_true rfl, Nat.le_of_ble_eq_true rfl⟩) rfl dX9_oldestCopy_24 rfl (Nat.le_of_ble_eq_true rfl) ⟨Nat.le_refl _, Nat.le_refl _⟩ (fun x3 H locs hs hf => ?_)
        refine lv_iconst S.1 S.2.1 dX9_oldestCopy_27 k_iconst_3 ?_
        refine lv_iadd S.1 S.2.1 dX9_oldestCopy_28 ?_
        refine mld0 S K hs hf dX9_oldestCopy_29 (fun x4 hf => ?_)
        refine lv_aload_n S.1 S.2.1 dX9_oldestCopy_30 rfl (lv_at hl 0 rfl) ?_
        refine mg7 S K hs dX9_oldestCopy_31 ?_
        refine lv_iload_n S.1 S.2.1 dX9_oldestCopy_34 rfl (lv_at hl 2 rfl) ?_
        refine lv_iconst S.1 S.2.1 dX9_oldestCopy_35 k_iconst_3 ?_
        refine lv_iadd S.1 S.2.1 dX9_oldestCopy_36 ?_
        refine mld0 S K hs hf dX9_oldestCopy_37 (fun x5 hf => ?_)
        refine z_icmp_ge (tgt := 49) S hf dX9_oldestCopy_38 (by decide) (fun hf => ?_) (fun hf => ?_)
        · refine lv_iload_n S.1 S.2.1 dX9_oldestCopy_49 rfl (lv_at hl 2 rfl) ?_
          refine lv_istore_n (lv' := [(2, .int y2), (0, .ref h), (1, .int y1), (3, .int y3)]) S.1 S.2.1 dX9_oldestCopy_50 rfl hl (by decide) rfl (fun ls hl => ?_)
          refine lv_iinc (v := y3 + nI 1) (lv' := [(3, .int (y3 + nI 1)), (2, .int y2), (0, .ref h), (1, .int y1)]) S.1 S.2.1 dX9_oldestCopy_51 hl (k := 3) rfl (by rw [k_iconst_1]) (by decide) rfl (fun ls hl => ?_)
          refine lv_goto (tgt := 8) S.1 S.2.1 dX9_oldestCopy_54 (by decide) ?_
          exact ih _ _ _ hf _ _ _ (lv_sub hl [2, 3, 1, 0] rfl) hs
        · refine lv_iload_n S.1 S.2.1 dX9_oldestCopy_41 rfl (lv_at hl 1 rfl) ?_
          refine lv_iload_n S.1 S.2.1 dX9_oldestCopy_42 rfl (lv_at hl 3 rfl) ?_
          refine mcT S K hs hl.1 hf (fun _ hX => metX9_slotAt _ _ _ _ _ _ _ _ _ hX) (cwX9_40 S.2.2.2.2 ⟨Nat.le_of_ble_eq_true rfl, Nat.le_of_ble_eq_true rfl⟩) rfl dX9_oldestCopy_43 rfl (Nat.le_of_ble_eq_true rfl) ⟨Nat.le_refl _, Nat.le_refl _⟩ (fun x6 H locs hs hf => ?_)
          refine lv_goto (tgt := 50) S.1 S.2.1 dX9_oldestCopy_46 (by decide) ?_
          refine lv_istore_n (lv' := [(2, .int x6), (0, .ref h), (1, .int y1), (3, .int y3)]) S.1 S.2.1 dX9_oldestCopy_50 rfl hl (by decide) rfl (fun ls hl => ?_)
          refine lv_iinc (v := y3 + nI 1) (lv' := [(3, .int (y3 + nI 1)), (2, .int x6), (0, .ref h), (1, .int y1)]) S.1 S.2.1 dX9_oldestCopy_51 hl (k := 3) rfl (by rw [k_iconst_1]) (by decide) rfl (fun ls hl => ?_)
          refine lv_goto (tgt := 8) S.1 S.2.1 dX9_oldestCopy_54 (by decide) ?_
          exact ih _ _ _ hf _ _ _ (lv_sub hl [2, 3, 1, 0] rfl) hs
  unfold fX9_oldestCopy at hf
  refine lv_iload_n S.1 S.2.1 dX9_oldestCopy_0 rfl (lv_at hl 1 rfl) ?_
  refine lv_iconst S.1 S.2.1 dX9_oldestCopy_1 k_iconst_0 ?_
  refine mcT S K hs hl.1 hf (fun _ hX => metX9_slotAt _ _ _ _ _ _ _ _ _ hX) (cwX9_40 S.2.2.2.2 ⟨Nat.le_of_ble_eq_true rfl, Nat.le_of_ble_eq_true rfl⟩) rfl dX9_oldestCopy_2 rfl (Nat.le_of_ble_eq_true rfl) ⟨Nat.le_refl _, Nat.le_refl _⟩ (fun x1 H locs hs hf => ?_)
  refine lv_istore_n (lv' := [(2, .int x1), (0, .ref h), (1, .int a0)]) S.1 S.2.1 dX9_oldestCopy_5 rfl hl (by decide) rfl (fun ls hl => ?_)
  refine lv_iconst S.1 S.2.1 dX9_oldestCopy_6 k_iconst_1 ?_
  refine lv_istore_n (lv' := [(3, .int (nI 1)), (2, .int x1), (0, .ref h), (1, .int a0)]) S.1 S.2.1 dX9_oldestCopy_7 rfl hl (by decide) rfl (fun ls hl => ?_)
  refine L8 _ (fun x7 hf H locs ls hl hs => ?_) _ _ _ _ hf _ _ _ (lv_sub hl [2, 3, 1, 0] rfl) hs
  refine lv_iload_n S.1 S.2.1 dX9_oldestCopy_57 rfl (lv_at hl 1 rfl) ?_
  exact mrP S K hr hk hs (hf.trans (congrArg some hres)) dX9_oldestCopy_58
theorem metX9_oldestCopy (l : Launch) (D : va_G) (cI : ClassId) (h : Nat) (ad : Nat → Nat) (a0 : Int32) (σ : zSt) (r0 : Int32) (hf : fX9_oldestCopy a0 σ = some r0) : Met l yX9_oldestCopy (Cond.code yX9_oldestCopy cX9_oldestCopy 4 (some .int) :: WA) rmX9_oldestCopy (mPc D cI h ad σ [.ref h, .int a0]) ((mQi D cI h ad r0 σ)) 0 0 (mA h ad) :=
  mMet (by decide) (Nat.le_of_ble_eq_true rfl) (fun p e s m args below meth c H locs ls S K hr hk hl hs => bdX9_oldestCopy S K hr hk _ _ _ hf hl hs)
set_option maxHeartbeats 4000000 in
set_option maxRecDepth 100000 in
theorem bdX9_throwAway {p : Program} {l : Launch} {e : Env} {s : State} {m : MethodId} {args : Array Value} {below : List Frame} {meth : Method} {c : Code} {H : Heap} {locs : List Loc} {ls : Array Slot} {D : va_G} {cI : ClassId} {h : Nat} {ad : Nat → Nat} (S : CallFix p m c cX9_throwAway 5 s args WA RX9) (K : va_K D vwCl [(cI, .int)] s) (hr : meth.sig.returnType = (some .int)) (hk : meth.locks = false) (a0 : Int32) (a1 : Int32) (σ : zSt) (r0 : Int32) (σ0 : zSt) (hf : fX9_throwAway a0 a1 σ = some (r0, σ0)) (hl : lv_has ls 5 [(0, .ref h), (1, .int a0), (2, .int a1)]) (hs : mS D cI h ad s σ H locs) : W p l e rmX9_throwAway s m args below meth c H locs 0 0 (MQ below (mQi D cI h ad r0 σ0) args s 0 0 (mA h ad)) (F0 m 0 ls []) := by
  obtain ⟨res, hres⟩ : ∃ q, q = (r0, σ0) := ⟨_, rfl⟩
  rw [← hres] at hf
  have J96 : ∀ (y2 : Int32) (y3 : Int32) (σ : zSt), fX9_throwAway_j96 y2 y3 σ = some res → mGo p l e rmX9_throwAway s m args below meth c (MQ below (mQi D cI h ad r0 σ0) args s 0 0 (mA h ad)) D cI h ad 5 σ [(0, .ref h), (2, .int y2), (3, .int y3)] 96 [] := by
    intro y2 y3 σ hf H locs ls hl hs
    unfold fX9_throwAway_j96 at hf
    refine lv_aload_n S.1 S.2.1 dX9_throwAway_96 rfl (lv_at hl 0 rfl) ?_
    refine mg7 S K hs dX9_throwAway_97 ?_
    refine lv_iload_n S.1 S.2.1 dX9_throwAway_100 rfl (lv_at hl 1 rfl) ?_
    refine lv_iconst S.1 S.2.1 dX9_throwAway_101 k_iconst_m1 ?_
    refine mst0 S K hs hf dX9_throwAway_102 (fun σ4 H locs hs hf => ?_)
    refine lv_iload_n S.1 S.2.1 dX9_throwAway_103 rfl (lv_at hl 2 rfl) ?_
    refine z_if_eq (tgt := 111) S hf dX9_throwAway_104 (by decide) (fun hf => ?_) (fun hf => ?_)
    · refine lv_iconst S.1 S.2.1 dX9_throwAway_111 k_iconst_0 ?_
      exact mrI S K hr hk hs (hf.trans (congrArg some hres)) dX9_throwAway_112
    · refine lv_iconst S.1 S.2.1 dX9_throwAway_107 k_iconst_1 ?_
      refine lv_goto (tgt := 112) S.1 S.2.1 dX9_throwAway_108 (by decide) ?_
      exact mrI S K hr hk hs (hf.trans (congrArg some hres)) dX9_throwAway_112
  have J78 : ∀ (y1 : Int32) (y2 : Int32) (y3 : Int32) (y4 : Int32) (w0 : Int32) (w1 : Int32) (σ : zSt), fX9_throwAway_j78 y1 y2 y3 y4 w0 w1 σ = some res → mGo p l e rmX9_throwAway s m args below meth c (MQ below (mQi D cI h ad r0 σ0) args s 0 0 (mA h ad)) D cI h ad 5 σ [(0, .ref h), (1, .int y1), (2, .int y2), (3, .int y3), (4, .int y4)] 78 [.int w0, .int w1, .ref (ad 0)] := by
    intro y1 y2 y3 y4 w0 w1 σ hf H locs ls hl hs
    unfold fX9_throwAway_j78 at hf
    refine mst0 S K hs hf dX9_throwAway_78 (fun σ7 H locs hs hf => ?_)
    refine lv_aload_n S.1 S.2.1 dX9_throwAway_79 rfl (lv_at hl 0 rfl) ?_
    refine mg7 S K hs dX9_throwAway_80 ?_
    refine lv_iload S.1 S.2.1 dX9_throwAway_83 (lv_at hl 4 rfl) ?_
    refine lv_iconst S.1 S.2.1 dX9_throwAway_85 k_iconst_2 ?_
    refine lv_iadd S.1 S.2.1 dX9_throwAway_86 ?_
    refine lv_dup2_11 S.1 S.2.1 dX9_throwAway_87 rfl rfl ?_
    refine mld0 S K hs hf dX9_throwAway_88 (fun x8 hf => ?_)
    refine lv_iconst S.1 S.2.1 dX9_throwAway_89 k_iconst_1 ?_
    refine lv_iload_n S.1 S.2.1 dX9_throwAway_90 rfl (lv_at hl 1 rfl) ?_
    refine lv_ishl S.1 S.2.1 dX9_throwAway_91 ?_
    refine lv_iconst S.1 S.2.1 dX9_throwAway_92 k_iconst_m1 ?_
    refine lv_ixor S.1 S.2.1 dX9_throwAway_93 ?_
    refine lv_iand S.1 S.2.1 dX9_throwAway_94 ?_
    refine mst0 S K hs hf dX9_throwAway_95 (fun σ9 H locs hs hf => ?_)
    exact J96 _ _ _ hf _ _ _ (lv_sub hl [0, 2, 3] rfl) hs
  have J27 : ∀ (y1 : Int32) (y2 : Int32) (y3 : Int32) (σ : zSt), fX9_throwAway_j27 y1 y2 y3 σ = some res → mGo p l e rmX9_throwAway s m args below meth c (MQ below (mQi D cI h ad r0 σ0) args s 0 0 (mA h ad)) D cI h ad 5 σ [(0, .ref h), (1, .int y1), (2, .int y2), (3, .int y3)] 27 [] := by
    intro y1 y2 y3 σ hf H locs ls hl hs
    unfold fX9_throwAway_j27 at hf
    refine lv_aload_n S.1 S.2.1 dX9_throwAway_27 rfl (lv_at hl 0 rfl) ?_
    refine lv_aload_n S.1 S.2.1 dX9_throwAway_28 rfl (lv_at hl 0 rfl) ?_
    refine mg7 S K hs dX9_throwAway_29 ?_
    refine lv_iload_n S.1 S.2.1 dX9_throwAway_32 rfl (lv_at hl 2 rfl) ?_
    refine mld0 S K hs hf dX9_throwAway_33 (fun x2 hf => ?_)
    refine mcP S K hs hl.1 hf (fun _ hX => metX9_pageOf _ _ _ _ _ _ _ _ hX) (cwX9_48 S.2.2.2.2 ⟨Nat.le_of_ble_eq_true rfl, Nat.le_of_ble_eq_true rfl⟩) rfl dX9_throwAway_34 rfl (Nat.le_of_ble_eq_true rfl) ⟨Nat.le_refl _, Nat.le_refl _⟩ (fun x3 H locs hs hf => ?_)
    refine lv_istore (lv' := [(4, .int x3), (0, .ref h), (1, .int y1), (2, .int y2), (3, .int y3)]) S.1 S.2.1 dX9_throwAway_37 hl (by decide) rfl (fun ls hl => ?_)
    refine lv_iload S.1 S.2.1 dX9_throwAway_39 (lv_at hl 0 rfl) ?_
    refine z_if_lt (tgt := 96) S hf dX9_throwAway_41 (by decide) (fun hf => ?_) (fun hf => ?_)
    · exact J96 _ _ _ hf _ _ _ (lv_sub hl [1, 3, 4] rfl) hs
    · refine lv_aload_n S.1 S.2.1 dX9_throwAway_44 rfl (lv_at hl 1 rfl) ?_
      refine mg7 S K hs dX9_throwAway_45 ?_
      refine lv_iload S.1 S.2.1 dX9_throwAway_48 (lv_at hl 0 rfl) ?_
      refine lv_iconst S.1 S.2.1 dX9_throwAway_50 k_iconst_1 ?_
      refine lv_iadd S.1 S.2.1 dX9_throwAway_51 ?_
      refine lv_aload_n S.1 S.2.1 dX9_throwAway_52 rfl (lv_at hl 1 rfl) ?_
      refine mg7 S K hs dX9_throwAway_53 ?_
      refine lv_iload S.1 S.2.1 dX9_throwAway_56 (lv_at hl 0 rfl) ?_
      refine lv_iconst S.1 S.2.1 dX9_throwAway_58 k_iconst_1 ?_
      refine lv_iadd S.1 S.2.1 dX9_throwAway_59 ?_
      refine mld0 S K hs hf dX9_throwAway_60 (fun x5 hf => ?_)
      refine lv_iload_n S.1 S.2.1 dX9_throwAway_61 rfl (lv_at hl 2 rfl) ?_
      refine z_icmp_ne (tgt := 69) S hf dX9_throwAway_62 (by decide) (fun hf => ?_) (fun hf => ?_)
      · refine lv_aload_n S.1 S.2.1 dX9_throwAway_69 rfl (lv_at hl 1 rfl) ?_
        refine mg7 S K hs dX9_throwAway_70 ?_
        refine lv_iload S.1 S.2.1 dX9_throwAway_73 (lv_at hl 0 rfl) ?_
        refine lv_iconst S.1 S.2.1 dX9_throwAway_75 k_iconst_1 ?_
        refine lv_iadd S.1 S.2.1 dX9_throwAway_76 ?_
        refine mld0 S K hs hf dX9_throwAway_77 (fun x6 hf => ?_)
        exact J78 _ _ _ _ _ _ _ hf _ _ _ (lv_sub hl [1, 2, 3, 4, 0] rfl) hs
      · refine lv_iconst S.1 S.2.1 dX9_throwAway_65 k_iconst_m1 ?_
        refine lv_goto (tgt := 78) S.1 S.2.1 dX9_throwAway_66 (by decide) ?_
        exact J78 _ _ _ _ _ _ _ hf _ _ _ (lv_sub hl [1, 2, 3, 4, 0] rfl) hs
  have J17 : ∀ (y1 : Int32) (y2 : Int32) (w0 : Int32) (σ : zSt), fX9_throwAway_j17 y1 y2 w0 σ = some res → mGo p l e rmX9_throwAway s m args below meth c (MQ below (mQi D cI h ad r0 σ0) args s 0 0 (mA h ad)) D cI h ad 5 σ [(0, .ref h), (1, .int y1), (2, .int y2)] 17 [.int w0] := by
    intro y1 y2 w0 σ hf H locs ls hl hs
    unfold fX9_throwAway_j17 at hf
    refine lv_istore_n (lv' := [(3, .int w0), (0, .ref h), (1, .int y1), (2, .int y2)]) S.1 S.2.1 dX9_throwAway_17 rfl hl (by decide) rfl (fun ls hl => ?_)
    refine lv_iload_n S.1 S.2.1 dX9_throwAway_18 rfl (lv_at hl 0 rfl) ?_
    refine z_if_eq (tgt := 27) S hf dX9_throwAway_19 (by decide) (fun hf => ?_) (fun hf => ?_)
    · exact J27 _ _ _ _ hf _ _ _ (lv_sub hl [1, 2, 3, 0] rfl) hs
    · refine lv_aload_n S.1 S.2.1 dX9_throwAway_22 rfl (lv_at hl 1 rfl) ?_
      refine lv_iload_n S.1 S.2.1 dX9_throwAway_23 rfl (lv_at hl 3 rfl) ?_
      refine mcU S K hs hl.1 hf (fun _ hX => metX9_toMemory _ _ _ _ _ _ _ _ hX) (cwX9_44 S.2.2.2.2 ⟨Nat.le_of_ble_eq_true rfl, Nat.le_of_ble_eq_true rfl⟩) rfl dX9_throwAway_24 rfl (Nat.le_of_ble_eq_true rfl) ⟨Nat.le_refl _, Nat.le_refl _⟩ (fun σ10 H locs hs hf => ?_)
      exact J27 _ _ _ _ hf _ _ _ (lv_sub hl [1, 2, 3, 0] rfl) hs
  unfold fX9_throwAway at hf
  refine lv_aload_n S.1 S.2.1 dX9_throwAway_0 rfl (lv_at hl 0 rfl) ?_
  refine mg7 S K hs dX9_throwAway_1 ?_
  refine lv_iload_n S.1 S.2.1 dX9_throwAway_4 rfl (lv_at hl 2 rfl) ?_
  refine lv_iconst S.1 S.2.1 dX9_throwAway_5 k_iconst_1 ?_
  refine lv_iadd S.1 S.2.1 dX9_throwAway_6 ?_
  refine mld0 S K hs hf dX9_throwAway_7 (fun x1 hf => ?_)
  refine lv_iconst S.1 S.2.1 dX9_throwAway_8 k_iconst_2 ?_
  refine z_icmp_ne (tgt := 16) S hf dX9_throwAway_9 (by decide) (fun hf => ?_) (fun hf => ?_)
  · refine lv_iconst S.1 S.2.1 dX9_throwAway_16 k_iconst_0 ?_
    exact J17 _ _ _ _ hf _ _ _ (lv_sub hl [0, 1, 2] rfl) hs
  · refine lv_iconst S.1 S.2.1 dX9_throwAway_12 k_iconst_1 ?_
    refine lv_goto (tgt := 17) S.1 S.2.1 dX9_throwAway_13 (by decide) ?_
    exact J17 _ _ _ _ hf _ _ _ (lv_sub hl [0, 1, 2] rfl) hs
theorem metX9_throwAway (l : Launch) (D : va_G) (cI : ClassId) (h : Nat) (ad : Nat → Nat) (a0 : Int32) (a1 : Int32) (σ : zSt) (r0 : Int32) (σ0 : zSt) (hf : fX9_throwAway a0 a1 σ = some (r0, σ0)) : Met l yX9_throwAway (Cond.code yX9_throwAway cX9_throwAway 5 (some .int) :: WA) rmX9_throwAway (mPc D cI h ad σ [.ref h, .int a0, .int a1]) ((mQi D cI h ad r0 σ0)) 0 0 (mA h ad) :=
  mMet (by decide) (Nat.le_of_ble_eq_true rfl) (fun p e s m args below meth c H locs ls S K hr hk hl hs => bdX9_throwAway S K hr hk _ _ _ _ _ hf hl hs)
set_option maxHeartbeats 4000000 in
set_option maxRecDepth 100000 in
theorem bdX9_misses {p : Program} {l : Launch} {e : Env} {s : State} {m : MethodId} {args : Array Value} {below : List Frame} {meth : Method} {c : Code} {H : Heap} {locs : List Loc} {ls : Array Slot} {D : va_G} {cI : ClassId} {h : Nat} {ad : Nat → Nat} (S : CallFix p m c cX9_misses 8 s args WA RX9) (K : va_K D vwCl [(cI, .int)] s) (hr : meth.sig.returnType = (some .int)) (hk : meth.locks = false) (a0 : Int32) (a1 : Int32) (a2 : Int32) (σ : zSt) (r0 : Int32) (σ0 : zSt) (hf : fX9_misses a0 a1 a2 σ = some (r0, σ0)) (hl : lv_has ls 8 [(0, .ref h), (1, .int a0), (2, .int a1), (3, .int a2)]) (hs : mS D cI h ad s σ H locs) : W p l e rmX9_misses s m args below meth c H locs 0 0 (MQ below (mQi D cI h ad r0 σ0) args s 0 0 (mA h ad)) (F0 m 0 ls []) := by
  obtain ⟨res, hres⟩ : ∃ q, q = (r0, σ0) := ⟨_, rfl⟩
  rw [← hres] at hf
  have J165 : ∀ (y5 : Int32) (y7 : Int32) (w0 : Int32) (w1 : Int32) (σ : zSt), fX9_misses_j165 y5 y7 w0 w1 σ = some res → mGo p l e rmX9_misses s m args below meth c (MQ below (mQi D cI h ad r0 σ0) args s 0 0 (mA h ad)) D cI h ad 8 σ [(0, .ref h), (5, .int y5), (7, .int y7)] 165 [.int w0, .int w1, .ref (ad 0)] := by
    intro y5 y7 w0 w1 σ hf H locs ls hl hs
    unfold fX9_misses_j165 at hf
    refine mst0 S K hs hf dX9_misses_165 (fun σ13 H locs hs hf => ?_)
    refine lv_aload_n S.1 S.2.1 dX9_misses_166 rfl (lv_at hl 0 rfl) ?_
    refine mg7 S K hs dX9_misses_167 ?_
    refine lv_iload S.1 S.2.1 dX9_misses_170 (lv_at hl 2 rfl) ?_
    refine lv_iconst S.1 S.2.1 dX9_misses_172 k_iconst_3 ?_
    refine lv_iadd S.1 S.2.1 dX9_misses_173 ?_
    refine lv_aload_n S.1 S.2.1 dX9_misses_174 rfl (lv_at hl 0 rfl) ?_
    refine mg7 S K hs dX9_misses_175 ?_
    refine lv_bipush S.1 S.2.1 dX9_misses_178 k_bipush_13 ?_
    refine mld0 S K hs hf dX9_misses_180 (fun x14 hf => ?_)
    refine lv_iconst S.1 S.2.1 dX9_misses_181 k_iconst_1 ?_
    refine lv_iadd S.1 S.2.1 dX9_misses_182 ?_
    refine mst0 S K hs hf dX9_misses_183 (fun σ15 H locs hs hf => ?_)
    refine lv_iload S.1 S.2.1 dX9_misses_184 (lv_at hl 1 rfl) ?_
    exact mrI S K hr hk hs (hf.trans (congrArg some hres)) dX9_misses_186
  have J142 : ∀ (y2 : Int32) (y4 : Int32) (y5 : Int32) (y7 : Int32) (w0 : Int32) (w1 : Int32) (σ : zSt), fX9_misses_j142 y2 y4 y5 y7 w0 w1 σ = some res → mGo p l e rmX9_misses s m args below meth c (MQ below (mQi D cI h ad r0 σ0) args s 0 0 (mA h ad)) D cI h ad 8 σ [(0, .ref h), (2, .int y2), (4, .int y4), (5, .int y5), (7, .int y7)] 142 [.int w0, .int w1, .ref (ad 0)] := by
    intro y2 y4 y5 y7 w0 w1 σ hf H locs ls hl hs
    unfold fX9_misses_j142 at hf
    refine mst0 S K hs hf dX9_misses_142 (fun σ11 H locs hs hf => ?_)
    refine lv_aload_n S.1 S.2.1 dX9_misses_143 rfl (lv_at hl 0 rfl) ?_
    refine mg7 S K hs dX9_misses_144 ?_
    refine lv_iload S.1 S.2.1 dX9_misses_147 (lv_at hl 4 rfl) ?_
    refine lv_iconst S.1 S.2.1 dX9_misses_149 k_iconst_2 ?_
    refine lv_iadd S.1 S.2.1 dX9_misses_150 ?_
    refine lv_iload S.1 S.2.1 dX9_misses_151 (lv_at hl 2 rfl) ?_
    refine z_if_eq (tgt := 160) S hf dX9_misses_153 (by decide) (fun hf => ?_) (fun hf => ?_)
    · refine lv_aload_n S.1 S.2.1 dX9_misses_160 rfl (lv_at hl 0 rfl) ?_
      refine lv_iload_n S.1 S.2.1 dX9_misses_161 rfl (lv_at hl 1 rfl) ?_
      refine mcP S K hs hl.1 hf (fun _ hX => metX9_sharersOf _ _ _ _ _ _ _ _ hX) (cwX9_65 S.2.2.2.2 ⟨Nat.le_of_ble_eq_true rfl, Nat.le_of_ble_eq_true rfl⟩) rfl dX9_misses_162 rfl (Nat.le_of_ble_eq_true rfl) ⟨Nat.le_refl _, Nat.le_refl _⟩ (fun x12 H locs hs hf => ?_)
      exact J165 _ _ _ _ _ hf _ _ _ (lv_sub hl [0, 3, 4] rfl) hs
    · refine lv_iconst S.1 S.2.1 dX9_misses_156 k_iconst_0 ?_
      refine lv_goto (tgt := 165) S.1 S.2.1 dX9_misses_157 (by decide) ?_
      exact J165 _ _ _ _ _ hf _ _ _ (lv_sub hl [0, 3, 4] rfl) hs
  have J98 : ∀ (y1 : Int32) (y2 : Int32) (y4 : Int32) (y5 : Int32) (y6 : Int32) (w0 : Int32) (w1 : Int32) (σ : zSt), fX9_misses_j98 y1 y2 y4 y5 y6 w0 w1 σ = some res → mGo p l e rmX9_misses s m args below meth c (MQ below (mQi D cI h ad r0 σ0) args s 0 0 (mA h ad)) D cI h ad 8 σ [(0, .ref h), (1, .int y1), (2, .int y2), (4, .int y4), (5, .int y5), (6, .int y6)] 98 [.int w0, .int w1, .ref (ad 0)] := by
    intro y1 y2 y4 y5 y6 w0 w1 σ hf H locs ls hl hs
    unfold fX9_misses_j98 at hf
    refine mst0 S K hs hf dX9_misses_98 (fun σ7 H locs hs hf => ?_)
    refine lv_aload_n S.1 S.2.1 dX9_misses_99 rfl (lv_at hl 0 rfl) ?_
    refine mg7 S K hs dX9_misses_100 ?_
    refine lv_iload S.1 S.2.1 dX9_misses_103 (lv_at hl 5 rfl) ?_
    refine lv_iconst S.1 S.2.1 dX9_misses_105 k_iconst_2 ?_
    refine lv_iadd S.1 S.2.1 dX9_misses_106 ?_
    refine lv_aload_n S.1 S.2.1 dX9_misses_107 rfl (lv_at hl 0 rfl) ?_
    refine mg7 S K hs dX9_misses_108 ?_
    refine lv_bipush S.1 S.2.1 dX9_misses_111 k_bipush_14 ?_
    refine lv_iload_n S.1 S.2.1 dX9_misses_113 rfl (lv_at hl 2 rfl) ?_
    refine lv_iadd S.1 S.2.1 dX9_misses_114 ?_
    refine mld0 S K hs hf dX9_misses_115 (fun x8 hf => ?_)
    refine mst0 S K hs hf dX9_misses_116 (fun σ9 H locs hs hf => ?_)
    refine lv_aload_n S.1 S.2.1 dX9_misses_117 rfl (lv_at hl 0 rfl) ?_
    refine lv_iload_n S.1 S.2.1 dX9_misses_118 rfl (lv_at hl 2 rfl) ?_
    refine mcP S K hs hl.1 hf (fun _ hX => metX9_pageOf _ _ _ _ _ _ _ _ hX) (cwX9_48 S.2.2.2.2 ⟨Nat.le_of_ble_eq_true rfl, Nat.le_of_ble_eq_true rfl⟩) rfl dX9_misses_119 rfl (Nat.le_of_ble_eq_true rfl) ⟨Nat.le_refl _, Nat.le_refl _⟩ (fun x10 H locs hs hf => ?_)
    refine lv_istore (lv' := [(7, .int x10), (0, .ref h), (1, .int y1), (2, .int y2), (4, .int y4), (5, .int y5), (6, .int y6)]) S.1 S.2.1 dX9_misses_122 hl (by decide) rfl (fun ls hl => ?_)
    refine lv_aload_n S.1 S.2.1 dX9_misses_124 rfl (lv_at hl 1 rfl) ?_
    refine mg7 S K hs dX9_misses_125 ?_
    refine lv_iload S.1 S.2.1 dX9_misses_128 (lv_at hl 0 rfl) ?_
    refine lv_iconst S.1 S.2.1 dX9_misses_130 k_iconst_1 ?_
    refine lv_iadd S.1 S.2.1 dX9_misses_131 ?_
    refine lv_iload S.1 S.2.1 dX9_misses_132 (lv_at hl 4 rfl) ?_
    refine z_if_eq (tgt := 141) S hf dX9_misses_134 (by decide) (fun hf => ?_) (fun hf => ?_)
    · refine lv_iconst S.1 S.2.1 dX9_misses_141 k_iconst_m1 ?_
      exact J142 _ _ _ _ _ _ _ hf _ _ _ (lv_sub hl [1, 3, 4, 5, 0] rfl) hs
    · refine lv_iload_n S.1 S.2.1 dX9_misses_137 rfl (lv_at hl 2 rfl) ?_
      refine lv_goto (tgt := 142) S.1 S.2.1 dX9_misses_138 (by decide) ?_
      exact J142 _ _ _ _ _ _ _ hf _ _ _ (lv_sub hl [1, 3, 4, 5, 0] rfl) hs
  have J72 : ∀ (y1 : Int32) (y2 : Int32) (y4 : Int32) (y5 : Int32) (y6 : Int32) (σ : zSt), fX9_misses_j72 y1 y2 y4 y5 y6 σ = some res → mGo p l e rmX9_misses s m args below meth c (MQ below (mQi D cI h ad r0 σ0) args s 0 0 (mA h ad)) D cI h ad 8 σ [(0, .ref h), (1, .int y1), (2, .int y2), (4, .int y4), (5, .int y5), (6, .int y6)] 72 [] := by
    intro y1 y2 y4 y5 y6 σ hf H locs ls hl hs
    unfold fX9_misses_j72 at hf
    refine lv_aload_n S.1 S.2.1 dX9_misses_72 rfl (lv_at hl 0 rfl) ?_
    refine mg7 S K hs dX9_misses_73 ?_
    refine lv_iload S.1 S.2.1 dX9_misses_76 (lv_at hl 5 rfl) ?_
    refine lv_iload_n S.1 S.2.1 dX9_misses_78 rfl (lv_at hl 2 rfl) ?_
    refine mst0 S K hs hf dX9_misses_79 (fun σ6 H locs hs hf => ?_)
    refine lv_aload_n S.1 S.2.1 dX9_misses_80 rfl (lv_at hl 0 rfl) ?_
    refine mg7 S K hs dX9_misses_81 ?_
    refine lv_iload S.1 S.2.1 dX9_misses_84 (lv_at hl 5 rfl) ?_
    refine lv_iconst S.1 S.2.1 dX9_misses_86 k_iconst_1 ?_
    refine lv_iadd S.1 S.2.1 dX9_misses_87 ?_
    refine lv_iload S.1 S.2.1 dX9_misses_88 (lv_at hl 3 rfl) ?_
    refine z_if_eq (tgt := 97) S hf dX9_misses_90 (by decide) (fun hf => ?_) (fun hf => ?_)
    · refine lv_iconst S.1 S.2.1 dX9_misses_97 k_iconst_1 ?_
      exact J98 _ _ _ _ _ _ _ _ hf _ _ _ (lv_sub hl [0, 1, 2, 3, 4, 5] rfl) hs
    · refine lv_iconst S.1 S.2.1 dX9_misses_93 k_iconst_2 ?_
      refine lv_goto (tgt := 98) S.1 S.2.1 dX9_misses_94 (by decide) ?_
      exact J98 _ _ _ _ _ _ _ _ hf _ _ _ (lv_sub hl [0, 1, 2, 3, 4, 5] rfl) hs
  have J48 : ∀ (y1 : Int32) (y2 : Int32) (y4 : Int32) (y5 : Int32) (y6 : Int32) (σ : zSt), fX9_misses_j48 y1 y2 y4 y5 y6 σ = some res → mGo p l e rmX9_misses s m args below meth c (MQ below (mQi D cI h ad r0 σ0) args s 0 0 (mA h ad)) D cI h ad 8 σ [(0, .ref h), (1, .int y1), (2, .int y2), (4, .int y4), (5, .int y5), (6, .int y6)] 48 [] := by
    intro y1 y2 y4 y5 y6 σ hf H locs ls hl hs
    unfold fX9_misses_j48 at hf
    refine lv_iload S.1 S.2.1 dX9_misses_48 (lv_at hl 5 rfl) ?_
    refine z_if_ge (tgt := 72) S hf dX9_misses_50 (by decide) (fun hf => ?_) (fun hf => ?_)
    · exact J72 _ _ _ _ _ _ hf _ _ _ (lv_sub hl [0, 1, 2, 3, 4, 5] rfl) hs
    · refine lv_aload_n S.1 S.2.1 dX9_misses_53 rfl (lv_at hl 0 rfl) ?_
      refine lv_iload_n S.1 S.2.1 dX9_misses_54 rfl (lv_at hl 1 rfl) ?_
      refine mcP S K hs hl.1 hf (fun _ hX => metX9_oldestCopy _ _ _ _ _ _ _ _ hX) (cwX9_75 S.2.2.2.2 ⟨Nat.le_of_ble_eq_true rfl, Nat.le_of_ble_eq_true rfl⟩) rfl dX9_misses_55 rfl (Nat.le_of_ble_eq_true rfl) ⟨Nat.le_refl _, Nat.le_refl _⟩ (fun x16 H locs hs hf => ?_)
      refine lv_istore (lv' := [(6, .int x16), (0, .ref h), (1, .int y1), (2, .int y2), (4, .int y4), (5, .int y5)]) S.1 S.2.1 dX9_misses_58 hl (by decide) rfl (fun ls hl => ?_)
      refine lv_iload S.1 S.2.1 dX9_misses_60 (lv_at hl 5 rfl) ?_
      refine lv_aload_n S.1 S.2.1 dX9_misses_62 rfl (lv_at hl 1 rfl) ?_
      refine lv_iload_n S.1 S.2.1 dX9_misses_63 rfl (lv_at hl 2 rfl) ?_
      refine lv_iload S.1 S.2.1 dX9_misses_64 (lv_at hl 0 rfl) ?_
      refine mcV S K hs hl.1 hf (fun _ _ hX => metX9_throwAway _ _ _ _ _ _ _ _ _ _ hX) (cwX9_78 S.2.2.2.2 ⟨Nat.le_of_ble_eq_true rfl, Nat.le_of_ble_eq_true rfl⟩) rfl dX9_misses_66 rfl (Nat.le_of_ble_eq_true rfl) ⟨Nat.le_refl _, Nat.le_refl _⟩ (fun x17 σ18 H locs hs hf => ?_)
      refine lv_iadd S.1 S.2.1 dX9_misses_69 ?_
      refine lv_istore (lv' := [(5, .int (y5 + x17)), (6, .int x16), (0, .ref h), (1, .int y1), (2, .int y2), (4, .int y4)]) S.1 S.2.1 dX9_misses_70 hl (by decide) rfl (fun ls hl => ?_)
      exact J72 _ _ _ _ _ _ hf _ _ _ (lv_sub hl [2, 3, 4, 5, 0, 1] rfl) hs
  have J9 : ∀ (y1 : Int32) (y2 : Int32) (w0 : Int32) (σ : zSt), fX9_misses_j9 y1 y2 w0 σ = some res → mGo p l e rmX9_misses s m args below meth c (MQ below (mQi D cI h ad r0 σ0) args s 0 0 (mA h ad)) D cI h ad 8 σ [(0, .ref h), (1, .int y1), (2, .int y2)] 9 [.int w0] := by
    intro y1 y2 w0 σ hf H locs ls hl hs
    unfold fX9_misses_j9 at hf
    refine lv_istore (lv' := [(4, .int w0), (0, .ref h), (1, .int y1), (2, .int y2)]) S.1 S.2.1 dX9_misses_9 hl (by decide) rfl (fun ls hl => ?_)
    refine lv_aload_n S.1 S.2.1 dX9_misses_11 rfl (lv_at hl 1 rfl) ?_
    refine lv_iload_n S.1 S.2.1 dX9_misses_12 rfl (lv_at hl 3 rfl) ?_
    refine mcV S K hs hl.1 hf (fun _ _ hX => metX9_opensPage _ _ _ _ _ _ _ _ _ hX) (cwX9_68 S.2.2.2.2 ⟨Nat.le_of_ble_eq_true rfl, Nat.le_of_ble_eq_true rfl⟩) rfl dX9_misses_13 rfl (Nat.le_of_ble_eq_true rfl) ⟨Nat.le_refl _, Nat.le_refl _⟩ (fun x1 σ2 H locs hs hf => ?_)
    refine lv_aload_n S.1 S.2.1 dX9_misses_16 rfl (lv_at hl 1 rfl) ?_
    refine lv_iload_n S.1 S.2.1 dX9_misses_17 rfl (lv_at hl 2 rfl) ?_
    refine lv_iload_n S.1 S.2.1 dX9_misses_18 rfl (lv_at hl 3 rfl) ?_
    refine lv_iload S.1 S.2.1 dX9_misses_19 (lv_at hl 0 rfl) ?_
    refine mcV S K hs hl.1 hf (fun _ _ hX => metX9_reachesOthers _ _ _ _ _ _ _ _ _ _ _ hX) (cwX9_71 S.2.2.2.2 ⟨Nat.le_of_ble_eq_true rfl, Nat.le_of_ble_eq_true rfl⟩) rfl dX9_misses_21 rfl (Nat.le_of_ble_eq_true rfl) ⟨Nat.le_refl _, Nat.le_refl _⟩ (fun x3 σ4 H locs hs hf => ?_)
    refine lv_iadd S.1 S.2.1 dX9_misses_24 ?_
    refine lv_istore (lv' := [(5, .int (x1 + x3)), (4, .int w0), (0, .ref h), (1, .int y1), (2, .int y2)]) S.1 S.2.1 dX9_misses_25 hl (by decide) rfl (fun ls hl => ?_)
    refine lv_aload_n S.1 S.2.1 dX9_misses_27 rfl (lv_at hl 2 rfl) ?_
    refine lv_iload_n S.1 S.2.1 dX9_misses_28 rfl (lv_at hl 3 rfl) ?_
    refine lv_iload_n S.1 S.2.1 dX9_misses_29 rfl (lv_at hl 4 rfl) ?_
    refine mcP S K hs hl.1 hf (fun _ hX => metX9_copyOf _ _ _ _ _ _ _ _ _ hX) (cwX9_52 S.2.2.2.2 ⟨Nat.le_of_ble_eq_true rfl, Nat.le_of_ble_eq_true rfl⟩) rfl dX9_misses_30 rfl (Nat.le_of_ble_eq_true rfl) ⟨Nat.le_refl _, Nat.le_refl _⟩ (fun x5 H locs hs hf => ?_)
    refine lv_istore (lv' := [(6, .int x5), (5, .int (x1 + x3)), (4, .int w0), (0, .ref h), (1, .int y1), (2, .int y2)]) S.1 S.2.1 dX9_misses_33 hl (by decide) rfl (fun ls hl => ?_)
    refine lv_iload S.1 S.2.1 dX9_misses_35 (lv_at hl 0 rfl) ?_
    refine z_if_ge (tgt := 48) S hf dX9_misses_37 (by decide) (fun hf => ?_) (fun hf => ?_)
    · exact J48 _ _ _ _ _ _ hf _ _ _ (lv_sub hl [3, 4, 5, 2, 1, 0] rfl) hs
    · refine lv_aload_n S.1 S.2.1 dX9_misses_40 rfl (lv_at hl 3 rfl) ?_
      refine lv_iload_n S.1 S.2.1 dX9_misses_41 rfl (lv_at hl 4 rfl) ?_
      refine lv_iconst S.1 S.2.1 dX9_misses_42 k_iconst_m1 ?_
      refine mcP S K hs hl.1 hf (fun _ hX => metX9_copyOf _ _ _ _ _ _ _ _ _ hX) (cwX9_52 S.2.2.2.2 ⟨Nat.le_of_ble_eq_true rfl, Nat.le_of_ble_eq_true rfl⟩) rfl dX9_misses_43 rfl (Nat.le_of_ble_eq_true rfl) ⟨Nat.le_refl _, Nat.le_refl _⟩ (fun x19 H locs hs hf => ?_)
      refine lv_istore (lv' := [(6, .int x19), (5, .int (x1 + x3)), (4, .int w0), (0, .ref h), (1, .int y1), (2, .int y2)]) S.1 S.2.1 dX9_misses_46 hl (by decide) rfl (fun ls hl => ?_)
      exact J48 _ _ _ _ _ _ hf _ _ _ (lv_sub hl [3, 4, 5, 2, 1, 0] rfl) hs
  unfold fX9_misses at hf
  refine lv_iload_n S.1 S.2.1 dX9_misses_0 rfl (lv_at hl 3 rfl) ?_
  refine z_if_lt (tgt := 8) S hf dX9_misses_1 (by decide) (fun hf => ?_) (fun hf => ?_)
  · refine lv_iconst S.1 S.2.1 dX9_misses_8 k_iconst_0 ?_
    exact J9 _ _ _ _ hf _ _ _ (lv_sub hl [0, 1, 2] rfl) hs
  · refine lv_iconst S.1 S.2.1 dX9_misses_4 k_iconst_1 ?_
    refine lv_goto (tgt := 9) S.1 S.2.1 dX9_misses_5 (by decide) ?_
    exact J9 _ _ _ _ hf _ _ _ (lv_sub hl [0, 1, 2] rfl) hs
theorem metX9_misses (l : Launch) (D : va_G) (cI : ClassId) (h : Nat) (ad : Nat → Nat) (a0 : Int32) (a1 : Int32) (a2 : Int32) (σ : zSt) (r0 : Int32) (σ0 : zSt) (hf : fX9_misses a0 a1 a2 σ = some (r0, σ0)) : Met l yX9_misses (Cond.code yX9_misses cX9_misses 8 (some .int) :: WA) rmX9_misses (mPc D cI h ad σ [.ref h, .int a0, .int a1, .int a2]) ((mQi D cI h ad r0 σ0)) 0 0 (mA h ad) :=
  mMet (by decide) (Nat.le_of_ble_eq_true rfl) (fun p e s m args below meth c H locs ls S K hr hk hl hs => bdX9_misses S K hr hk _ _ _ _ _ _ hf hl hs)
set_option maxHeartbeats 4000000 in
set_option maxRecDepth 100000 in
theorem bdX9_serves {p : Program} {l : Launch} {e : Env} {s : State} {m : MethodId} {args : Array Value} {below : List Frame} {meth : Method} {c : Code} {H : Heap} {locs : List Loc} {ls : Array Slot} {D : va_G} {cI : ClassId} {h : Nat} {ad : Nat → Nat} (S : CallFix p m c cX9_serves 8 s args WA RX9) (K : va_K D vwCl [(cI, .int)] s) (hr : meth.sig.returnType = (some .int)) (hk : meth.locks = false) (a0 : Int32) (a1 : Int32) (a2 : Int32) (σ : zSt) (r0 : Int32) (σ0 : zSt) (hf : fX9_serves a0 a1 a2 σ = some (r0, σ0)) (hl : lv_has ls 8 [(0, .ref h), (1, .int a0), (2, .int a1), (3, .int a2)]) (hs : mS D cI h ad s σ H locs) : W p l e rmX9_serves s m args below meth c H locs 0 0 (MQ below (mQi D cI h ad r0 σ0) args s 0 0 (mA h ad)) (F0 m 0 ls []) := by
  obtain ⟨res, hres⟩ : ∃ q, q = (r0, σ0) := ⟨_, rfl⟩
  rw [← hres] at hf
  have L149 : ∀ (K149 : Int32 → Int32 → Int32 → Int32 → Int32 → zSt → Option (Int32 × zSt)) (hK149 : ∀ (y1 : Int32) (y2 : Int32) (y3 : Int32) (y5 : Int32) (y6 : Int32) (σ : zSt), K149 y1 y2 y3 y5 y6 σ = some res → mGo p l e rmX9_serves s m args below meth c (MQ below (mQi D cI h ad r0 σ0) args s 0 0 (mA h ad)) D cI h ad 8 σ [(0, .ref h), (1, .int y1), (2, .int y2), (3, .int y3), (5, .int y5), (6, .int y6)] 186 []) (n : Nat) (y1 : Int32) (y2 : Int32) (y3 : Int32) (y5 : Int32) (y6 : Int32) (y7 : Int32) (σ : zSt), fX9_serves_l149 K149 n y1 y2 y3 y5 y6 y7 σ = some res → mGo p l e rmX9_serves s m args below meth c (MQ below (mQi D cI h ad r0 σ0) args s 0 0 (mA h ad)) D cI h ad 8 σ [(0, .ref h), (1, .int y1), (2, .int y2), (3, .int y3), (5, .int y5), (6, .int y6), (7, .int y7)] 149 [] := by
    intro K149 hK149 n
    induction n with
    | zero =>
      intro y1 y2 y3 y5 y6 y7 σ hf H locs ls hl hs
      rw [fX9_serves_l149] at hf
      cases hf
    | succ n ih =>
      intro y1 y2 y3 y5 y6 y7 σ hf H locs ls hl hs
      rw [fX9_serves_l149] at hf
      refine lv_iload S.1 S.2.1 dX9_serves_149 (lv_at hl 6 rfl) ?_
      refine lv_iconst S.1 S.2.1 dX9_serves_151 k_iconst_5 ?_
      refine z_icmp_le (tgt := 186) S hf dX9_serves_152 (by decide) (fun hf => ?_) (fun hf => ?_)
      · exact hK149 _ _ _ _ _ _ hf _ _ _ (lv_sub hl [0, 1, 2, 3, 4, 5] rfl) hs
      · refine lv_aload_n S.1 S.2.1 dX9_serves_155 rfl (lv_at hl 0 rfl) ?_
        refine mg7 S K hs dX9_serves_156 ?_
        refine lv_sipush S.1 S.2.1 dX9_serves_159 k_sipush_384 ?_
        refine lv_iload S.1 S.2.1 dX9_serves_162 (lv_at hl 6 rfl) ?_
        refine lv_iadd S.1 S.2.1 dX9_serves_164 ?_
        refine lv_aload_n S.1 S.2.1 dX9_serves_165 rfl (lv_at hl 0 rfl) ?_
        refine mg7 S K hs dX9_serves_166 ?_
        refine lv_sipush S.1 S.2.1 dX9_serves_169 k_sipush_384 ?_
        refine lv_iload S.1 S.2.1 dX9_serves_172 (lv_at hl 6 rfl) ?_
        refine lv_iadd S.1 S.2.1 dX9_serves_174 ?_
        refine lv_bipush S.1 S.2.1 dX9_serves_175 k_bipush_6 ?_
        refine lv_isub S.1 S.2.1 dX9_serves_177 ?_
        refine mld0 S K hs hf dX9_serves_178 (fun x15 hf => ?_)
        refine mst0 S K hs hf dX9_serves_179 (fun σ16 H locs hs hf => ?_)
        refine lv_iinc (v := y7 + (-1)) (lv' := [(7, .int (y7 + (-1))), (0, .ref h), (1, .int y1), (2, .int y2), (3, .int y3), (5, .int y5), (6, .int y6)]) S.1 S.2.1 dX9_serves_180 hl (k := 6) rfl (by rw [k_iconst_m1]) (by decide) rfl (fun ls hl => ?_)
        refine lv_goto (tgt := 149) S.1 S.2.1 dX9_serves_183 (by decide) ?_
        exact ih _ _ _ _ _ _ _ hf _ _ _ (lv_sub hl [1, 2, 3, 4, 5, 6, 0] rfl) hs
  have J287 : ∀ (y5 : Int32) (w0 : Int32) (w1 : Int32) (w2 : Int32) (σ : zSt), fX9_serves_j287 y5 w0 w1 w2 σ = some res → mGo p l e rmX9_serves s m args below meth c (MQ below (mQi D cI h ad r0 σ0) args s 0 0 (mA h ad)) D cI h ad 8 σ [(0, .ref h), (5, .int y5)] 287 [.int w0, .int w1, .int w2, .ref (ad 0)] := by
    intro y5 w0 w1 w2 σ hf H locs ls hl hs
    unfold fX9_serves_j287 at hf
    refine lv_iadd S.1 S.2.1 dX9_serves_287 ?_
    refine mst0 S K hs hf dX9_serves_288 (fun σ33 H locs hs hf => ?_)
    refine lv_iload S.1 S.2.1 dX9_serves_289 (lv_at hl 1 rfl) ?_
    exact mrI S K hr hk hs (hf.trans (congrArg some hres)) dX9_serves_291
  have J220 : ∀ (y5 : Int32) (y6 : Int32) (w0 : Int32) (w1 : Int32) (σ : zSt), fX9_serves_j220 y5 y6 w0 w1 σ = some res → mGo p l e rmX9_serves s m args below meth c (MQ below (mQi D cI h ad r0 σ0) args s 0 0 (mA h ad)) D cI h ad 8 σ [(0, .ref h), (5, .int y5), (6, .int y6)] 220 [.int w0, .int w1, .ref (ad 0)] := by
    intro y5 y6 w0 w1 σ hf H locs ls hl hs
    unfold fX9_serves_j220 at hf
    refine mst0 S K hs hf dX9_serves_220 (fun σ25 H locs hs hf => ?_)
    refine lv_aload_n S.1 S.2.1 dX9_serves_221 rfl (lv_at hl 0 rfl) ?_
    refine mg7 S K hs dX9_serves_222 ?_
    refine lv_sipush S.1 S.2.1 dX9_serves_225 k_sipush_387 ?_
    refine lv_aload_n S.1 S.2.1 dX9_serves_228 rfl (lv_at hl 0 rfl) ?_
    refine mg7 S K hs dX9_serves_229 ?_
    refine lv_iload S.1 S.2.1 dX9_serves_232 (lv_at hl 2 rfl) ?_
    refine lv_iconst S.1 S.2.1 dX9_serves_234 k_iconst_2 ?_
    refine lv_iadd S.1 S.2.1 dX9_serves_235 ?_
    refine mld0 S K hs hf dX9_serves_236 (fun x26 hf => ?_)
    refine mst0 S K hs hf dX9_serves_237 (fun σ27 H locs hs hf => ?_)
    refine lv_aload_n S.1 S.2.1 dX9_serves_238 rfl (lv_at hl 0 rfl) ?_
    refine mg7 S K hs dX9_serves_239 ?_
    refine lv_sipush S.1 S.2.1 dX9_serves_242 k_sipush_388 ?_
    refine lv_iload S.1 S.2.1 dX9_serves_245 (lv_at hl 1 rfl) ?_
    refine mst0 S K hs hf dX9_serves_247 (fun σ28 H locs hs hf => ?_)
    refine lv_aload_n S.1 S.2.1 dX9_serves_248 rfl (lv_at hl 0 rfl) ?_
    refine mg7 S K hs dX9_serves_249 ?_
    refine lv_sipush S.1 S.2.1 dX9_serves_252 k_sipush_389 ?_
    refine lv_aload_n S.1 S.2.1 dX9_serves_255 rfl (lv_at hl 0 rfl) ?_
    refine mg7 S K hs dX9_serves_256 ?_
    refine lv_iconst S.1 S.2.1 dX9_serves_259 k_iconst_4 ?_
    refine mld0 S K hs hf dX9_serves_260 (fun x29 hf => ?_)
    refine mst0 S K hs hf dX9_serves_261 (fun σ30 H locs hs hf => ?_)
    refine lv_aload_n S.1 S.2.1 dX9_serves_262 rfl (lv_at hl 0 rfl) ?_
    refine mg7 S K hs dX9_serves_263 ?_
    refine lv_bipush S.1 S.2.1 dX9_serves_266 k_bipush_12 ?_
    refine lv_dup2_11 S.1 S.2.1 dX9_serves_268 rfl rfl ?_
    refine mld0 S K hs hf dX9_serves_269 (fun x31 hf => ?_)
    refine lv_aload_n S.1 S.2.1 dX9_serves_270 rfl (lv_at hl 0 rfl) ?_
    refine mg7 S K hs dX9_serves_271 ?_
    refine lv_bipush S.1 S.2.1 dX9_serves_274 k_bipush_12 ?_
    refine mld0 S K hs hf dX9_serves_276 (fun x32 hf => ?_)
    refine lv_bipush S.1 S.2.1 dX9_serves_277 k_bipush_12 ?_
    refine z_icmp_ge (tgt := 286) S hf dX9_serves_279 (by decide) (fun hf => ?_) (fun hf => ?_)
    · refine lv_iconst S.1 S.2.1 dX9_serves_286 k_iconst_0 ?_
      exact J287 _ _ _ _ _ hf _ _ _ (lv_sub hl [0, 1] rfl) hs
    · refine lv_iconst S.1 S.2.1 dX9_serves_282 k_iconst_1 ?_
      refine lv_goto (tgt := 287) S.1 S.2.1 dX9_serves_283 (by decide) ?_
      exact J287 _ _ _ _ _ hf _ _ _ (lv_sub hl [0, 1] rfl) hs
  have J132 : ∀ (y1 : Int32) (y2 : Int32) (y3 : Int32) (y5 : Int32) (y6 : Int32) (w0 : Int32) (w1 : Int32) (w2 : Int32) (σ : zSt), fX9_serves_j132 y1 y2 y3 y5 y6 w0 w1 w2 σ = some res → mGo p l e rmX9_serves s m args below meth c (MQ below (mQi D cI h ad r0 σ0) args s 0 0 (mA h ad)) D cI h ad 8 σ [(0, .ref h), (1, .int y1), (2, .int y2), (3, .int y3), (5, .int y5), (6, .int y6)] 132 [.int w0, .int w1, .int w2, .ref (ad 0)] := by
    intro y1 y2 y3 y5 y6 w0 w1 w2 σ hf H locs ls hl hs
    unfold fX9_serves_j132 at hf
    refine lv_iadd S.1 S.2.1 dX9_serves_132 ?_
    refine mst0 S K hs hf dX9_serves_133 (fun σ12 H locs hs hf => ?_)
    refine lv_aload_n S.1 S.2.1 dX9_serves_134 rfl (lv_at hl 0 rfl) ?_
    refine mg7 S K hs dX9_serves_135 ?_
    refine lv_iconst S.1 S.2.1 dX9_serves_138 k_iconst_5 ?_
    refine lv_dup2_11 S.1 S.2.1 dX9_serves_139 rfl rfl ?_
    refine mld0 S K hs hf dX9_serves_140 (fun x13 hf => ?_)
    refine lv_iload S.1 S.2.1 dX9_serves_141 (lv_at hl 4 rfl) ?_
    refine lv_iadd S.1 S.2.1 dX9_serves_143 ?_
    refine mst0 S K hs hf dX9_serves_144 (fun σ14 H locs hs hf => ?_)
    refine lv_bipush S.1 S.2.1 dX9_serves_145 k_bipush_71 ?_
    refine lv_istore (lv' := [(7, .int (nI 71)), (0, .ref h), (1, .int y1), (2, .int y2), (3, .int y3), (5, .int y5), (6, .int y6)]) S.1 S.2.1 dX9_serves_147 hl (by decide) rfl (fun ls hl => ?_)
    refine L149 _ (fun x17 x18 x19 x20 x21 σ22 hf H locs ls hl hs => ?_) _ _ _ _ _ _ _ _ hf _ _ _ (lv_sub hl [1, 2, 3, 4, 5, 6, 0] rfl) hs
    refine lv_aload_n S.1 S.2.1 dX9_serves_186 rfl (lv_at hl 0 rfl) ?_
    refine mg7 S K hs dX9_serves_187 ?_
    refine lv_sipush S.1 S.2.1 dX9_serves_190 k_sipush_384 ?_
    refine lv_iload_n S.1 S.2.1 dX9_serves_193 rfl (lv_at hl 1 rfl) ?_
    refine mst0 S K hs hf dX9_serves_194 (fun σ23 H locs hs hf => ?_)
    refine lv_aload_n S.1 S.2.1 dX9_serves_195 rfl (lv_at hl 0 rfl) ?_
    refine mg7 S K hs dX9_serves_196 ?_
    refine lv_sipush S.1 S.2.1 dX9_serves_199 k_sipush_385 ?_
    refine lv_iload_n S.1 S.2.1 dX9_serves_202 rfl (lv_at hl 2 rfl) ?_
    refine mst0 S K hs hf dX9_serves_203 (fun σ24 H locs hs hf => ?_)
    refine lv_aload_n S.1 S.2.1 dX9_serves_204 rfl (lv_at hl 0 rfl) ?_
    refine mg7 S K hs dX9_serves_205 ?_
    refine lv_sipush S.1 S.2.1 dX9_serves_208 k_sipush_386 ?_
    refine lv_iload_n S.1 S.2.1 dX9_serves_211 rfl (lv_at hl 3 rfl) ?_
    refine z_if_lt (tgt := 219) S hf dX9_serves_212 (by decide) (fun hf => ?_) (fun hf => ?_)
    · refine lv_iconst S.1 S.2.1 dX9_serves_219 k_iconst_0 ?_
      exact J220 _ _ _ _ _ hf _ _ _ (lv_sub hl [0, 4, 5] rfl) hs
    · refine lv_iconst S.1 S.2.1 dX9_serves_215 k_iconst_1 ?_
      refine lv_goto (tgt := 220) S.1 S.2.1 dX9_serves_216 (by decide) ?_
      exact J220 _ _ _ _ _ hf _ _ _ (lv_sub hl [0, 4, 5] rfl) hs
  have J112 : ∀ (y1 : Int32) (y2 : Int32) (y3 : Int32) (y4 : Int32) (y5 : Int32) (y6 : Int32) (w0 : Int32) (w1 : Int32) (w2 : Int32) (σ : zSt), fX9_serves_j112 y1 y2 y3 y4 y5 y6 w0 w1 w2 σ = some res → mGo p l e rmX9_serves s m args below meth c (MQ below (mQi D cI h ad r0 σ0) args s 0 0 (mA h ad)) D cI h ad 8 σ [(0, .ref h), (1, .int y1), (2, .int y2), (3, .int y3), (4, .int y4), (5, .int y5), (6, .int y6)] 112 [.int w0, .int w1, .int w2, .ref (ad 0)] := by
    intro y1 y2 y3 y4 y5 y6 w0 w1 w2 σ hf H locs ls hl hs
    unfold fX9_serves_j112 at hf
    refine lv_iadd S.1 S.2.1 dX9_serves_112 ?_
    refine mst0 S K hs hf dX9_serves_113 (fun σ10 H locs hs hf => ?_)
    refine lv_aload_n S.1 S.2.1 dX9_serves_114 rfl (lv_at hl 0 rfl) ?_
    refine mg7 S K hs dX9_serves_115 ?_
    refine lv_bipush S.1 S.2.1 dX9_serves_118 k_bipush_7 ?_
    refine lv_dup2_11 S.1 S.2.1 dX9_serves_120 rfl rfl ?_
    refine mld0 S K hs hf dX9_serves_121 (fun x11 hf => ?_)
    refine lv_iload S.1 S.2.1 dX9_serves_122 (lv_at hl 4 rfl) ?_
    refine z_if_eq (tgt := 131) S hf dX9_serves_124 (by decide) (fun hf => ?_) (fun hf => ?_)
    · refine lv_iconst S.1 S.2.1 dX9_serves_131 k_iconst_1 ?_
      exact J132 _ _ _ _ _ _ _ _ _ hf _ _ _ (lv_sub hl [0, 1, 2, 3, 5, 6] rfl) hs
    · refine lv_iconst S.1 S.2.1 dX9_serves_127 k_iconst_0 ?_
      refine lv_goto (tgt := 132) S.1 S.2.1 dX9_serves_128 (by decide) ?_
      exact J132 _ _ _ _ _ _ _ _ _ hf _ _ _ (lv_sub hl [0, 1, 2, 3, 5, 6] rfl) hs
  have J67 : ∀ (y1 : Int32) (y2 : Int32) (y3 : Int32) (y4 : Int32) (y5 : Int32) (y6 : Int32) (σ : zSt), fX9_serves_j67 y1 y2 y3 y4 y5 y6 σ = some res → mGo p l e rmX9_serves s m args below meth c (MQ below (mQi D cI h ad r0 σ0) args s 0 0 (mA h ad)) D cI h ad 8 σ [(0, .ref h), (1, .int y1), (2, .int y2), (3, .int y3), (4, .int y4), (5, .int y5), (6, .int y6)] 67 [] := by
    intro y1 y2 y3 y4 y5 y6 σ hf H locs ls hl hs
    unfold fX9_serves_j67 at hf
    refine lv_aload_n S.1 S.2.1 dX9_serves_67 rfl (lv_at hl 0 rfl) ?_
    refine mg7 S K hs dX9_serves_68 ?_
    refine lv_bipush S.1 S.2.1 dX9_serves_71 k_bipush_13 ?_
    refine lv_dup2_11 S.1 S.2.1 dX9_serves_73 rfl rfl ?_
    refine mld0 S K hs hf dX9_serves_74 (fun x5 hf => ?_)
    refine lv_iconst S.1 S.2.1 dX9_serves_75 k_iconst_1 ?_
    refine lv_iadd S.1 S.2.1 dX9_serves_76 ?_
    refine mst0 S K hs hf dX9_serves_77 (fun σ6 H locs hs hf => ?_)
    refine lv_aload_n S.1 S.2.1 dX9_serves_78 rfl (lv_at hl 0 rfl) ?_
    refine mg7 S K hs dX9_serves_79 ?_
    refine lv_iload S.1 S.2.1 dX9_serves_82 (lv_at hl 6 rfl) ?_
    refine lv_iconst S.1 S.2.1 dX9_serves_84 k_iconst_3 ?_
    refine lv_iadd S.1 S.2.1 dX9_serves_85 ?_
    refine lv_aload_n S.1 S.2.1 dX9_serves_86 rfl (lv_at hl 0 rfl) ?_
    refine mg7 S K hs dX9_serves_87 ?_
    refine lv_bipush S.1 S.2.1 dX9_serves_90 k_bipush_13 ?_
    refine mld0 S K hs hf dX9_serves_92 (fun x7 hf => ?_)
    refine mst0 S K hs hf dX9_serves_93 (fun σ8 H locs hs hf => ?_)
    refine lv_aload_n S.1 S.2.1 dX9_serves_94 rfl (lv_at hl 0 rfl) ?_
    refine mg7 S K hs dX9_serves_95 ?_
    refine lv_bipush S.1 S.2.1 dX9_serves_98 k_bipush_6 ?_
    refine lv_dup2_11 S.1 S.2.1 dX9_serves_100 rfl rfl ?_
    refine mld0 S K hs hf dX9_serves_101 (fun x9 hf => ?_)
    refine lv_iload S.1 S.2.1 dX9_serves_102 (lv_at hl 4 rfl) ?_
    refine z_if_eq (tgt := 111) S hf dX9_serves_104 (by decide) (fun hf => ?_) (fun hf => ?_)
    · refine lv_iconst S.1 S.2.1 dX9_serves_111 k_iconst_0 ?_
      exact J112 _ _ _ _ _ _ _ _ _ _ hf _ _ _ (lv_sub hl [0, 1, 2, 3, 4, 5, 6] rfl) hs
    · refine lv_iconst S.1 S.2.1 dX9_serves_107 k_iconst_1 ?_
      refine lv_goto (tgt := 112) S.1 S.2.1 dX9_serves_108 (by decide) ?_
      exact J112 _ _ _ _ _ _ _ _ _ _ hf _ _ _ (lv_sub hl [0, 1, 2, 3, 4, 5, 6] rfl) hs
  have J33 : ∀ (y1 : Int32) (y2 : Int32) (y3 : Int32) (y4 : Int32) (w0 : Int32) (σ : zSt), fX9_serves_j33 y1 y2 y3 y4 w0 σ = some res → mGo p l e rmX9_serves s m args below meth c (MQ below (mQi D cI h ad r0 σ0) args s 0 0 (mA h ad)) D cI h ad 8 σ [(0, .ref h), (1, .int y1), (2, .int y2), (3, .int y3), (4, .int y4)] 33 [.int w0] := by
    intro y1 y2 y3 y4 w0 σ hf H locs ls hl hs
    unfold fX9_serves_j33 at hf
    refine lv_istore (lv' := [(5, .int w0), (0, .ref h), (1, .int y1), (2, .int y2), (3, .int y3), (4, .int y4)]) S.1 S.2.1 dX9_serves_33 hl (by decide) rfl (fun ls hl => ?_)
    refine lv_aload_n S.1 S.2.1 dX9_serves_35 rfl (lv_at hl 1 rfl) ?_
    refine lv_iload_n S.1 S.2.1 dX9_serves_36 rfl (lv_at hl 2 rfl) ?_
    refine lv_iload_n S.1 S.2.1 dX9_serves_37 rfl (lv_at hl 3 rfl) ?_
    refine mcP S K hs hl.1 hf (fun _ hX => metX9_copyOf _ _ _ _ _ _ _ _ _ hX) (cwX9_52 S.2.2.2.2 ⟨Nat.le_of_ble_eq_true rfl, Nat.le_of_ble_eq_true rfl⟩) rfl dX9_serves_38 rfl (Nat.le_of_ble_eq_true rfl) ⟨Nat.le_refl _, Nat.le_refl _⟩ (fun x4 H locs hs hf => ?_)
    refine lv_istore (lv' := [(6, .int x4), (5, .int w0), (0, .ref h), (1, .int y1), (2, .int y2), (3, .int y3), (4, .int y4)]) S.1 S.2.1 dX9_serves_41 hl (by decide) rfl (fun ls hl => ?_)
    refine lv_iload_n S.1 S.2.1 dX9_serves_43 rfl (lv_at hl 5 rfl) ?_
    refine z_if_lt (tgt := 67) S hf dX9_serves_44 (by decide) (fun hf => ?_) (fun hf => ?_)
    · exact J67 _ _ _ _ _ _ _ hf _ _ _ (lv_sub hl [2, 3, 4, 5, 6, 1, 0] rfl) hs
    · refine lv_aload_n S.1 S.2.1 dX9_serves_47 rfl (lv_at hl 2 rfl) ?_
      refine mg7 S K hs dX9_serves_48 ?_
      refine lv_iload S.1 S.2.1 dX9_serves_51 (lv_at hl 0 rfl) ?_
      refine lv_iconst S.1 S.2.1 dX9_serves_53 k_iconst_2 ?_
      refine lv_iadd S.1 S.2.1 dX9_serves_54 ?_
      refine lv_iload_n S.1 S.2.1 dX9_serves_55 rfl (lv_at hl 5 rfl) ?_
      refine mst0 S K hs hf dX9_serves_56 (fun σ34 H locs hs hf => ?_)
      refine lv_aload_n S.1 S.2.1 dX9_serves_57 rfl (lv_at hl 2 rfl) ?_
      refine mg7 S K hs dX9_serves_58 ?_
      refine lv_bipush S.1 S.2.1 dX9_serves_61 k_bipush_46 ?_
      refine lv_iload_n S.1 S.2.1 dX9_serves_63 rfl (lv_at hl 4 rfl) ?_
      refine lv_iadd S.1 S.2.1 dX9_serves_64 ?_
      refine lv_iload_n S.1 S.2.1 dX9_serves_65 rfl (lv_at hl 5 rfl) ?_
      refine mst0 S K hs hf dX9_serves_66 (fun σ35 H locs hs hf => ?_)
      exact J67 _ _ _ _ _ _ _ hf _ _ _ (lv_sub hl [2, 3, 4, 5, 6, 1, 0] rfl) hs
  have J12 : ∀ (y1 : Int32) (y2 : Int32) (y3 : Int32) (w0 : Int32) (w1 : Int32) (w2 : Int32) (σ : zSt), fX9_serves_j12 y1 y2 y3 w0 w1 w2 σ = some res → mGo p l e rmX9_serves s m args below meth c (MQ below (mQi D cI h ad r0 σ0) args s 0 0 (mA h ad)) D cI h ad 8 σ [(0, .ref h), (1, .int y1), (2, .int y2), (3, .int y3)] 12 [.int w0, .int w1, .int w2, .ref h] := by
    intro y1 y2 y3 w0 w1 w2 σ hf H locs ls hl hs
    unfold fX9_serves_j12 at hf
    refine mcP S K hs hl.1 hf (fun _ hX => metX9_isHit _ _ _ _ _ _ _ _ _ _ hX) (cwX9_81 S.2.2.2.2 ⟨Nat.le_of_ble_eq_true rfl, Nat.le_of_ble_eq_true rfl⟩) rfl dX9_serves_12 rfl (Nat.le_of_ble_eq_true rfl) ⟨Nat.le_refl _, Nat.le_refl _⟩ (fun x1 H locs hs hf => ?_)
    refine lv_istore (lv' := [(4, .int x1), (0, .ref h), (1, .int y1), (2, .int y2), (3, .int y3)]) S.1 S.2.1 dX9_serves_15 hl (by decide) rfl (fun ls hl => ?_)
    refine lv_iload S.1 S.2.1 dX9_serves_17 (lv_at hl 0 rfl) ?_
    refine z_if_eq (tgt := 26) S hf dX9_serves_19 (by decide) (fun hf => ?_) (fun hf => ?_)
    · refine lv_aload_n S.1 S.2.1 dX9_serves_26 rfl (lv_at hl 1 rfl) ?_
      refine lv_iload_n S.1 S.2.1 dX9_serves_27 rfl (lv_at hl 2 rfl) ?_
      refine lv_iload_n S.1 S.2.1 dX9_serves_28 rfl (lv_at hl 3 rfl) ?_
      refine lv_iload_n S.1 S.2.1 dX9_serves_29 rfl (lv_at hl 4 rfl) ?_
      refine mcV S K hs hl.1 hf (fun _ _ hX => metX9_misses _ _ _ _ _ _ _ _ _ _ _ hX) (cwX9_85 S.2.2.2.2 ⟨Nat.le_of_ble_eq_true rfl, Nat.le_of_ble_eq_true rfl⟩) rfl dX9_serves_30 rfl (Nat.le_of_ble_eq_true rfl) ⟨Nat.le_refl _, Nat.le_refl _⟩ (fun x2 σ3 H locs hs hf => ?_)
      exact J33 _ _ _ _ _ _ hf _ _ _ (lv_sub hl [1, 2, 3, 4, 0] rfl) hs
    · refine lv_iconst S.1 S.2.1 dX9_serves_22 k_iconst_0 ?_
      refine lv_goto (tgt := 33) S.1 S.2.1 dX9_serves_23 (by decide) ?_
      exact J33 _ _ _ _ _ _ hf _ _ _ (lv_sub hl [1, 2, 3, 4, 0] rfl) hs
  unfold fX9_serves at hf
  refine lv_aload_n S.1 S.2.1 dX9_serves_0 rfl (lv_at hl 0 rfl) ?_
  refine lv_iload_n S.1 S.2.1 dX9_serves_1 rfl (lv_at hl 1 rfl) ?_
  refine lv_iload_n S.1 S.2.1 dX9_serves_2 rfl (lv_at hl 2 rfl) ?_
  refine lv_iload_n S.1 S.2.1 dX9_serves_3 rfl (lv_at hl 3 rfl) ?_
  refine z_if_lt (tgt := 11) S hf dX9_serves_4 (by decide) (fun hf => ?_) (fun hf => ?_)
  · refine lv_iconst S.1 S.2.1 dX9_serves_11 k_iconst_0 ?_
    exact J12 _ _ _ _ _ _ _ hf _ _ _ (lv_sub hl [0, 1, 2, 3] rfl) hs
  · refine lv_iconst S.1 S.2.1 dX9_serves_7 k_iconst_1 ?_
    refine lv_goto (tgt := 12) S.1 S.2.1 dX9_serves_8 (by decide) ?_
    exact J12 _ _ _ _ _ _ _ hf _ _ _ (lv_sub hl [0, 1, 2, 3] rfl) hs
theorem metX9_serves (l : Launch) (D : va_G) (cI : ClassId) (h : Nat) (ad : Nat → Nat) (a0 : Int32) (a1 : Int32) (a2 : Int32) (σ : zSt) (r0 : Int32) (σ0 : zSt) (hf : fX9_serves a0 a1 a2 σ = some (r0, σ0)) : Met l yX9_serves (Cond.code yX9_serves cX9_serves 8 (some .int) :: WA) rmX9_serves (mPc D cI h ad σ [.ref h, .int a0, .int a1, .int a2]) ((mQi D cI h ad r0 σ0)) 0 0 (mA h ad) :=
  mMet (by decide) (Nat.le_of_ble_eq_true rfl) (fun p e s m args below meth c H locs ls S K hr hk hl hs => bdX9_serves S K hr hk _ _ _ _ _ _ hf hl hs)
