/-! the whole object: contracts (by wip/tools/rworld.py) -/
set_option maxHeartbeats 4000000 in
set_option maxRecDepth 100000 in
theorem bdX8_drop {p : Program} {l : Launch} {e : Env} {s : State} {m : MethodId} {args : Array Value} {below : List Frame} {meth : Method} {c : Code} {H : Heap} {locs : List Loc} {ls : Array Slot} {D : va_G} {cI : ClassId} {cB cM : ClassId} {ad6 : Nat → Nat} {a : Nat → Nat → Nat} {A : Nat → Prop} (S : CallFix p m c cX8_drop 4 s args WA RX8) (K : qK D cI cB cM ad6 A s) (hr : meth.sig.returnType = (some .int)) (hk : meth.locks = false) (a0 : Int32) (a1 : Int32) (σ : cSt) (r0 : Int32) (σ0 : cSt) (hf : fX8_drop a0 a1 σ = some (r0, σ0)) (hl : lv_has ls 4 [(0, .ref (a 0 0)), (1, .int a0), (2, .int a1)]) (hs : qS D cI cB cM ad6 a A s σ H locs) : W p l e rmX8_drop s m args below meth c H locs 0 0 (MQ below (qQi D cI cB cM ad6 a A r0 σ0) args s 0 0 (A)) (F0 m 0 ls []) := by
  obtain ⟨res, hres⟩ : ∃ q, q = (r0, σ0) := ⟨_, rfl⟩
  rw [← hres] at hf
  have J72 : ∀ (y1 : Int32) (y2 : Int32) (w0 : Int32) (σ : cSt), fX8_drop_j72 y1 y2 w0 σ = some res → qGo p l e rmX8_drop s m args below meth c (MQ below (qQi D cI cB cM ad6 a A r0 σ0) args s 0 0 (A)) D cI cB cM ad6 a A 0 0 4 σ [(0, .ref (a 0 0)), (1, .int y1), (2, .int y2)] 72 [.int w0] := by
    intro y1 y2 w0 σ hf H locs ls hl hs
    unfold fX8_drop_j72 at hf
    refine lv_istore_n (lv' := [(3, .int w0), (0, .ref (a 0 0)), (1, .int y1), (2, .int y2)]) S.1 S.2.1 dX8_drop_72 rfl hl (by decide) rfl (fun ls hl => ?_)
    refine lv_aload_n S.1 S.2.1 dX8_drop_73 rfl (lv_at hl 1 rfl) ?_
    refine qgX8_12_0 S K hs dX8_drop_74 ?_
    refine lv_iload_n S.1 S.2.1 dX8_drop_77 rfl (lv_at hl 2 rfl) ?_
    refine lv_iload_n S.1 S.2.1 dX8_drop_78 rfl (lv_at hl 3 rfl) ?_
    refine qgU0 (qV8 K hs) S K hs hl.1 hf (fun _ hX => metX4_throwAway _ _ _ _ _ _ _ _ hX) (cwX8_108 S.2.2.2.2 ⟨Nat.le_of_ble_eq_true rfl, Nat.le_of_ble_eq_true rfl⟩) rfl dX8_drop_79 rfl (Nat.le_of_ble_eq_true rfl) ⟨Nat.le_of_ble_eq_true rfl, Nat.le_of_ble_eq_true rfl⟩ (fun σ4 H locs hs hf => ?_)
    refine lv_aload_n S.1 S.2.1 dX8_drop_82 rfl (lv_at hl 1 rfl) ?_
    refine qgX8_12_0 S K hs dX8_drop_83 ?_
    refine lv_dup S.1 S.2.1 dX8_drop_86 rfl ?_
    refine qgX8_111_8 S K hs dX8_drop_87 ?_
    refine lv_iload_n S.1 S.2.1 dX8_drop_90 rfl (lv_at hl 0 rfl) ?_
    refine lv_iadd S.1 S.2.1 dX8_drop_91 ?_
    refine qpX8_111_8 S K hs hf dX8_drop_92 (fun σ5 H locs hs hf => ?_)
    refine lv_iload_n S.1 S.2.1 dX8_drop_95 rfl (lv_at hl 0 rfl) ?_
    exact qrI S K hr hk hs (hf.trans (congrArg some hres)) dX8_drop_96
  have J37 : ∀ (y1 : Int32) (y2 : Int32) (w0 : Int32) (σ : cSt), fX8_drop_j37 y1 y2 w0 σ = some res → qGo p l e rmX8_drop s m args below meth c (MQ below (qQi D cI cB cM ad6 a A r0 σ0) args s 0 0 (A)) D cI cB cM ad6 a A 0 0 4 σ [(0, .ref (a 0 0)), (1, .int y1), (2, .int y2)] 37 [.int w0] := by
    intro y1 y2 w0 σ hf H locs ls hl hs
    unfold fX8_drop_j37 at hf
    refine qm2 S K hs hl.1 hf dX8_drop_37 ⟨Nat.le_of_ble_eq_true rfl, Nat.le_of_ble_eq_true rfl⟩ (Nat.le_of_ble_eq_true rfl) ⟨Nat.le_of_ble_eq_true rfl, Nat.le_of_ble_eq_true rfl⟩ (fun H locs hs hf => ?_)
    refine lv_aload_n S.1 S.2.1 dX8_drop_40 rfl (lv_at hl 0 rfl) ?_
    refine qgX8_26_0 S K hs dX8_drop_41 ?_
    refine lv_aload_n S.1 S.2.1 dX8_drop_44 rfl (lv_at hl 0 rfl) ?_
    refine qgX8_12_0 S K hs dX8_drop_45 ?_
    refine qcU (qV1 K hs) S K hs hl.1 hf (fun _ hX => metX2_save _ _ _ _ _ _ _ _ _ _ hX) (cwX8_48 S.2.2.2.2 ⟨Nat.le_of_ble_eq_true rfl, Nat.le_of_ble_eq_true rfl⟩) rfl dX8_drop_48 rfl (Nat.le_of_ble_eq_true rfl) ⟨Nat.le_of_ble_eq_true rfl, Nat.le_of_ble_eq_true rfl⟩ (fun σ2 H locs hs hf => ?_)
    refine lv_aload_n S.1 S.2.1 dX8_drop_51 rfl (lv_at hl 0 rfl) ?_
    refine qgX8_12_0 S K hs dX8_drop_52 ?_
    refine qgX8_98_8 S K hs dX8_drop_55 ?_
    refine lv_iload_n S.1 S.2.1 dX8_drop_58 rfl (lv_at hl 1 rfl) ?_
    refine lv_iload_n S.1 S.2.1 dX8_drop_59 rfl (lv_at hl 2 rfl) ?_
    refine qgP0 (qV11 K hs) S K hs hl.1 hf (fun _ hX => metX0_kindOf _ _ _ _ _ _ _ _ hX) (cwX8_102 S.2.2.2.2 ⟨Nat.le_of_ble_eq_true rfl, Nat.le_of_ble_eq_true rfl⟩) rfl dX8_drop_60 rfl (Nat.le_of_ble_eq_true rfl) ⟨Nat.le_of_ble_eq_true rfl, Nat.le_of_ble_eq_true rfl⟩ (fun x3 H locs hs hf => ?_)
    refine lv_iconst S.1 S.2.1 dX8_drop_63 k_iconst_2 ?_
    refine z_icmp_ne (tgt := 71) S hf dX8_drop_64 (by decide) (fun hf => ?_) (fun hf => ?_)
    · refine lv_iconst S.1 S.2.1 dX8_drop_71 k_iconst_0 ?_
      exact J72 _ _ _ _ hf _ _ _ (lv_sub hl [0, 1, 2] rfl) hs
    · refine lv_iconst S.1 S.2.1 dX8_drop_67 k_iconst_1 ?_
      refine lv_goto (tgt := 72) S.1 S.2.1 dX8_drop_68 (by decide) ?_
      exact J72 _ _ _ _ hf _ _ _ (lv_sub hl [0, 1, 2] rfl) hs
  unfold fX8_drop at hf
  refine lv_iload_n S.1 S.2.1 dX8_drop_0 rfl (lv_at hl 1 rfl) ?_
  refine lv_aload_n S.1 S.2.1 dX8_drop_1 rfl (lv_at hl 0 rfl) ?_
  refine qgX8_12_0 S K hs dX8_drop_2 ?_
  refine qgX8_55_8 S K hs dX8_drop_5 ?_
  refine qm0 S K hs hl.1 hf dX8_drop_8 ⟨Nat.le_of_ble_eq_true rfl, Nat.le_of_ble_eq_true rfl⟩ (Nat.le_of_ble_eq_true rfl) ⟨Nat.le_of_ble_eq_true rfl, Nat.le_of_ble_eq_true rfl⟩ (fun H locs hs hf => ?_)
  refine lv_iload_n S.1 S.2.1 dX8_drop_11 rfl (lv_at hl 2 rfl) ?_
  refine lv_bipush S.1 S.2.1 dX8_drop_12 k_bipush_32 ?_
  refine qm0 S K hs hl.1 hf dX8_drop_14 ⟨Nat.le_of_ble_eq_true rfl, Nat.le_of_ble_eq_true rfl⟩ (Nat.le_of_ble_eq_true rfl) ⟨Nat.le_of_ble_eq_true rfl, Nat.le_of_ble_eq_true rfl⟩ (fun H locs hs hf => ?_)
  refine lv_aload_n S.1 S.2.1 dX8_drop_17 rfl (lv_at hl 0 rfl) ?_
  refine qgX8_12_0 S K hs dX8_drop_18 ?_
  refine qgX8_98_8 S K hs dX8_drop_21 ?_
  refine lv_iload_n S.1 S.2.1 dX8_drop_24 rfl (lv_at hl 1 rfl) ?_
  refine lv_iload_n S.1 S.2.1 dX8_drop_25 rfl (lv_at hl 2 rfl) ?_
  refine qgP0 (qV11 K hs) S K hs hl.1 hf (fun _ hX => metX0_kindOf _ _ _ _ _ _ _ _ hX) (cwX8_102 S.2.2.2.2 ⟨Nat.le_of_ble_eq_true rfl, Nat.le_of_ble_eq_true rfl⟩) rfl dX8_drop_26 rfl (Nat.le_of_ble_eq_true rfl) ⟨Nat.le_of_ble_eq_true rfl, Nat.le_of_ble_eq_true rfl⟩ (fun x1 H locs hs hf => ?_)
  refine z_if_eq (tgt := 36) S hf dX8_drop_29 (by decide) (fun hf => ?_) (fun hf => ?_)
  · refine lv_iconst S.1 S.2.1 dX8_drop_36 k_iconst_0 ?_
    exact J37 _ _ _ _ hf _ _ _ (lv_sub hl [0, 1, 2] rfl) hs
  · refine lv_iconst S.1 S.2.1 dX8_drop_32 k_iconst_1 ?_
    refine lv_goto (tgt := 37) S.1 S.2.1 dX8_drop_33 (by decide) ?_
    exact J37 _ _ _ _ hf _ _ _ (lv_sub hl [0, 1, 2] rfl) hs
theorem metX8_drop (l : Launch) (D : va_G) (cI : ClassId) (cB cM : ClassId) (ad6 : Nat → Nat) (a : Nat → Nat → Nat) (A : Nat → Prop) (a0 : Int32) (a1 : Int32) (σ : cSt) (r0 : Int32) (σ0 : cSt) (hf : fX8_drop a0 a1 σ = some (r0, σ0)) : Met l yX8_drop (Cond.code yX8_drop cX8_drop 4 (some .int) :: WA) rmX8_drop (qPc D cI cB cM ad6 a A σ [.ref (a 0 0), .int a0, .int a1]) ((qQi D cI cB cM ad6 a A r0 σ0)) 0 0 (A) :=
  qMet (by decide) (Nat.le_of_ble_eq_true rfl) (fun p e s m args below meth c H locs ls S K hr hk hl hs => bdX8_drop S K hr hk _ _ _ _ _ hf hl hs)
set_option maxHeartbeats 4000000 in
set_option maxRecDepth 100000 in
theorem bdX8_line {p : Program} {l : Launch} {e : Env} {s : State} {m : MethodId} {args : Array Value} {below : List Frame} {meth : Method} {c : Code} {H : Heap} {locs : List Loc} {ls : Array Slot} {D : va_G} {cI : ClassId} {cB cM : ClassId} {ad6 : Nat → Nat} {a : Nat → Nat → Nat} {A : Nat → Prop} (S : CallFix p m c cX8_line 3 s args WA RX8) (K : qK D cI cB cM ad6 A s) (hr : meth.sig.returnType = (some .int)) (hk : meth.locks = false) (a0 : Int32) (a1 : Int32) (σ : cSt) (r0 : Int32) (hf : fX8_line a0 a1 σ = some r0) (hl : lv_has ls 3 [(0, .ref (a 0 0)), (1, .int a0), (2, .int a1)]) (hs : qS D cI cB cM ad6 a A s σ H locs) : W p l e rmX8_line s m args below meth c H locs 0 0 (MQ below (qQi D cI cB cM ad6 a A r0 σ) args s 0 0 (A)) (F0 m 0 ls []) := by
  unfold fX8_line at hf
  refine lv_iload_n S.1 S.2.1 dX8_line_0 rfl (lv_at hl 1 rfl) ?_
  refine lv_bipush S.1 S.2.1 dX8_line_1 k_bipush_32 ?_
  refine qm0 S K hs hl.1 hf dX8_line_3 ⟨Nat.le_of_ble_eq_true rfl, Nat.le_of_ble_eq_true rfl⟩ (Nat.le_of_ble_eq_true rfl) ⟨Nat.le_of_ble_eq_true rfl, Nat.le_of_ble_eq_true rfl⟩ (fun H locs hs hf => ?_)
  refine lv_iload_n S.1 S.2.1 dX8_line_6 rfl (lv_at hl 2 rfl) ?_
  refine lv_iconst S.1 S.2.1 dX8_line_7 k_iconst_0 ?_
  refine lv_bipush S.1 S.2.1 dX8_line_8 k_bipush_7 ?_
  refine qm1 S K hs hl.1 hf dX8_line_10 ⟨Nat.le_of_ble_eq_true rfl, Nat.le_of_ble_eq_true rfl⟩ (Nat.le_of_ble_eq_true rfl) ⟨Nat.le_of_ble_eq_true rfl, Nat.le_of_ble_eq_true rfl⟩ (fun H locs hs hf => ?_)
  refine lv_aload_n S.1 S.2.1 dX8_line_13 rfl (lv_at hl 0 rfl) ?_
  refine qgX8_12_0 S K hs dX8_line_14 ?_
  refine lv_iload_n S.1 S.2.1 dX8_line_17 rfl (lv_at hl 1 rfl) ?_
  refine lv_iload_n S.1 S.2.1 dX8_line_18 rfl (lv_at hl 2 rfl) ?_
  refine qgP0 (qV8 K hs) S K hs hl.1 hf (fun _ hX => metX4_lineFact _ _ _ _ _ _ _ _ hX) (cwX8_134 S.2.2.2.2 ⟨Nat.le_of_ble_eq_true rfl, Nat.le_of_ble_eq_true rfl⟩) rfl dX8_line_19 rfl (Nat.le_of_ble_eq_true rfl) ⟨Nat.le_of_ble_eq_true rfl, Nat.le_of_ble_eq_true rfl⟩ (fun x1 H locs hs hf => ?_)
  exact qrP S K hr hk hs hf dX8_line_22
theorem metX8_line (l : Launch) (D : va_G) (cI : ClassId) (cB cM : ClassId) (ad6 : Nat → Nat) (a : Nat → Nat → Nat) (A : Nat → Prop) (a0 : Int32) (a1 : Int32) (σ : cSt) (r0 : Int32) (hf : fX8_line a0 a1 σ = some r0) : Met l yX8_line (Cond.code yX8_line cX8_line 3 (some .int) :: WA) rmX8_line (qPc D cI cB cM ad6 a A σ [.ref (a 0 0), .int a0, .int a1]) ((qQi D cI cB cM ad6 a A r0 σ)) 0 0 (A) :=
  qMet (by decide) (Nat.le_of_ble_eq_true rfl) (fun p e s m args below meth c H locs ls S K hr hk hl hs => bdX8_line S K hr hk _ _ _ _ hf hl hs)
set_option maxHeartbeats 4000000 in
set_option maxRecDepth 100000 in
theorem bdX8_nextDropped {p : Program} {l : Launch} {e : Env} {s : State} {m : MethodId} {args : Array Value} {below : List Frame} {meth : Method} {c : Code} {H : Heap} {locs : List Loc} {ls : Array Slot} {D : va_G} {cI : ClassId} {cB cM : ClassId} {ad6 : Nat → Nat} {a : Nat → Nat → Nat} {A : Nat → Prop} (S : CallFix p m c cX8_nextDropped 2 s args WA RX8) (K : qK D cI cB cM ad6 A s) (hr : meth.sig.returnType = (some .int)) (hk : meth.locks = false) (a0 : Int32) (σ : cSt) (r0 : Int32) (hf : fX8_nextDropped a0 σ = some r0) (hl : lv_has ls 2 [(0, .ref (a 0 0)), (1, .int a0)]) (hs : qS D cI cB cM ad6 a A s σ H locs) : W p l e rmX8_nextDropped s m args below meth c H locs 0 0 (MQ below (qQi D cI cB cM ad6 a A r0 σ) args s 0 0 (A)) (F0 m 0 ls []) := by
  unfold fX8_nextDropped at hf
  refine lv_iload_n S.1 S.2.1 dX8_nextDropped_0 rfl (lv_at hl 1 rfl) ?_
  refine lv_aload_n S.1 S.2.1 dX8_nextDropped_1 rfl (lv_at hl 0 rfl) ?_
  refine qgX8_12_0 S K hs dX8_nextDropped_2 ?_
  refine qgX8_55_8 S K hs dX8_nextDropped_5 ?_
  refine qm0 S K hs hl.1 hf dX8_nextDropped_8 ⟨Nat.le_of_ble_eq_true rfl, Nat.le_of_ble_eq_true rfl⟩ (Nat.le_of_ble_eq_true rfl) ⟨Nat.le_of_ble_eq_true rfl, Nat.le_of_ble_eq_true rfl⟩ (fun H locs hs hf => ?_)
  refine lv_aload_n S.1 S.2.1 dX8_nextDropped_11 rfl (lv_at hl 0 rfl) ?_
  refine qgX8_12_0 S K hs dX8_nextDropped_12 ?_
  refine lv_iload_n S.1 S.2.1 dX8_nextDropped_15 rfl (lv_at hl 1 rfl) ?_
  refine qgP0 (qV8 K hs) S K hs hl.1 hf (fun _ hX => metX4_lineToDrop _ _ _ _ _ _ _ hX) (cwX8_160 S.2.2.2.2 ⟨Nat.le_of_ble_eq_true rfl, Nat.le_of_ble_eq_true rfl⟩) rfl dX8_nextDropped_16 rfl (Nat.le_of_ble_eq_true rfl) ⟨Nat.le_of_ble_eq_true rfl, Nat.le_of_ble_eq_true rfl⟩ (fun x1 H locs hs hf => ?_)
  exact qrP S K hr hk hs hf dX8_nextDropped_19
theorem metX8_nextDropped (l : Launch) (D : va_G) (cI : ClassId) (cB cM : ClassId) (ad6 : Nat → Nat) (a : Nat → Nat → Nat) (A : Nat → Prop) (a0 : Int32) (σ : cSt) (r0 : Int32) (hf : fX8_nextDropped a0 σ = some r0) : Met l yX8_nextDropped (Cond.code yX8_nextDropped cX8_nextDropped 2 (some .int) :: WA) rmX8_nextDropped (qPc D cI cB cM ad6 a A σ [.ref (a 0 0), .int a0]) ((qQi D cI cB cM ad6 a A r0 σ)) 0 0 (A) :=
  qMet (by decide) (Nat.le_of_ble_eq_true rfl) (fun p e s m args below meth c H locs ls S K hr hk hl hs => bdX8_nextDropped S K hr hk _ _ _ hf hl hs)
set_option maxHeartbeats 4000000 in
set_option maxRecDepth 100000 in
theorem bdX8_nextTorn {p : Program} {l : Launch} {e : Env} {s : State} {m : MethodId} {args : Array Value} {below : List Frame} {meth : Method} {c : Code} {H : Heap} {locs : List Loc} {ls : Array Slot} {D : va_G} {cI : ClassId} {cB cM : ClassId} {ad6 : Nat → Nat} {a : Nat → Nat → Nat} {A : Nat → Prop} (S : CallFix p m c cX8_nextTorn 1 s args WA RX8) (K : qK D cI cB cM ad6 A s) (hr : meth.sig.returnType = (some .int)) (hk : meth.locks = false) (σ : cSt) (r0 : Int32) (hf : fX8_nextTorn σ = some r0) (hl : lv_has ls 1 [(0, .ref (a 0 0))]) (hs : qS D cI cB cM ad6 a A s σ H locs) : W p l e rmX8_nextTorn s m args below meth c H locs 0 0 (MQ below (qQi D cI cB cM ad6 a A r0 σ) args s 0 0 (A)) (F0 m 0 ls []) := by
  unfold fX8_nextTorn at hf
  refine lv_aload_n S.1 S.2.1 dX8_nextTorn_0 rfl (lv_at hl 0 rfl) ?_
  refine qgX8_12_0 S K hs dX8_nextTorn_1 ?_
  refine qgX8_114_8 S K hs dX8_nextTorn_4 ?_
  refine qgP0 (qV16 K hs) S K hs hl.1 hf (fun _ hX => metX1_lineToTear _ _ _ _ _ _ hX) (cwX8_156 S.2.2.2.2 ⟨Nat.le_of_ble_eq_true rfl, Nat.le_of_ble_eq_true rfl⟩) rfl dX8_nextTorn_7 rfl (Nat.le_of_ble_eq_true rfl) ⟨Nat.le_of_ble_eq_true rfl, Nat.le_of_ble_eq_true rfl⟩ (fun x1 H locs hs hf => ?_)
  exact qrP S K hr hk hs hf dX8_nextTorn_10
theorem metX8_nextTorn (l : Launch) (D : va_G) (cI : ClassId) (cB cM : ClassId) (ad6 : Nat → Nat) (a : Nat → Nat → Nat) (A : Nat → Prop) (σ : cSt) (r0 : Int32) (hf : fX8_nextTorn σ = some r0) : Met l yX8_nextTorn (Cond.code yX8_nextTorn cX8_nextTorn 1 (some .int) :: WA) rmX8_nextTorn (qPc D cI cB cM ad6 a A σ [.ref (a 0 0)]) ((qQi D cI cB cM ad6 a A r0 σ)) 0 0 (A) :=
  qMet (by decide) (Nat.le_of_ble_eq_true rfl) (fun p e s m args below meth c H locs ls S K hr hk hl hs => bdX8_nextTorn S K hr hk  _ _ hf hl hs)
set_option maxHeartbeats 4000000 in
set_option maxRecDepth 100000 in
theorem bdX8_pass {p : Program} {l : Launch} {e : Env} {s : State} {m : MethodId} {args : Array Value} {below : List Frame} {meth : Method} {c : Code} {H : Heap} {locs : List Loc} {ls : Array Slot} {D : va_G} {cI : ClassId} {cB cM : ClassId} {ad6 : Nat → Nat} {a : Nat → Nat → Nat} {A : Nat → Prop} (S : CallFix p m c cX8_pass 2 s args WA RX8) (K : qK D cI cB cM ad6 A s) (hr : meth.sig.returnType = (some .int)) (hk : meth.locks = false) (a0 : Int32) (σ : cSt) (r0 : Int32) (σ0 : cSt) (hf : fX8_pass a0 σ = some (r0, σ0)) (hl : lv_has ls 2 [(0, .ref (a 0 0)), (1, .int a0)]) (hs : qS D cI cB cM ad6 a A s σ H locs) : W p l e rmX8_pass s m args below meth c H locs 0 0 (MQ below (qQi D cI cB cM ad6 a A r0 σ0) args s 0 0 (A)) (F0 m 0 ls []) := by
  unfold fX8_pass at hf
  refine lv_iload_n S.1 S.2.1 dX8_pass_0 rfl (lv_at hl 1 rfl) ?_
  refine lv_iconst S.1 S.2.1 dX8_pass_1 k_iconst_1 ?_
  refine lv_bipush S.1 S.2.1 dX8_pass_2 k_bipush_100 ?_
  refine qm1 S K hs hl.1 hf dX8_pass_4 ⟨Nat.le_of_ble_eq_true rfl, Nat.le_of_ble_eq_true rfl⟩ (Nat.le_of_ble_eq_true rfl) ⟨Nat.le_of_ble_eq_true rfl, Nat.le_of_ble_eq_true rfl⟩ (fun H locs hs hf => ?_)
  refine lv_aload_n S.1 S.2.1 dX8_pass_7 rfl (lv_at hl 0 rfl) ?_
  refine qgX8_12_0 S K hs dX8_pass_8 ?_
  refine lv_iload_n S.1 S.2.1 dX8_pass_11 rfl (lv_at hl 1 rfl) ?_
  refine qgP0 (qV8 K hs) S K hs hl.1 hf (fun _ hX => metX4_hasTimeFor _ _ _ _ _ _ _ hX) (cwX8_91 S.2.2.2.2 ⟨Nat.le_of_ble_eq_true rfl, Nat.le_of_ble_eq_true rfl⟩) rfl dX8_pass_12 rfl (Nat.le_of_ble_eq_true rfl) ⟨Nat.le_of_ble_eq_true rfl, Nat.le_of_ble_eq_true rfl⟩ (fun x1 H locs hs hf => ?_)
  refine qm2 S K hs hl.1 hf dX8_pass_15 ⟨Nat.le_of_ble_eq_true rfl, Nat.le_of_ble_eq_true rfl⟩ (Nat.le_of_ble_eq_true rfl) ⟨Nat.le_of_ble_eq_true rfl, Nat.le_of_ble_eq_true rfl⟩ (fun H locs hs hf => ?_)
  refine lv_aload_n S.1 S.2.1 dX8_pass_18 rfl (lv_at hl 0 rfl) ?_
  refine qgX8_26_0 S K hs dX8_pass_19 ?_
  refine lv_aload_n S.1 S.2.1 dX8_pass_22 rfl (lv_at hl 0 rfl) ?_
  refine qgX8_12_0 S K hs dX8_pass_23 ?_
  refine qcU (qV1 K hs) S K hs hl.1 hf (fun _ hX => metX2_save _ _ _ _ _ _ _ _ _ _ hX) (cwX8_48 S.2.2.2.2 ⟨Nat.le_of_ble_eq_true rfl, Nat.le_of_ble_eq_true rfl⟩) rfl dX8_pass_26 rfl (Nat.le_of_ble_eq_true rfl) ⟨Nat.le_of_ble_eq_true rfl, Nat.le_of_ble_eq_true rfl⟩ (fun σ2 H locs hs hf => ?_)
  refine lv_aload_n S.1 S.2.1 dX8_pass_29 rfl (lv_at hl 0 rfl) ?_
  refine qgX8_12_0 S K hs dX8_pass_30 ?_
  refine lv_iload_n S.1 S.2.1 dX8_pass_33 rfl (lv_at hl 1 rfl) ?_
  refine qgV0 (qV8 K hs) S K hs hl.1 hf (fun _ _ hX => metX4_letPass _ _ _ _ _ _ _ _ hX) (cwX8_94 S.2.2.2.2 ⟨Nat.le_of_ble_eq_true rfl, Nat.le_of_ble_eq_true rfl⟩) rfl dX8_pass_34 rfl (Nat.le_of_ble_eq_true rfl) ⟨Nat.le_of_ble_eq_true rfl, Nat.le_of_ble_eq_true rfl⟩ (fun x3 σ4 H locs hs hf => ?_)
  exact qrI S K hr hk hs hf dX8_pass_37
theorem metX8_pass (l : Launch) (D : va_G) (cI : ClassId) (cB cM : ClassId) (ad6 : Nat → Nat) (a : Nat → Nat → Nat) (A : Nat → Prop) (a0 : Int32) (σ : cSt) (r0 : Int32) (σ0 : cSt) (hf : fX8_pass a0 σ = some (r0, σ0)) : Met l yX8_pass (Cond.code yX8_pass cX8_pass 2 (some .int) :: WA) rmX8_pass (qPc D cI cB cM ad6 a A σ [.ref (a 0 0), .int a0]) ((qQi D cI cB cM ad6 a A r0 σ0)) 0 0 (A) :=
  qMet (by decide) (Nat.le_of_ble_eq_true rfl) (fun p e s m args below meth c H locs ls S K hr hk hl hs => bdX8_pass S K hr hk _ _ _ _ hf hl hs)
set_option maxHeartbeats 4000000 in
set_option maxRecDepth 100000 in
theorem bdX8_pending {p : Program} {l : Launch} {e : Env} {s : State} {m : MethodId} {args : Array Value} {below : List Frame} {meth : Method} {c : Code} {H : Heap} {locs : List Loc} {ls : Array Slot} {D : va_G} {cI : ClassId} {cB cM : ClassId} {ad6 : Nat → Nat} {a : Nat → Nat → Nat} {A : Nat → Prop} (S : CallFix p m c cX8_pending 3 s args WA RX8) (K : qK D cI cB cM ad6 A s) (hr : meth.sig.returnType = (some .int)) (hk : meth.locks = false) (a0 : Int32) (a1 : Int32) (σ : cSt) (r0 : Int32) (hf : fX8_pending a0 a1 σ = some r0) (hl : lv_has ls 3 [(0, .ref (a 0 0)), (1, .int a0), (2, .int a1)]) (hs : qS D cI cB cM ad6 a A s σ H locs) : W p l e rmX8_pending s m args below meth c H locs 0 0 (MQ below (qQi D cI cB cM ad6 a A r0 σ) args s 0 0 (A)) (F0 m 0 ls []) := by
  unfold fX8_pending at hf
  refine lv_iload_n S.1 S.2.1 dX8_pending_0 rfl (lv_at hl 1 rfl) ?_
  refine lv_aload_n S.1 S.2.1 dX8_pending_1 rfl (lv_at hl 0 rfl) ?_
  refine qgX8_12_0 S K hs dX8_pending_2 ?_
  refine qgX8_55_8 S K hs dX8_pending_5 ?_
  refine qm0 S K hs hl.1 hf dX8_pending_8 ⟨Nat.le_of_ble_eq_true rfl, Nat.le_of_ble_eq_true rfl⟩ (Nat.le_of_ble_eq_true rfl) ⟨Nat.le_of_ble_eq_true rfl, Nat.le_of_ble_eq_true rfl⟩ (fun H locs hs hf => ?_)
  refine lv_iload_n S.1 S.2.1 dX8_pending_11 rfl (lv_at hl 2 rfl) ?_
  refine lv_iconst S.1 S.2.1 dX8_pending_12 k_iconst_0 ?_
  refine lv_iconst S.1 S.2.1 dX8_pending_13 k_iconst_2 ?_
  refine qm1 S K hs hl.1 hf dX8_pending_14 ⟨Nat.le_of_ble_eq_true rfl, Nat.le_of_ble_eq_true rfl⟩ (Nat.le_of_ble_eq_true rfl) ⟨Nat.le_of_ble_eq_true rfl, Nat.le_of_ble_eq_true rfl⟩ (fun H locs hs hf => ?_)
  refine lv_aload_n S.1 S.2.1 dX8_pending_17 rfl (lv_at hl 0 rfl) ?_
  refine qgX8_12_0 S K hs dX8_pending_18 ?_
  refine qgX8_62_8 S K hs dX8_pending_21 ?_
  refine lv_iload_n S.1 S.2.1 dX8_pending_24 rfl (lv_at hl 1 rfl) ?_
  refine lv_iload_n S.1 S.2.1 dX8_pending_25 rfl (lv_at hl 2 rfl) ?_
  refine qgP0 (qV18 K hs) S K hs hl.1 hf (fun _ hX => metX7_fact _ _ _ _ _ _ _ _ hX) (cwX8_137 S.2.2.2.2 ⟨Nat.le_of_ble_eq_true rfl, Nat.le_of_ble_eq_true rfl⟩) rfl dX8_pending_26 rfl (Nat.le_of_ble_eq_true rfl) ⟨Nat.le_of_ble_eq_true rfl, Nat.le_of_ble_eq_true rfl⟩ (fun x1 H locs hs hf => ?_)
  exact qrP S K hr hk hs hf dX8_pending_29
theorem metX8_pending (l : Launch) (D : va_G) (cI : ClassId) (cB cM : ClassId) (ad6 : Nat → Nat) (a : Nat → Nat → Nat) (A : Nat → Prop) (a0 : Int32) (a1 : Int32) (σ : cSt) (r0 : Int32) (hf : fX8_pending a0 a1 σ = some r0) : Met l yX8_pending (Cond.code yX8_pending cX8_pending 3 (some .int) :: WA) rmX8_pending (qPc D cI cB cM ad6 a A σ [.ref (a 0 0), .int a0, .int a1]) ((qQi D cI cB cM ad6 a A r0 σ)) 0 0 (A) :=
  qMet (by decide) (Nat.le_of_ble_eq_true rfl) (fun p e s m args below meth c H locs ls S K hr hk hl hs => bdX8_pending S K hr hk _ _ _ _ hf hl hs)
set_option maxHeartbeats 4000000 in
set_option maxRecDepth 100000 in
theorem bdX8_read {p : Program} {l : Launch} {e : Env} {s : State} {m : MethodId} {args : Array Value} {below : List Frame} {meth : Method} {c : Code} {H : Heap} {locs : List Loc} {ls : Array Slot} {D : va_G} {cI : ClassId} {cB cM : ClassId} {ad6 : Nat → Nat} {a : Nat → Nat → Nat} {A : Nat → Prop} (S : CallFix p m c cX8_read 3 s args WA RX8) (K : qK D cI cB cM ad6 A s) (hr : meth.sig.returnType = (some .int)) (hk : meth.locks = false) (a0 : Int32) (a1 : Int32) (σ : cSt) (r0 : Int32) (σ0 : cSt) (hf : fX8_read a0 a1 σ = some (r0, σ0)) (hl : lv_has ls 3 [(0, .ref (a 0 0)), (1, .int a0), (2, .int a1)]) (hs : qS D cI cB cM ad6 a A s σ H locs) : W p l e rmX8_read s m args below meth c H locs 0 0 (MQ below (qQi D cI cB cM ad6 a A r0 σ0) args s 0 0 (A)) (F0 m 0 ls []) := by
  obtain ⟨res, hres⟩ : ∃ q, q = (r0, σ0) := ⟨_, rfl⟩
  rw [← hres] at hf
  have J36 : ∀ (y1 : Int32) (y2 : Int32) (w0 : Int32) (σ : cSt), fX8_read_j36 y1 y2 w0 σ = some res → qGo p l e rmX8_read s m args below meth c (MQ below (qQi D cI cB cM ad6 a A r0 σ0) args s 0 0 (A)) D cI cB cM ad6 a A 0 0 3 σ [(0, .ref (a 0 0)), (1, .int y1), (2, .int y2)] 36 [.int w0] := by
    intro y1 y2 w0 σ hf H locs ls hl hs
    unfold fX8_read_j36 at hf
    refine qm2 S K hs hl.1 hf dX8_read_36 ⟨Nat.le_of_ble_eq_true rfl, Nat.le_of_ble_eq_true rfl⟩ (Nat.le_of_ble_eq_true rfl) ⟨Nat.le_of_ble_eq_true rfl, Nat.le_of_ble_eq_true rfl⟩ (fun H locs hs hf => ?_)
    refine lv_aload_n S.1 S.2.1 dX8_read_39 rfl (lv_at hl 0 rfl) ?_
    refine qgX8_26_0 S K hs dX8_read_40 ?_
    refine lv_aload_n S.1 S.2.1 dX8_read_43 rfl (lv_at hl 0 rfl) ?_
    refine qgX8_12_0 S K hs dX8_read_44 ?_
    refine qcU (qV1 K hs) S K hs hl.1 hf (fun _ hX => metX2_save _ _ _ _ _ _ _ _ _ _ hX) (cwX8_48 S.2.2.2.2 ⟨Nat.le_of_ble_eq_true rfl, Nat.le_of_ble_eq_true rfl⟩) rfl dX8_read_47 rfl (Nat.le_of_ble_eq_true rfl) ⟨Nat.le_of_ble_eq_true rfl, Nat.le_of_ble_eq_true rfl⟩ (fun σ2 H locs hs hf => ?_)
    refine lv_aload_n S.1 S.2.1 dX8_read_50 rfl (lv_at hl 0 rfl) ?_
    refine qgX8_12_0 S K hs dX8_read_51 ?_
    refine qgX8_62_8 S K hs dX8_read_54 ?_
    refine lv_iload_n S.1 S.2.1 dX8_read_57 rfl (lv_at hl 1 rfl) ?_
    refine lv_iload_n S.1 S.2.1 dX8_read_58 rfl (lv_at hl 2 rfl) ?_
    refine lv_iconst S.1 S.2.1 dX8_read_59 k_iconst_m1 ?_
    refine qgU0 (qV18 K hs) S K hs hl.1 hf (fun _ hX => metX7_ask _ _ _ _ _ _ _ _ _ hX) (cwX8_76 S.2.2.2.2 ⟨Nat.le_of_ble_eq_true rfl, Nat.le_of_ble_eq_true rfl⟩) rfl dX8_read_60 rfl (Nat.le_of_ble_eq_true rfl) ⟨Nat.le_of_ble_eq_true rfl, Nat.le_of_ble_eq_true rfl⟩ (fun σ3 H locs hs hf => ?_)
    refine lv_aload_n S.1 S.2.1 dX8_read_63 rfl (lv_at hl 0 rfl) ?_
    refine qgX8_12_0 S K hs dX8_read_64 ?_
    refine lv_iload_n S.1 S.2.1 dX8_read_67 rfl (lv_at hl 1 rfl) ?_
    refine lv_iload_n S.1 S.2.1 dX8_read_68 rfl (lv_at hl 2 rfl) ?_
    refine lv_iconst S.1 S.2.1 dX8_read_69 k_iconst_0 ?_
    refine qgP0 (qV8 K hs) S K hs hl.1 hf (fun _ hX => metX4_isHit _ _ _ _ _ _ _ _ _ hX) (cwX8_79 S.2.2.2.2 ⟨Nat.le_of_ble_eq_true rfl, Nat.le_of_ble_eq_true rfl⟩) rfl dX8_read_70 rfl (Nat.le_of_ble_eq_true rfl) ⟨Nat.le_of_ble_eq_true rfl, Nat.le_of_ble_eq_true rfl⟩ (fun x4 H locs hs hf => ?_)
    refine z_if_eq (tgt := 80) S hf dX8_read_73 (by decide) (fun hf => ?_) (fun hf => ?_)
    · refine lv_iconst S.1 S.2.1 dX8_read_80 k_iconst_0 ?_
      exact qrI S K hr hk hs (hf.trans (congrArg some hres)) dX8_read_81
    · refine lv_iconst S.1 S.2.1 dX8_read_76 k_iconst_1 ?_
      refine lv_goto (tgt := 81) S.1 S.2.1 dX8_read_77 (by decide) ?_
      exact qrI S K hr hk hs (hf.trans (congrArg some hres)) dX8_read_81
  unfold fX8_read at hf
  refine lv_iload_n S.1 S.2.1 dX8_read_0 rfl (lv_at hl 1 rfl) ?_
  refine lv_aload_n S.1 S.2.1 dX8_read_1 rfl (lv_at hl 0 rfl) ?_
  refine qgX8_12_0 S K hs dX8_read_2 ?_
  refine qgX8_55_8 S K hs dX8_read_5 ?_
  refine qm0 S K hs hl.1 hf dX8_read_8 ⟨Nat.le_of_ble_eq_true rfl, Nat.le_of_ble_eq_true rfl⟩ (Nat.le_of_ble_eq_true rfl) ⟨Nat.le_of_ble_eq_true rfl, Nat.le_of_ble_eq_true rfl⟩ (fun H locs hs hf => ?_)
  refine lv_iload_n S.1 S.2.1 dX8_read_11 rfl (lv_at hl 2 rfl) ?_
  refine lv_bipush S.1 S.2.1 dX8_read_12 k_bipush_32 ?_
  refine qm0 S K hs hl.1 hf dX8_read_14 ⟨Nat.le_of_ble_eq_true rfl, Nat.le_of_ble_eq_true rfl⟩ (Nat.le_of_ble_eq_true rfl) ⟨Nat.le_of_ble_eq_true rfl, Nat.le_of_ble_eq_true rfl⟩ (fun H locs hs hf => ?_)
  refine lv_aload_n S.1 S.2.1 dX8_read_17 rfl (lv_at hl 0 rfl) ?_
  refine qgX8_12_0 S K hs dX8_read_18 ?_
  refine qgX8_62_8 S K hs dX8_read_21 ?_
  refine lv_iload_n S.1 S.2.1 dX8_read_24 rfl (lv_at hl 1 rfl) ?_
  refine qgP0 (qV18 K hs) S K hs hl.1 hf (fun _ hX => metX7_isPending _ _ _ _ _ _ _ hX) (cwX8_66 S.2.2.2.2 ⟨Nat.le_of_ble_eq_true rfl, Nat.le_of_ble_eq_true rfl⟩) rfl dX8_read_25 rfl (Nat.le_of_ble_eq_true rfl) ⟨Nat.le_of_ble_eq_true rfl, Nat.le_of_ble_eq_true rfl⟩ (fun x1 H locs hs hf => ?_)
  refine z_if_ne (tgt := 35) S hf dX8_read_28 (by decide) (fun hf => ?_) (fun hf => ?_)
  · refine lv_iconst S.1 S.2.1 dX8_read_35 k_iconst_0 ?_
    exact J36 _ _ _ _ hf _ _ _ (lv_sub hl [0, 1, 2] rfl) hs
  · refine lv_iconst S.1 S.2.1 dX8_read_31 k_iconst_1 ?_
    refine lv_goto (tgt := 36) S.1 S.2.1 dX8_read_32 (by decide) ?_
    exact J36 _ _ _ _ hf _ _ _ (lv_sub hl [0, 1, 2] rfl) hs
theorem metX8_read (l : Launch) (D : va_G) (cI : ClassId) (cB cM : ClassId) (ad6 : Nat → Nat) (a : Nat → Nat → Nat) (A : Nat → Prop) (a0 : Int32) (a1 : Int32) (σ : cSt) (r0 : Int32) (σ0 : cSt) (hf : fX8_read a0 a1 σ = some (r0, σ0)) : Met l yX8_read (Cond.code yX8_read cX8_read 3 (some .int) :: WA) rmX8_read (qPc D cI cB cM ad6 a A σ [.ref (a 0 0), .int a0, .int a1]) ((qQi D cI cB cM ad6 a A r0 σ0)) 0 0 (A) :=
  qMet (by decide) (Nat.le_of_ble_eq_true rfl) (fun p e s m args below meth c H locs ls S K hr hk hl hs => bdX8_read S K hr hk _ _ _ _ _ hf hl hs)
set_option maxHeartbeats 4000000 in
set_option maxRecDepth 100000 in
theorem bdX8_tear {p : Program} {l : Launch} {e : Env} {s : State} {m : MethodId} {args : Array Value} {below : List Frame} {meth : Method} {c : Code} {H : Heap} {locs : List Loc} {ls : Array Slot} {D : va_G} {cI : ClassId} {cB cM : ClassId} {ad6 : Nat → Nat} {a : Nat → Nat → Nat} {A : Nat → Prop} (S : CallFix p m c cX8_tear 3 s args WA RX8) (K : qK D cI cB cM ad6 A s) (hr : meth.sig.returnType = (some .int)) (hk : meth.locks = false) (a0 : Int32) (σ : cSt) (r0 : Int32) (σ0 : cSt) (hf : fX8_tear a0 σ = some (r0, σ0)) (hl : lv_has ls 3 [(0, .ref (a 0 0)), (1, .int a0)]) (hs : qS D cI cB cM ad6 a A s σ H locs) : W p l e rmX8_tear s m args below meth c H locs 0 0 (MQ below (qQi D cI cB cM ad6 a A r0 σ0) args s 0 0 (A)) (F0 m 0 ls []) := by
  obtain ⟨res, hres⟩ : ∃ q, q = (r0, σ0) := ⟨_, rfl⟩
  rw [← hres] at hf
  have J60 : ∀ (y2 : Int32) (w0 : Int32) (w1 : Int32) (σ : cSt), fX8_tear_j60 y2 w0 w1 σ = some res → qGo p l e rmX8_tear s m args below meth c (MQ below (qQi D cI cB cM ad6 a A r0 σ0) args s 0 0 (A)) D cI cB cM ad6 a A 0 0 3 σ [(0, .ref (a 0 0)), (2, .int y2)] 60 [.int w0, .int w1, .ref (a 1 8)] := by
    intro y2 w0 w1 σ hf H locs ls hl hs
    unfold fX8_tear_j60 at hf
    refine qgU0 (qV16 K hs) S K hs hl.1 hf (fun _ hX => metX1_tearOut _ _ _ _ _ _ _ _ hX) (cwX8_126 S.2.2.2.2 ⟨Nat.le_of_ble_eq_true rfl, Nat.le_of_ble_eq_true rfl⟩) rfl dX8_tear_60 rfl (Nat.le_of_ble_eq_true rfl) ⟨Nat.le_of_ble_eq_true rfl, Nat.le_of_ble_eq_true rfl⟩ (fun σ4 H locs hs hf => ?_)
    refine lv_iload_n S.1 S.2.1 dX8_tear_63 rfl (lv_at hl 1 rfl) ?_
    exact qrI S K hr hk hs (hf.trans (congrArg some hres)) dX8_tear_64
  unfold fX8_tear at hf
  refine lv_iload_n S.1 S.2.1 dX8_tear_0 rfl (lv_at hl 1 rfl) ?_
  refine lv_bipush S.1 S.2.1 dX8_tear_1 k_bipush_32 ?_
  refine qm0 S K hs hl.1 hf dX8_tear_3 ⟨Nat.le_of_ble_eq_true rfl, Nat.le_of_ble_eq_true rfl⟩ (Nat.le_of_ble_eq_true rfl) ⟨Nat.le_of_ble_eq_true rfl, Nat.le_of_ble_eq_true rfl⟩ (fun H locs hs hf => ?_)
  refine lv_aload_n S.1 S.2.1 dX8_tear_6 rfl (lv_at hl 0 rfl) ?_
  refine qgX8_12_0 S K hs dX8_tear_7 ?_
  refine qgX8_114_8 S K hs dX8_tear_10 ?_
  refine lv_iload_n S.1 S.2.1 dX8_tear_13 rfl (lv_at hl 1 rfl) ?_
  refine qgP0 (qV16 K hs) S K hs hl.1 hf (fun _ hX => metX1_hasPage _ _ _ _ _ _ _ hX) (cwX8_118 S.2.2.2.2 ⟨Nat.le_of_ble_eq_true rfl, Nat.le_of_ble_eq_true rfl⟩) rfl dX8_tear_14 rfl (Nat.le_of_ble_eq_true rfl) ⟨Nat.le_of_ble_eq_true rfl, Nat.le_of_ble_eq_true rfl⟩ (fun x1 H locs hs hf => ?_)
  refine qm2 S K hs hl.1 hf dX8_tear_17 ⟨Nat.le_of_ble_eq_true rfl, Nat.le_of_ble_eq_true rfl⟩ (Nat.le_of_ble_eq_true rfl) ⟨Nat.le_of_ble_eq_true rfl, Nat.le_of_ble_eq_true rfl⟩ (fun H locs hs hf => ?_)
  refine lv_aload_n S.1 S.2.1 dX8_tear_20 rfl (lv_at hl 0 rfl) ?_
  refine qgX8_26_0 S K hs dX8_tear_21 ?_
  refine lv_aload_n S.1 S.2.1 dX8_tear_24 rfl (lv_at hl 0 rfl) ?_
  refine qgX8_12_0 S K hs dX8_tear_25 ?_
  refine qcU (qV1 K hs) S K hs hl.1 hf (fun _ hX => metX2_save _ _ _ _ _ _ _ _ _ _ hX) (cwX8_48 S.2.2.2.2 ⟨Nat.le_of_ble_eq_true rfl, Nat.le_of_ble_eq_true rfl⟩) rfl dX8_tear_28 rfl (Nat.le_of_ble_eq_true rfl) ⟨Nat.le_of_ble_eq_true rfl, Nat.le_of_ble_eq_true rfl⟩ (fun σ2 H locs hs hf => ?_)
  refine lv_aload_n S.1 S.2.1 dX8_tear_31 rfl (lv_at hl 0 rfl) ?_
  refine qgX8_12_0 S K hs dX8_tear_32 ?_
  refine qgX8_98_8 S K hs dX8_tear_35 ?_
  refine lv_iload_n S.1 S.2.1 dX8_tear_38 rfl (lv_at hl 1 rfl) ?_
  refine qgP0 (qV11 K hs) S K hs hl.1 hf (fun _ hX => metX0_countOf _ _ _ _ _ _ _ hX) (cwX8_123 S.2.2.2.2 ⟨Nat.le_of_ble_eq_true rfl, Nat.le_of_ble_eq_true rfl⟩) rfl dX8_tear_39 rfl (Nat.le_of_ble_eq_true rfl) ⟨Nat.le_of_ble_eq_true rfl, Nat.le_of_ble_eq_true rfl⟩ (fun x3 H locs hs hf => ?_)
  refine lv_istore_n (lv' := [(2, .int x3), (0, .ref (a 0 0)), (1, .int a0)]) S.1 S.2.1 dX8_tear_42 rfl hl (by decide) rfl (fun ls hl => ?_)
  refine lv_aload_n S.1 S.2.1 dX8_tear_43 rfl (lv_at hl 1 rfl) ?_
  refine qgX8_12_0 S K hs dX8_tear_44 ?_
  refine qgX8_114_8 S K hs dX8_tear_47 ?_
  refine lv_iload_n S.1 S.2.1 dX8_tear_50 rfl (lv_at hl 2 rfl) ?_
  refine lv_iload_n S.1 S.2.1 dX8_tear_51 rfl (lv_at hl 0 rfl) ?_
  refine z_if_le (tgt := 59) S hf dX8_tear_52 (by decide) (fun hf => ?_) (fun hf => ?_)
  · refine lv_iconst S.1 S.2.1 dX8_tear_59 k_iconst_0 ?_
    exact J60 _ _ _ _ hf _ _ _ (lv_sub hl [1, 0] rfl) hs
  · refine lv_iconst S.1 S.2.1 dX8_tear_55 k_iconst_1 ?_
    refine lv_goto (tgt := 60) S.1 S.2.1 dX8_tear_56 (by decide) ?_
    exact J60 _ _ _ _ hf _ _ _ (lv_sub hl [1, 0] rfl) hs
theorem metX8_tear (l : Launch) (D : va_G) (cI : ClassId) (cB cM : ClassId) (ad6 : Nat → Nat) (a : Nat → Nat → Nat) (A : Nat → Prop) (a0 : Int32) (σ : cSt) (r0 : Int32) (σ0 : cSt) (hf : fX8_tear a0 σ = some (r0, σ0)) : Met l yX8_tear (Cond.code yX8_tear cX8_tear 3 (some .int) :: WA) rmX8_tear (qPc D cI cB cM ad6 a A σ [.ref (a 0 0), .int a0]) ((qQi D cI cB cM ad6 a A r0 σ0)) 0 0 (A) :=
  qMet (by decide) (Nat.le_of_ble_eq_true rfl) (fun p e s m args below meth c H locs ls S K hr hk hl hs => bdX8_tear S K hr hk _ _ _ _ hf hl hs)
set_option maxHeartbeats 4000000 in
set_option maxRecDepth 100000 in
theorem bdX8_undo {p : Program} {l : Launch} {e : Env} {s : State} {m : MethodId} {args : Array Value} {below : List Frame} {meth : Method} {c : Code} {H : Heap} {locs : List Loc} {ls : Array Slot} {D : va_G} {cI : ClassId} {cB cM : ClassId} {ad6 : Nat → Nat} {a : Nat → Nat → Nat} {A : Nat → Prop} (S : CallFix p m c cX8_undo 1 s args WA RX8) (K : qK D cI cB cM ad6 A s) (hr : meth.sig.returnType = (some .int)) (hk : meth.locks = false) (σ : cSt) (r0 : Int32) (σ0 : cSt) (hf : fX8_undo σ = some (r0, σ0)) (hl : lv_has ls 1 [(0, .ref (a 0 0))]) (hs : qS D cI cB cM ad6 a A s σ H locs) : W p l e rmX8_undo s m args below meth c H locs 0 0 (MQ below (qQi D cI cB cM ad6 a A r0 σ0) args s 0 0 (A)) (F0 m 0 ls []) := by
  obtain ⟨res, hres⟩ : ∃ q, q = (r0, σ0) := ⟨_, rfl⟩
  rw [← hres] at hf
  have J15 : ∀ (w0 : Int32) (σ : cSt), fX8_undo_j15 w0 σ = some res → qGo p l e rmX8_undo s m args below meth c (MQ below (qQi D cI cB cM ad6 a A r0 σ0) args s 0 0 (A)) D cI cB cM ad6 a A 0 0 1 σ [(0, .ref (a 0 0))] 15 [.int w0] := by
    intro w0 σ hf H locs ls hl hs
    unfold fX8_undo_j15 at hf
    refine qm2 S K hs hl.1 hf dX8_undo_15 ⟨Nat.le_of_ble_eq_true rfl, Nat.le_of_ble_eq_true rfl⟩ (Nat.le_of_ble_eq_true rfl) ⟨Nat.le_of_ble_eq_true rfl, Nat.le_of_ble_eq_true rfl⟩ (fun H locs hs hf => ?_)
    refine lv_aload_n S.1 S.2.1 dX8_undo_18 rfl (lv_at hl 0 rfl) ?_
    refine qgX8_26_0 S K hs dX8_undo_19 ?_
    refine lv_aload_n S.1 S.2.1 dX8_undo_22 rfl (lv_at hl 0 rfl) ?_
    refine qgX8_12_0 S K hs dX8_undo_23 ?_
    refine qcU (qV1 K hs) S K hs hl.1 hf (fun _ hX => metX2_restore _ _ _ _ _ _ _ _ _ _ hX) (cwX8_195 S.2.2.2.2 ⟨Nat.le_of_ble_eq_true rfl, Nat.le_of_ble_eq_true rfl⟩) rfl dX8_undo_26 rfl (Nat.le_of_ble_eq_true rfl) ⟨Nat.le_of_ble_eq_true rfl, Nat.le_of_ble_eq_true rfl⟩ (fun σ1 H locs hs hf => ?_)
    refine lv_aload_n S.1 S.2.1 dX8_undo_29 rfl (lv_at hl 0 rfl) ?_
    refine qgX8_26_0 S K hs dX8_undo_30 ?_
    refine qgX8_194_1 S K hs dX8_undo_33 ?_
    exact qrI S K hr hk hs (hf.trans (congrArg some hres)) dX8_undo_36
  unfold fX8_undo at hf
  refine lv_aload_n S.1 S.2.1 dX8_undo_0 rfl (lv_at hl 0 rfl) ?_
  refine qgX8_26_0 S K hs dX8_undo_1 ?_
  refine qgX8_194_1 S K hs dX8_undo_4 ?_
  refine z_if_le (tgt := 14) S hf dX8_undo_7 (by decide) (fun hf => ?_) (fun hf => ?_)
  · refine lv_iconst S.1 S.2.1 dX8_undo_14 k_iconst_0 ?_
    exact J15 _ _ hf _ _ _ (lv_sub hl [0] rfl) hs
  · refine lv_iconst S.1 S.2.1 dX8_undo_10 k_iconst_1 ?_
    refine lv_goto (tgt := 15) S.1 S.2.1 dX8_undo_11 (by decide) ?_
    exact J15 _ _ hf _ _ _ (lv_sub hl [0] rfl) hs
theorem metX8_undo (l : Launch) (D : va_G) (cI : ClassId) (cB cM : ClassId) (ad6 : Nat → Nat) (a : Nat → Nat → Nat) (A : Nat → Prop) (σ : cSt) (r0 : Int32) (σ0 : cSt) (hf : fX8_undo σ = some (r0, σ0)) : Met l yX8_undo (Cond.code yX8_undo cX8_undo 1 (some .int) :: WA) rmX8_undo (qPc D cI cB cM ad6 a A σ [.ref (a 0 0)]) ((qQi D cI cB cM ad6 a A r0 σ0)) 0 0 (A) :=
  qMet (by decide) (Nat.le_of_ble_eq_true rfl) (fun p e s m args below meth c H locs ls S K hr hk hl hs => bdX8_undo S K hr hk  _ _ _ hf hl hs)
set_option maxHeartbeats 4000000 in
set_option maxRecDepth 100000 in
theorem bdX8_value {p : Program} {l : Launch} {e : Env} {s : State} {m : MethodId} {args : Array Value} {below : List Frame} {meth : Method} {c : Code} {H : Heap} {locs : List Loc} {ls : Array Slot} {D : va_G} {cI : ClassId} {cB cM : ClassId} {ad6 : Nat → Nat} {a : Nat → Nat → Nat} {A : Nat → Prop} (S : CallFix p m c cX8_value 2 s args WA RX8) (K : qK D cI cB cM ad6 A s) (hr : meth.sig.returnType = (some .int)) (hk : meth.locks = false) (a0 : Int32) (σ : cSt) (r0 : Int32) (hf : fX8_value a0 σ = some r0) (hl : lv_has ls 2 [(0, .ref (a 0 0)), (1, .int a0)]) (hs : qS D cI cB cM ad6 a A s σ H locs) : W p l e rmX8_value s m args below meth c H locs 0 0 (MQ below (qQi D cI cB cM ad6 a A r0 σ) args s 0 0 (A)) (F0 m 0 ls []) := by
  unfold fX8_value at hf
  refine lv_iload_n S.1 S.2.1 dX8_value_0 rfl (lv_at hl 1 rfl) ?_
  refine lv_iconst S.1 S.2.1 dX8_value_1 k_iconst_0 ?_
  refine lv_bipush S.1 S.2.1 dX8_value_2 k_bipush_13 ?_
  refine qm1 S K hs hl.1 hf dX8_value_4 ⟨Nat.le_of_ble_eq_true rfl, Nat.le_of_ble_eq_true rfl⟩ (Nat.le_of_ble_eq_true rfl) ⟨Nat.le_of_ble_eq_true rfl, Nat.le_of_ble_eq_true rfl⟩ (fun H locs hs hf => ?_)
  refine lv_aload_n S.1 S.2.1 dX8_value_7 rfl (lv_at hl 0 rfl) ?_
  refine qgX8_12_0 S K hs dX8_value_8 ?_
  refine lv_iload_n S.1 S.2.1 dX8_value_11 rfl (lv_at hl 1 rfl) ?_
  refine qgP0 (qV8 K hs) S K hs hl.1 hf (fun _ hX => metX4_number _ _ _ _ _ _ _ hX) (cwX8_149 S.2.2.2.2 ⟨Nat.le_of_ble_eq_true rfl, Nat.le_of_ble_eq_true rfl⟩) rfl dX8_value_12 rfl (Nat.le_of_ble_eq_true rfl) ⟨Nat.le_of_ble_eq_true rfl, Nat.le_of_ble_eq_true rfl⟩ (fun x1 H locs hs hf => ?_)
  exact qrP S K hr hk hs hf dX8_value_15
theorem metX8_value (l : Launch) (D : va_G) (cI : ClassId) (cB cM : ClassId) (ad6 : Nat → Nat) (a : Nat → Nat → Nat) (A : Nat → Prop) (a0 : Int32) (σ : cSt) (r0 : Int32) (hf : fX8_value a0 σ = some r0) : Met l yX8_value (Cond.code yX8_value cX8_value 2 (some .int) :: WA) rmX8_value (qPc D cI cB cM ad6 a A σ [.ref (a 0 0), .int a0]) ((qQi D cI cB cM ad6 a A r0 σ)) 0 0 (A) :=
  qMet (by decide) (Nat.le_of_ble_eq_true rfl) (fun p e s m args below meth c H locs ls S K hr hk hl hs => bdX8_value S K hr hk _ _ _ hf hl hs)
set_option maxHeartbeats 4000000 in
set_option maxRecDepth 100000 in
theorem bdX8_write {p : Program} {l : Launch} {e : Env} {s : State} {m : MethodId} {args : Array Value} {below : List Frame} {meth : Method} {c : Code} {H : Heap} {locs : List Loc} {ls : Array Slot} {D : va_G} {cI : ClassId} {cB cM : ClassId} {ad6 : Nat → Nat} {a : Nat → Nat → Nat} {A : Nat → Prop} (S : CallFix p m c cX8_write 4 s args WA RX8) (K : qK D cI cB cM ad6 A s) (hr : meth.sig.returnType = (some .int)) (hk : meth.locks = false) (a0 : Int32) (a1 : Int32) (a2 : Int32) (σ : cSt) (r0 : Int32) (σ0 : cSt) (hf : fX8_write a0 a1 a2 σ = some (r0, σ0)) (hl : lv_has ls 4 [(0, .ref (a 0 0)), (1, .int a0), (2, .int a1), (3, .int a2)]) (hs : qS D cI cB cM ad6 a A s σ H locs) : W p l e rmX8_write s m args below meth c H locs 0 0 (MQ below (qQi D cI cB cM ad6 a A r0 σ0) args s 0 0 (A)) (F0 m 0 ls []) := by
  obtain ⟨res, hres⟩ : ∃ q, q = (r0, σ0) := ⟨_, rfl⟩
  rw [← hres] at hf
  have J44 : ∀ (y1 : Int32) (y2 : Int32) (y3 : Int32) (w0 : Int32) (σ : cSt), fX8_write_j44 y1 y2 y3 w0 σ = some res → qGo p l e rmX8_write s m args below meth c (MQ below (qQi D cI cB cM ad6 a A r0 σ0) args s 0 0 (A)) D cI cB cM ad6 a A 0 0 4 σ [(0, .ref (a 0 0)), (1, .int y1), (2, .int y2), (3, .int y3)] 44 [.int w0] := by
    intro y1 y2 y3 w0 σ hf H locs ls hl hs
    unfold fX8_write_j44 at hf
    refine qm2 S K hs hl.1 hf dX8_write_44 ⟨Nat.le_of_ble_eq_true rfl, Nat.le_of_ble_eq_true rfl⟩ (Nat.le_of_ble_eq_true rfl) ⟨Nat.le_of_ble_eq_true rfl, Nat.le_of_ble_eq_true rfl⟩ (fun H locs hs hf => ?_)
    refine lv_aload_n S.1 S.2.1 dX8_write_47 rfl (lv_at hl 0 rfl) ?_
    refine qgX8_26_0 S K hs dX8_write_48 ?_
    refine lv_aload_n S.1 S.2.1 dX8_write_51 rfl (lv_at hl 0 rfl) ?_
    refine qgX8_12_0 S K hs dX8_write_52 ?_
    refine qcU (qV1 K hs) S K hs hl.1 hf (fun _ hX => metX2_save _ _ _ _ _ _ _ _ _ _ hX) (cwX8_48 S.2.2.2.2 ⟨Nat.le_of_ble_eq_true rfl, Nat.le_of_ble_eq_true rfl⟩) rfl dX8_write_55 rfl (Nat.le_of_ble_eq_true rfl) ⟨Nat.le_of_ble_eq_true rfl, Nat.le_of_ble_eq_true rfl⟩ (fun σ2 H locs hs hf => ?_)
    refine lv_aload_n S.1 S.2.1 dX8_write_58 rfl (lv_at hl 0 rfl) ?_
    refine qgX8_12_0 S K hs dX8_write_59 ?_
    refine qgX8_62_8 S K hs dX8_write_62 ?_
    refine lv_iload_n S.1 S.2.1 dX8_write_65 rfl (lv_at hl 1 rfl) ?_
    refine lv_iload_n S.1 S.2.1 dX8_write_66 rfl (lv_at hl 2 rfl) ?_
    refine lv_iload_n S.1 S.2.1 dX8_write_67 rfl (lv_at hl 3 rfl) ?_
    refine qgU0 (qV18 K hs) S K hs hl.1 hf (fun _ hX => metX7_ask _ _ _ _ _ _ _ _ _ hX) (cwX8_76 S.2.2.2.2 ⟨Nat.le_of_ble_eq_true rfl, Nat.le_of_ble_eq_true rfl⟩) rfl dX8_write_68 rfl (Nat.le_of_ble_eq_true rfl) ⟨Nat.le_of_ble_eq_true rfl, Nat.le_of_ble_eq_true rfl⟩ (fun σ3 H locs hs hf => ?_)
    refine lv_aload_n S.1 S.2.1 dX8_write_71 rfl (lv_at hl 0 rfl) ?_
    refine qgX8_12_0 S K hs dX8_write_72 ?_
    refine lv_iload_n S.1 S.2.1 dX8_write_75 rfl (lv_at hl 1 rfl) ?_
    refine lv_iload_n S.1 S.2.1 dX8_write_76 rfl (lv_at hl 2 rfl) ?_
    refine lv_iconst S.1 S.2.1 dX8_write_77 k_iconst_1 ?_
    refine qgP0 (qV8 K hs) S K hs hl.1 hf (fun _ hX => metX4_isHit _ _ _ _ _ _ _ _ _ hX) (cwX8_79 S.2.2.2.2 ⟨Nat.le_of_ble_eq_true rfl, Nat.le_of_ble_eq_true rfl⟩) rfl dX8_write_78 rfl (Nat.le_of_ble_eq_true rfl) ⟨Nat.le_of_ble_eq_true rfl, Nat.le_of_ble_eq_true rfl⟩ (fun x4 H locs hs hf => ?_)
    refine z_if_eq (tgt := 88) S hf dX8_write_81 (by decide) (fun hf => ?_) (fun hf => ?_)
    · refine lv_iconst S.1 S.2.1 dX8_write_88 k_iconst_0 ?_
      exact qrI S K hr hk hs (hf.trans (congrArg some hres)) dX8_write_89
    · refine lv_iconst S.1 S.2.1 dX8_write_84 k_iconst_1 ?_
      refine lv_goto (tgt := 89) S.1 S.2.1 dX8_write_85 (by decide) ?_
      exact qrI S K hr hk hs (hf.trans (congrArg some hres)) dX8_write_89
  unfold fX8_write at hf
  refine lv_iload_n S.1 S.2.1 dX8_write_0 rfl (lv_at hl 1 rfl) ?_
  refine lv_aload_n S.1 S.2.1 dX8_write_1 rfl (lv_at hl 0 rfl) ?_
  refine qgX8_12_0 S K hs dX8_write_2 ?_
  refine qgX8_55_8 S K hs dX8_write_5 ?_
  refine qm0 S K hs hl.1 hf dX8_write_8 ⟨Nat.le_of_ble_eq_true rfl, Nat.le_of_ble_eq_true rfl⟩ (Nat.le_of_ble_eq_true rfl) ⟨Nat.le_of_ble_eq_true rfl, Nat.le_of_ble_eq_true rfl⟩ (fun H locs hs hf => ?_)
  refine lv_iload_n S.1 S.2.1 dX8_write_11 rfl (lv_at hl 2 rfl) ?_
  refine lv_bipush S.1 S.2.1 dX8_write_12 k_bipush_32 ?_
  refine qm0 S K hs hl.1 hf dX8_write_14 ⟨Nat.le_of_ble_eq_true rfl, Nat.le_of_ble_eq_true rfl⟩ (Nat.le_of_ble_eq_true rfl) ⟨Nat.le_of_ble_eq_true rfl, Nat.le_of_ble_eq_true rfl⟩ (fun H locs hs hf => ?_)
  refine lv_iload_n S.1 S.2.1 dX8_write_17 rfl (lv_at hl 3 rfl) ?_
  refine lv_iconst S.1 S.2.1 dX8_write_18 k_iconst_0 ?_
  refine lv_sipush S.1 S.2.1 dX8_write_19 k_sipush_999 ?_
  refine qm1 S K hs hl.1 hf dX8_write_22 ⟨Nat.le_of_ble_eq_true rfl, Nat.le_of_ble_eq_true rfl⟩ (Nat.le_of_ble_eq_true rfl) ⟨Nat.le_of_ble_eq_true rfl, Nat.le_of_ble_eq_true rfl⟩ (fun H locs hs hf => ?_)
  refine lv_aload_n S.1 S.2.1 dX8_write_25 rfl (lv_at hl 0 rfl) ?_
  refine qgX8_12_0 S K hs dX8_write_26 ?_
  refine qgX8_62_8 S K hs dX8_write_29 ?_
  refine lv_iload_n S.1 S.2.1 dX8_write_32 rfl (lv_at hl 1 rfl) ?_
  refine qgP0 (qV18 K hs) S K hs hl.1 hf (fun _ hX => metX7_isPending _ _ _ _ _ _ _ hX) (cwX8_66 S.2.2.2.2 ⟨Nat.le_of_ble_eq_true rfl, Nat.le_of_ble_eq_true rfl⟩) rfl dX8_write_33 rfl (Nat.le_of_ble_eq_true rfl) ⟨Nat.le_of_ble_eq_true rfl, Nat.le_of_ble_eq_true rfl⟩ (fun x1 H locs hs hf => ?_)
  refine z_if_ne (tgt := 43) S hf dX8_write_36 (by decide) (fun hf => ?_) (fun hf => ?_)
  · refine lv_iconst S.1 S.2.1 dX8_write_43 k_iconst_0 ?_
    exact J44 _ _ _ _ _ hf _ _ _ (lv_sub hl [0, 1, 2, 3] rfl) hs
  · refine lv_iconst S.1 S.2.1 dX8_write_39 k_iconst_1 ?_
    refine lv_goto (tgt := 44) S.1 S.2.1 dX8_write_40 (by decide) ?_
    exact J44 _ _ _ _ _ hf _ _ _ (lv_sub hl [0, 1, 2, 3] rfl) hs
theorem metX8_write (l : Launch) (D : va_G) (cI : ClassId) (cB cM : ClassId) (ad6 : Nat → Nat) (a : Nat → Nat → Nat) (A : Nat → Prop) (a0 : Int32) (a1 : Int32) (a2 : Int32) (σ : cSt) (r0 : Int32) (σ0 : cSt) (hf : fX8_write a0 a1 a2 σ = some (r0, σ0)) : Met l yX8_write (Cond.code yX8_write cX8_write 4 (some .int) :: WA) rmX8_write (qPc D cI cB cM ad6 a A σ [.ref (a 0 0), .int a0, .int a1, .int a2]) ((qQi D cI cB cM ad6 a A r0 σ0)) 0 0 (A) :=
  qMet (by decide) (Nat.le_of_ble_eq_true rfl) (fun p e s m args below meth c H locs ls S K hr hk hl hs => bdX8_write S K hr hk _ _ _ _ _ _ hf hl hs)
