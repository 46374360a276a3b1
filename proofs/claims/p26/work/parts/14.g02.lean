/-! a machine: contracts (by wip/tools/gworld.py) -/
set_option maxHeartbeats 4000000 in
set_option maxRecDepth 100000 in
theorem bdX4_makeRoomInDiary {p : Program} {l : Launch} {e : Env} {s : State} {m : MethodId} {args : Array Value} {below : List Frame} {meth : Method} {c : Code} {H : Heap} {locs : List Loc} {ls : Array Slot} {D : va_G} {cI : ClassId} {g : Nat → Nat} (S : CallFix p m c cX4_makeRoomInDiary 2 s args WA RX4) (K : va_K D vwCl [(cI, .int)] s) (hr : meth.sig.returnType = none) (hk : meth.locks = false) (σ : zSt) (σ0 : zSt) (hf : fX4_makeRoomInDiary σ = some σ0) (hl : lv_has ls 2 [(0, .ref (g 0))]) (hs : gS D cI g s σ H locs) : W p l e rmX4_makeRoomInDiary s m args below meth c H locs 0 0 (MQ below (gQv D cI g σ0) args s 0 0 (gA g)) (F0 m 0 ls []) := by
  obtain ⟨res, hres⟩ : ∃ q, q = σ0 := ⟨_, rfl⟩
  rw [← hres] at hf
  have J34 : ∀ (w0 : Int32) (w1 : Int32) (σ : zSt), fX4_makeRoomInDiary_j34 w0 w1 σ = some res → gGo p l e rmX4_makeRoomInDiary s m args below meth c (MQ below (gQv D cI g σ0) args s 0 0 (gA g)) D cI g 2 σ [(0, .ref (g 0))] 34 [.int w0, .int w1, .ref (g 8)] := by
    intro w0 w1 σ hf H locs ls hl hs
    unfold fX4_makeRoomInDiary_j34 at hf
    refine gcU (gV8 K hs) S K hs hl.1 hf (fun _ hX => metX1_tearOut _ _ _ _ _ _ _ _ hX) (cwX4_222 S.2.2.2.2 ⟨Nat.le_of_ble_eq_true rfl, Nat.le_of_ble_eq_true rfl⟩) rfl dX4_makeRoomInDiary_34 rfl (Nat.le_of_ble_eq_true rfl) ⟨Nat.le_refl _, Nat.le_refl _⟩ (fun σ3 H locs hs hf => ?_)
    exact grV S K hr hk hs (hf.trans (congrArg some hres)) dX4_makeRoomInDiary_37
  unfold fX4_makeRoomInDiary at hf
  refine lv_aload_n S.1 S.2.1 dX4_makeRoomInDiary_0 rfl (lv_at hl 0 rfl) ?_
  refine ggX4_28_0 S K hs dX4_makeRoomInDiary_1 ?_
  refine gcP (gV8 K hs) S K hs hl.1 hf (fun _ hX => metX1_lineToTear _ _ _ _ _ _ hX) (cwX4_216 S.2.2.2.2 ⟨Nat.le_of_ble_eq_true rfl, Nat.le_of_ble_eq_true rfl⟩) rfl dX4_makeRoomInDiary_4 rfl (Nat.le_of_ble_eq_true rfl) ⟨Nat.le_refl _, Nat.le_refl _⟩ (fun x1 H locs hs hf => ?_)
  refine lv_istore_n (lv' := [(1, .int x1), (0, .ref (g 0))]) S.1 S.2.1 dX4_makeRoomInDiary_7 rfl hl (by decide) rfl (fun ls hl => ?_)
  refine lv_iload_n S.1 S.2.1 dX4_makeRoomInDiary_8 rfl (lv_at hl 0 rfl) ?_
  refine lv_iconst S.1 S.2.1 dX4_makeRoomInDiary_9 k_iconst_m1 ?_
  refine z_icmp_eq (tgt := 37) S hf dX4_makeRoomInDiary_10 (by decide) (fun hf => ?_) (fun hf => ?_)
  · exact grV S K hr hk hs (hf.trans (congrArg some hres)) dX4_makeRoomInDiary_37
  · refine lv_aload_n S.1 S.2.1 dX4_makeRoomInDiary_13 rfl (lv_at hl 1 rfl) ?_
    refine ggX4_28_0 S K hs dX4_makeRoomInDiary_14 ?_
    refine lv_iload_n S.1 S.2.1 dX4_makeRoomInDiary_17 rfl (lv_at hl 0 rfl) ?_
    refine lv_aload_n S.1 S.2.1 dX4_makeRoomInDiary_18 rfl (lv_at hl 1 rfl) ?_
    refine ggX4_21_0 S K hs dX4_makeRoomInDiary_19 ?_
    refine lv_iload_n S.1 S.2.1 dX4_makeRoomInDiary_22 rfl (lv_at hl 0 rfl) ?_
    refine gcP (gV3 K hs) S K hs hl.1 hf (fun _ hX => metX0_countOf _ _ _ _ _ _ _ hX) (cwX4_219 S.2.2.2.2 ⟨Nat.le_of_ble_eq_true rfl, Nat.le_of_ble_eq_true rfl⟩) rfl dX4_makeRoomInDiary_23 rfl (Nat.le_of_ble_eq_true rfl) ⟨Nat.le_refl _, Nat.le_refl _⟩ (fun x2 H locs hs hf => ?_)
    refine z_if_le (tgt := 33) S hf dX4_makeRoomInDiary_26 (by decide) (fun hf => ?_) (fun hf => ?_)
    · refine lv_iconst S.1 S.2.1 dX4_makeRoomInDiary_33 k_iconst_0 ?_
      exact J34 _ _ _ hf _ _ _ (lv_sub hl [1] rfl) hs
    · refine lv_iconst S.1 S.2.1 dX4_makeRoomInDiary_29 k_iconst_1 ?_
      refine lv_goto (tgt := 34) S.1 S.2.1 dX4_makeRoomInDiary_30 (by decide) ?_
      exact J34 _ _ _ hf _ _ _ (lv_sub hl [1] rfl) hs
theorem metX4_makeRoomInDiary (l : Launch) (D : va_G) (cI : ClassId) (g : Nat → Nat) (σ : zSt) (σ0 : zSt) (hf : fX4_makeRoomInDiary σ = some σ0) : Met l yX4_makeRoomInDiary (Cond.code yX4_makeRoomInDiary cX4_makeRoomInDiary 2 none :: WA) rmX4_makeRoomInDiary (gPc D cI g σ [.ref (g 0)]) ((gQv D cI g σ0)) 0 0 (gA g) :=
  gMet (by decide) (Nat.le_of_ble_eq_true rfl) (fun p e s m args below meth c H locs ls S K hr hk hl hs => bdX4_makeRoomInDiary S K hr hk  _ _ hf hl hs)
set_option maxHeartbeats 4000000 in
set_option maxRecDepth 100000 in
theorem bdX4_throwAway {p : Program} {l : Launch} {e : Env} {s : State} {m : MethodId} {args : Array Value} {below : List Frame} {meth : Method} {c : Code} {H : Heap} {locs : List Loc} {ls : Array Slot} {D : va_G} {cI : ClassId} {g : Nat → Nat} (S : CallFix p m c cX4_throwAway 3 s args WA RX4) (K : va_K D vwCl [(cI, .int)] s) (hr : meth.sig.returnType = none) (hk : meth.locks = false) (a0 : Int32) (a1 : Int32) (σ : zSt) (σ0 : zSt) (hf : fX4_throwAway a0 a1 σ = some σ0) (hl : lv_has ls 3 [(0, .ref (g 0)), (1, .int a0), (2, .int a1)]) (hs : gS D cI g s σ H locs) : W p l e rmX4_throwAway s m args below meth c H locs 0 0 (MQ below (gQv D cI g σ0) args s 0 0 (gA g)) (F0 m 0 ls []) := by
  obtain ⟨res, hres⟩ : ∃ q, q = σ0 := ⟨_, rfl⟩
  rw [← hres] at hf
  have J19 : ∀ (y1 : Int32) (y2 : Int32) (σ : zSt), fX4_throwAway_j19 y1 y2 σ = some res → gGo p l e rmX4_throwAway s m args below meth c (MQ below (gQv D cI g σ0) args s 0 0 (gA g)) D cI g 3 σ [(0, .ref (g 0)), (1, .int y1), (2, .int y2)] 19 [] := by
    intro y1 y2 σ hf H locs ls hl hs
    unfold fX4_throwAway_j19 at hf
    refine lv_aload_n S.1 S.2.1 dX4_throwAway_19 rfl (lv_at hl 0 rfl) ?_
    refine ggX4_21_0 S K hs dX4_throwAway_20 ?_
    refine lv_iload_n S.1 S.2.1 dX4_throwAway_23 rfl (lv_at hl 1 rfl) ?_
    refine lv_iload_n S.1 S.2.1 dX4_throwAway_24 rfl (lv_at hl 2 rfl) ?_
    refine gcU (gV3 K hs) S K hs hl.1 hf (fun _ hX => metX0_remove _ _ _ _ _ _ _ _ hX) (cwX4_226 S.2.2.2.2 ⟨Nat.le_of_ble_eq_true rfl, Nat.le_of_ble_eq_true rfl⟩) rfl dX4_throwAway_25 rfl (Nat.le_of_ble_eq_true rfl) ⟨Nat.le_refl _, Nat.le_refl _⟩ (fun σ2 H locs hs hf => ?_)
    exact grV S K hr hk hs (hf.trans (congrArg some hres)) dX4_throwAway_28
  unfold fX4_throwAway at hf
  refine lv_aload_n S.1 S.2.1 dX4_throwAway_0 rfl (lv_at hl 0 rfl) ?_
  refine ggX4_21_0 S K hs dX4_throwAway_1 ?_
  refine lv_iload_n S.1 S.2.1 dX4_throwAway_4 rfl (lv_at hl 1 rfl) ?_
  refine lv_iload_n S.1 S.2.1 dX4_throwAway_5 rfl (lv_at hl 2 rfl) ?_
  refine gcP (gV3 K hs) S K hs hl.1 hf (fun _ hX => metX0_kindOf _ _ _ _ _ _ _ _ hX) (cwX4_137 S.2.2.2.2 ⟨Nat.le_of_ble_eq_true rfl, Nat.le_of_ble_eq_true rfl⟩) rfl dX4_throwAway_6 rfl (Nat.le_of_ble_eq_true rfl) ⟨Nat.le_refl _, Nat.le_refl _⟩ (fun x1 H locs hs hf => ?_)
  refine lv_iconst S.1 S.2.1 dX4_throwAway_9 k_iconst_2 ?_
  refine z_icmp_ne (tgt := 19) S hf dX4_throwAway_10 (by decide) (fun hf => ?_) (fun hf => ?_)
  · exact J19 _ _ _ hf _ _ _ (lv_sub hl [0, 1, 2] rfl) hs
  · refine lv_aload_n S.1 S.2.1 dX4_throwAway_13 rfl (lv_at hl 0 rfl) ?_
    refine lv_iload_n S.1 S.2.1 dX4_throwAway_14 rfl (lv_at hl 1 rfl) ?_
    refine lv_iload_n S.1 S.2.1 dX4_throwAway_15 rfl (lv_at hl 2 rfl) ?_
    refine gcU (gV0 K hs) S K hs hl.1 hf (fun _ hX => metX4_bringBack _ _ _ _ _ _ _ _ hX) (cwX4_196 S.2.2.2.2 ⟨Nat.le_of_ble_eq_true rfl, Nat.le_of_ble_eq_true rfl⟩) rfl dX4_throwAway_16 rfl (Nat.le_of_ble_eq_true rfl) ⟨Nat.le_refl _, Nat.le_refl _⟩ (fun σ3 H locs hs hf => ?_)
    exact J19 _ _ _ hf _ _ _ (lv_sub hl [0, 1, 2] rfl) hs
theorem metX4_throwAway (l : Launch) (D : va_G) (cI : ClassId) (g : Nat → Nat) (a0 : Int32) (a1 : Int32) (σ : zSt) (σ0 : zSt) (hf : fX4_throwAway a0 a1 σ = some σ0) : Met l yX4_throwAway (Cond.code yX4_throwAway cX4_throwAway 3 none :: WA) rmX4_throwAway (gPc D cI g σ [.ref (g 0), .int a0, .int a1]) ((gQv D cI g σ0)) 0 0 (gA g) :=
  gMet (by decide) (Nat.le_of_ble_eq_true rfl) (fun p e s m args below meth c H locs ls S K hr hk hl hs => bdX4_throwAway S K hr hk _ _ _ _ hf hl hs)
set_option maxHeartbeats 4000000 in
set_option maxRecDepth 100000 in
theorem bdX4_fetch {p : Program} {l : Launch} {e : Env} {s : State} {m : MethodId} {args : Array Value} {below : List Frame} {meth : Method} {c : Code} {H : Heap} {locs : List Loc} {ls : Array Slot} {D : va_G} {cI : ClassId} {g : Nat → Nat} (S : CallFix p m c cX4_fetch 6 s args WA RX4) (K : va_K D vwCl [(cI, .int)] s) (hr : meth.sig.returnType = none) (hk : meth.locks = false) (a0 : Int32) (a1 : Int32) (a2 : Int32) (σ : zSt) (σ0 : zSt) (hf : fX4_fetch a0 a1 a2 σ = some σ0) (hl : lv_has ls 6 [(0, .ref (g 0)), (1, .int a0), (2, .int a1), (3, .int a2)]) (hs : gS D cI g s σ H locs) : W p l e rmX4_fetch s m args below meth c H locs 0 0 (MQ below (gQv D cI g σ0) args s 0 0 (gA g)) (F0 m 0 ls []) := by
  obtain ⟨res, hres⟩ : ∃ q, q = σ0 := ⟨_, rfl⟩
  rw [← hres] at hf
  have J128 : ∀ (y2 : Int32) (σ : zSt), fX4_fetch_j128 y2 σ = some res → gGo p l e rmX4_fetch s m args below meth c (MQ below (gQv D cI g σ0) args s 0 0 (gA g)) D cI g 6 σ [(0, .ref (g 0)), (2, .int y2)] 128 [] := by
    intro y2 σ hf H locs ls hl hs
    unfold fX4_fetch_j128 at hf
    refine lv_aload_n S.1 S.2.1 dX4_fetch_128 rfl (lv_at hl 0 rfl) ?_
    refine ggX4_28_0 S K hs dX4_fetch_129 ?_
    refine lv_iload_n S.1 S.2.1 dX4_fetch_132 rfl (lv_at hl 1 rfl) ?_
    refine gcU (gV8 K hs) S K hs hl.1 hf (fun _ hX => metX1_use _ _ _ _ _ _ _ hX) (cwX4_214 S.2.2.2.2 ⟨Nat.le_of_ble_eq_true rfl, Nat.le_of_ble_eq_true rfl⟩) rfl dX4_fetch_133 rfl (Nat.le_of_ble_eq_true rfl) ⟨Nat.le_refl _, Nat.le_refl _⟩ (fun σ4 H locs hs hf => ?_)
    exact grV S K hr hk hs (hf.trans (congrArg some hres)) dX4_fetch_136
  have J101 : ∀ (y1 : Int32) (y2 : Int32) (σ : zSt), fX4_fetch_j101 y1 y2 σ = some res → gGo p l e rmX4_fetch s m args below meth c (MQ below (gQv D cI g σ0) args s 0 0 (gA g)) D cI g 6 σ [(0, .ref (g 0)), (1, .int y1), (2, .int y2)] 101 [] := by
    intro y1 y2 σ hf H locs ls hl hs
    unfold fX4_fetch_j101 at hf
    refine lv_aload_n S.1 S.2.1 dX4_fetch_101 rfl (lv_at hl 0 rfl) ?_
    refine ggX4_21_0 S K hs dX4_fetch_102 ?_
    refine lv_iload_n S.1 S.2.1 dX4_fetch_105 rfl (lv_at hl 1 rfl) ?_
    refine lv_iload_n S.1 S.2.1 dX4_fetch_106 rfl (lv_at hl 2 rfl) ?_
    refine lv_aload_n S.1 S.2.1 dX4_fetch_107 rfl (lv_at hl 0 rfl) ?_
    refine ggX4_9_0 S K hs dX4_fetch_108 ?_
    refine lv_iload_n S.1 S.2.1 dX4_fetch_111 rfl (lv_at hl 2 rfl) ?_
    refine gld1 S K hs hf dX4_fetch_112 (fun x6 hf => ?_)
    refine lv_aload_n S.1 S.2.1 dX4_fetch_113 rfl (lv_at hl 0 rfl) ?_
    refine ggX4_21_0 S K hs dX4_fetch_114 ?_
    refine lv_iload_n S.1 S.2.1 dX4_fetch_117 rfl (lv_at hl 1 rfl) ?_
    refine lv_aload_n S.1 S.2.1 dX4_fetch_118 rfl (lv_at hl 0 rfl) ?_
    refine ggX4_69_0 S K hs dX4_fetch_119 ?_
    refine gcP (gV3 K hs) S K hs hl.1 hf (fun _ hX => metX0_freeSlot _ _ _ _ _ _ _ _ hX) (cwX4_208 S.2.2.2.2 ⟨Nat.le_of_ble_eq_true rfl, Nat.le_of_ble_eq_true rfl⟩) rfl dX4_fetch_122 rfl (Nat.le_of_ble_eq_true rfl) ⟨Nat.le_refl _, Nat.le_refl _⟩ (fun x7 H locs hs hf => ?_)
    refine gcU (gV3 K hs) S K hs hl.1 hf (fun _ hX => metX0_add _ _ _ _ _ _ _ _ _ _ hX) (cwX4_211 S.2.2.2.2 ⟨Nat.le_of_ble_eq_true rfl, Nat.le_of_ble_eq_true rfl⟩) rfl dX4_fetch_125 rfl (Nat.le_of_ble_eq_true rfl) ⟨Nat.le_refl _, Nat.le_refl _⟩ (fun σ8 H locs hs hf => ?_)
    exact J128 _ _ hf _ _ _ (lv_sub hl [0, 2] rfl) hs
  have J69 : ∀ (y1 : Int32) (y2 : Int32) (σ : zSt), fX4_fetch_j69 y1 y2 σ = some res → gGo p l e rmX4_fetch s m args below meth c (MQ below (gQv D cI g σ0) args s 0 0 (gA g)) D cI g 6 σ [(0, .ref (g 0)), (1, .int y1), (2, .int y2)] 69 [] := by
    intro y1 y2 σ hf H locs ls hl hs
    unfold fX4_fetch_j69 at hf
    refine lv_aload_n S.1 S.2.1 dX4_fetch_69 rfl (lv_at hl 0 rfl) ?_
    refine ggX4_21_0 S K hs dX4_fetch_70 ?_
    refine lv_iload_n S.1 S.2.1 dX4_fetch_73 rfl (lv_at hl 1 rfl) ?_
    refine lv_iload_n S.1 S.2.1 dX4_fetch_74 rfl (lv_at hl 2 rfl) ?_
    refine gcP (gV3 K hs) S K hs hl.1 hf (fun _ hX => metX0_kindOf _ _ _ _ _ _ _ _ hX) (cwX4_137 S.2.2.2.2 ⟨Nat.le_of_ble_eq_true rfl, Nat.le_of_ble_eq_true rfl⟩) rfl dX4_fetch_75 rfl (Nat.le_of_ble_eq_true rfl) ⟨Nat.le_refl _, Nat.le_refl _⟩ (fun x3 H locs hs hf => ?_)
    refine z_if_ne (tgt := 128) S hf dX4_fetch_78 (by decide) (fun hf => ?_) (fun hf => ?_)
    · exact J128 _ _ hf _ _ _ (lv_sub hl [0, 2] rfl) hs
    · refine lv_aload_n S.1 S.2.1 dX4_fetch_81 rfl (lv_at hl 0 rfl) ?_
      refine lv_iload_n S.1 S.2.1 dX4_fetch_82 rfl (lv_at hl 1 rfl) ?_
      refine gcP (gV0 K hs) S K hs hl.1 hf (fun _ hX => metX4_lineToDrop _ _ _ _ _ _ _ hX) (cwX4_159 S.2.2.2.2 ⟨Nat.le_of_ble_eq_true rfl, Nat.le_of_ble_eq_true rfl⟩) rfl dX4_fetch_83 rfl (Nat.le_of_ble_eq_true rfl) ⟨Nat.le_refl _, Nat.le_refl _⟩ (fun x5 H locs hs hf => ?_)
      refine lv_istore (lv' := [(5, .int x5), (0, .ref (g 0)), (1, .int y1), (2, .int y2)]) S.1 S.2.1 dX4_fetch_86 hl (by decide) rfl (fun ls hl => ?_)
      refine lv_iload S.1 S.2.1 dX4_fetch_88 (lv_at hl 0 rfl) ?_
      refine lv_iconst S.1 S.2.1 dX4_fetch_90 k_iconst_m1 ?_
      refine z_icmp_eq (tgt := 101) S hf dX4_fetch_91 (by decide) (fun hf => ?_) (fun hf => ?_)
      · exact J101 _ _ _ hf _ _ _ (lv_sub hl [1, 2, 3] rfl) hs
      · refine lv_aload_n S.1 S.2.1 dX4_fetch_94 rfl (lv_at hl 1 rfl) ?_
        refine lv_iload_n S.1 S.2.1 dX4_fetch_95 rfl (lv_at hl 2 rfl) ?_
        refine lv_iload S.1 S.2.1 dX4_fetch_96 (lv_at hl 0 rfl) ?_
        refine gcU (gV0 K hs) S K hs hl.1 hf (fun _ hX => metX4_throwAway _ _ _ _ _ _ _ _ hX) (cwX4_205 S.2.2.2.2 ⟨Nat.le_of_ble_eq_true rfl, Nat.le_of_ble_eq_true rfl⟩) rfl dX4_fetch_98 rfl (Nat.le_of_ble_eq_true rfl) ⟨Nat.le_refl _, Nat.le_refl _⟩ (fun σ9 H locs hs hf => ?_)
        exact J101 _ _ _ hf _ _ _ (lv_sub hl [1, 2, 3] rfl) hs
  have J56 : ∀ (y1 : Int32) (y2 : Int32) (y3 : Int32) (σ : zSt), fX4_fetch_j56 y1 y2 y3 σ = some res → gGo p l e rmX4_fetch s m args below meth c (MQ below (gQv D cI g σ0) args s 0 0 (gA g)) D cI g 6 σ [(0, .ref (g 0)), (1, .int y1), (2, .int y2), (3, .int y3)] 56 [] := by
    intro y1 y2 y3 σ hf H locs ls hl hs
    unfold fX4_fetch_j56 at hf
    refine lv_iload_n S.1 S.2.1 dX4_fetch_56 rfl (lv_at hl 3 rfl) ?_
    refine z_if_eq (tgt := 69) S hf dX4_fetch_57 (by decide) (fun hf => ?_) (fun hf => ?_)
    · exact J69 _ _ _ hf _ _ _ (lv_sub hl [0, 1, 2] rfl) hs
    · refine lv_aload_n S.1 S.2.1 dX4_fetch_60 rfl (lv_at hl 0 rfl) ?_
      refine ggX4_21_0 S K hs dX4_fetch_61 ?_
      refine lv_iload_n S.1 S.2.1 dX4_fetch_64 rfl (lv_at hl 1 rfl) ?_
      refine lv_iload_n S.1 S.2.1 dX4_fetch_65 rfl (lv_at hl 2 rfl) ?_
      refine gcU (gV3 K hs) S K hs hl.1 hf (fun _ hX => metX0_removeOthers _ _ _ _ _ _ _ _ hX) (cwX4_202 S.2.2.2.2 ⟨Nat.le_of_ble_eq_true rfl, Nat.le_of_ble_eq_true rfl⟩) rfl dX4_fetch_66 rfl (Nat.le_of_ble_eq_true rfl) ⟨Nat.le_refl _, Nat.le_refl _⟩ (fun σ10 H locs hs hf => ?_)
      exact J69 _ _ _ hf _ _ _ (lv_sub hl [0, 1, 2] rfl) hs
  have J23 : ∀ (y1 : Int32) (y2 : Int32) (y3 : Int32) (σ : zSt), fX4_fetch_j23 y1 y2 y3 σ = some res → gGo p l e rmX4_fetch s m args below meth c (MQ below (gQv D cI g σ0) args s 0 0 (gA g)) D cI g 6 σ [(0, .ref (g 0)), (1, .int y1), (2, .int y2), (3, .int y3)] 23 [] := by
    intro y1 y2 y3 σ hf H locs ls hl hs
    unfold fX4_fetch_j23 at hf
    refine lv_aload_n S.1 S.2.1 dX4_fetch_23 rfl (lv_at hl 0 rfl) ?_
    refine ggX4_21_0 S K hs dX4_fetch_24 ?_
    refine lv_iload_n S.1 S.2.1 dX4_fetch_27 rfl (lv_at hl 2 rfl) ?_
    refine gcP (gV3 K hs) S K hs hl.1 hf (fun _ hX => metX0_ownerOf _ _ _ _ _ _ _ hX) (cwX4_147 S.2.2.2.2 ⟨Nat.le_of_ble_eq_true rfl, Nat.le_of_ble_eq_true rfl⟩) rfl dX4_fetch_28 rfl (Nat.le_of_ble_eq_true rfl) ⟨Nat.le_refl _, Nat.le_refl _⟩ (fun x2 H locs hs hf => ?_)
    refine lv_istore (lv' := [(4, .int x2), (0, .ref (g 0)), (1, .int y1), (2, .int y2), (3, .int y3)]) S.1 S.2.1 dX4_fetch_31 hl (by decide) rfl (fun ls hl => ?_)
    refine lv_iload S.1 S.2.1 dX4_fetch_33 (lv_at hl 0 rfl) ?_
    refine lv_iconst S.1 S.2.1 dX4_fetch_35 k_iconst_m1 ?_
    refine z_icmp_eq (tgt := 56) S hf dX4_fetch_36 (by decide) (fun hf => ?_) (fun hf => ?_)
    · exact J56 _ _ _ _ hf _ _ _ (lv_sub hl [1, 2, 3, 4] rfl) hs
    · refine lv_aload_n S.1 S.2.1 dX4_fetch_39 rfl (lv_at hl 1 rfl) ?_
      refine lv_iload S.1 S.2.1 dX4_fetch_40 (lv_at hl 0 rfl) ?_
      refine lv_iload_n S.1 S.2.1 dX4_fetch_42 rfl (lv_at hl 3 rfl) ?_
      refine gcU (gV0 K hs) S K hs hl.1 hf (fun _ hX => metX4_bringBack _ _ _ _ _ _ _ _ hX) (cwX4_196 S.2.2.2.2 ⟨Nat.le_of_ble_eq_true rfl, Nat.le_of_ble_eq_true rfl⟩) rfl dX4_fetch_43 rfl (Nat.le_of_ble_eq_true rfl) ⟨Nat.le_refl _, Nat.le_refl _⟩ (fun σ11 H locs hs hf => ?_)
      refine lv_aload_n S.1 S.2.1 dX4_fetch_46 rfl (lv_at hl 1 rfl) ?_
      refine ggX4_21_0 S K hs dX4_fetch_47 ?_
      refine lv_iload S.1 S.2.1 dX4_fetch_50 (lv_at hl 0 rfl) ?_
      refine lv_iload_n S.1 S.2.1 dX4_fetch_52 rfl (lv_at hl 3 rfl) ?_
      refine gcU (gV3 K hs) S K hs hl.1 hf (fun _ hX => metX0_share _ _ _ _ _ _ _ _ hX) (cwX4_199 S.2.2.2.2 ⟨Nat.le_of_ble_eq_true rfl, Nat.le_of_ble_eq_true rfl⟩) rfl dX4_fetch_53 rfl (Nat.le_of_ble_eq_true rfl) ⟨Nat.le_refl _, Nat.le_refl _⟩ (fun σ12 H locs hs hf => ?_)
      exact J56 _ _ _ _ hf _ _ _ (lv_sub hl [1, 2, 3, 4] rfl) hs
  unfold fX4_fetch at hf
  refine lv_aload_n S.1 S.2.1 dX4_fetch_0 rfl (lv_at hl 0 rfl) ?_
  refine ggX4_28_0 S K hs dX4_fetch_1 ?_
  refine lv_iload_n S.1 S.2.1 dX4_fetch_4 rfl (lv_at hl 2 rfl) ?_
  refine gcP (gV8 K hs) S K hs hl.1 hf (fun _ hX => metX1_hasPage _ _ _ _ _ _ _ hX) (cwX4_141 S.2.2.2.2 ⟨Nat.le_of_ble_eq_true rfl, Nat.le_of_ble_eq_true rfl⟩) rfl dX4_fetch_5 rfl (Nat.le_of_ble_eq_true rfl) ⟨Nat.le_refl _, Nat.le_refl _⟩ (fun x1 H locs hs hf => ?_)
  refine z_if_ne (tgt := 23) S hf dX4_fetch_8 (by decide) (fun hf => ?_) (fun hf => ?_)
  · exact J23 _ _ _ _ hf _ _ _ (lv_sub hl [0, 1, 2, 3] rfl) hs
  · refine lv_aload_n S.1 S.2.1 dX4_fetch_11 rfl (lv_at hl 0 rfl) ?_
    refine gcU (gV0 K hs) S K hs hl.1 hf (fun _ hX => metX4_makeRoomInDiary _ _ _ _ _ _ hX) (cwX4_190 S.2.2.2.2 ⟨Nat.le_of_ble_eq_true rfl, Nat.le_of_ble_eq_true rfl⟩) rfl dX4_fetch_12 rfl (Nat.le_of_ble_eq_true rfl) ⟨Nat.le_refl _, Nat.le_refl _⟩ (fun σ13 H locs hs hf => ?_)
    refine lv_aload_n S.1 S.2.1 dX4_fetch_15 rfl (lv_at hl 0 rfl) ?_
    refine ggX4_28_0 S K hs dX4_fetch_16 ?_
    refine lv_iload_n S.1 S.2.1 dX4_fetch_19 rfl (lv_at hl 2 rfl) ?_
    refine gcU (gV8 K hs) S K hs hl.1 hf (fun _ hX => metX1_makePage _ _ _ _ _ _ _ hX) (cwX4_193 S.2.2.2.2 ⟨Nat.le_of_ble_eq_true rfl, Nat.le_of_ble_eq_true rfl⟩) rfl dX4_fetch_20 rfl (Nat.le_of_ble_eq_true rfl) ⟨Nat.le_refl _, Nat.le_refl _⟩ (fun σ14 H locs hs hf => ?_)
    exact J23 _ _ _ _ hf _ _ _ (lv_sub hl [0, 1, 2, 3] rfl) hs
theorem metX4_fetch (l : Launch) (D : va_G) (cI : ClassId) (g : Nat → Nat) (a0 : Int32) (a1 : Int32) (a2 : Int32) (σ : zSt) (σ0 : zSt) (hf : fX4_fetch a0 a1 a2 σ = some σ0) : Met l yX4_fetch (Cond.code yX4_fetch cX4_fetch 6 none :: WA) rmX4_fetch (gPc D cI g σ [.ref (g 0), .int a0, .int a1, .int a2]) ((gQv D cI g σ0)) 0 0 (gA g) :=
  gMet (by decide) (Nat.le_of_ble_eq_true rfl) (fun p e s m args below meth c H locs ls S K hr hk hl hs => bdX4_fetch S K hr hk _ _ _ _ _ hf hl hs)
set_option maxHeartbeats 4000000 in
set_option maxRecDepth 100000 in
theorem bdX4_hasTimeFor {p : Program} {l : Launch} {e : Env} {s : State} {m : MethodId} {args : Array Value} {below : List Frame} {meth : Method} {c : Code} {H : Heap} {locs : List Loc} {ls : Array Slot} {D : va_G} {cI : ClassId} {g : Nat → Nat} (S : CallFix p m c cX4_hasTimeFor 2 s args WA RX4) (K : va_K D vwCl [(cI, .int)] s) (hr : meth.sig.returnType = (some .boolean)) (hk : meth.locks = false) (a0 : Int32) (σ : zSt) (r0 : Int32) (hf : fX4_hasTimeFor a0 σ = some r0) (hl : lv_has ls 2 [(0, .ref (g 0)), (1, .int a0)]) (hs : gS D cI g s σ H locs) : W p l e rmX4_hasTimeFor s m args below meth c H locs 0 0 (MQ below (gQi D cI g r0 σ) args s 0 0 (gA g)) (F0 m 0 ls []) := by
  unfold fX4_hasTimeFor at hf
  refine lv_iload_n S.1 S.2.1 dX4_hasTimeFor_0 rfl (lv_at hl 1 rfl) ?_
  refine lv_ldc (v := nI 100000) S.1 S.2.1 S.2.2.2.1 (S.2.2.2.2 _ (z_in0 _ (List.mem_of_getElem? (i := 355) (by decide +kernel)))) dX4_hasTimeFor_1 ?_
  refine lv_aload_n S.1 S.2.1 dX4_hasTimeFor_3 rfl (lv_at hl 0 rfl) ?_
  refine ggX4_72_0 S K hs dX4_hasTimeFor_4 ?_
  refine lv_isub S.1 S.2.1 dX4_hasTimeFor_7 ?_
  refine z_icmp_gt (tgt := 15) S hf dX4_hasTimeFor_8 (by decide) (fun hf => ?_) (fun hf => ?_)
  · refine lv_iconst S.1 S.2.1 dX4_hasTimeFor_15 k_iconst_0 ?_
    exact grB S K hr hk hs hf dX4_hasTimeFor_16
  · refine lv_iconst S.1 S.2.1 dX4_hasTimeFor_11 k_iconst_1 ?_
    refine lv_goto (tgt := 16) S.1 S.2.1 dX4_hasTimeFor_12 (by decide) ?_
    exact grB S K hr hk hs hf dX4_hasTimeFor_16
theorem metX4_hasTimeFor (l : Launch) (D : va_G) (cI : ClassId) (g : Nat → Nat) (a0 : Int32) (σ : zSt) (r0 : Int32) (hf : fX4_hasTimeFor a0 σ = some r0) : Met l yX4_hasTimeFor (Cond.code yX4_hasTimeFor cX4_hasTimeFor 2 (some .boolean) :: WA) rmX4_hasTimeFor (gPc D cI g σ [.ref (g 0), .int a0]) ((gQi D cI g r0 σ)) 0 0 (gA g) :=
  gMet (by decide) (Nat.le_of_ble_eq_true rfl) (fun p e s m args below meth c H locs ls S K hr hk hl hs => bdX4_hasTimeFor S K hr hk _ _ _ hf hl hs)
set_option maxHeartbeats 4000000 in
set_option maxRecDepth 100000 in
theorem bdX7_count {p : Program} {l : Launch} {e : Env} {s : State} {m : MethodId} {args : Array Value} {below : List Frame} {meth : Method} {c : Code} {H : Heap} {locs : List Loc} {ls : Array Slot} {D : va_G} {cI : ClassId} {g : Nat → Nat} (S : CallFix p m c cX7_count 3 s args WA RX7) (K : va_K D vwCl [(cI, .int)] s) (hr : meth.sig.returnType = (some .int)) (hk : meth.locks = false) (σ : zSt) (r0 : Int32) (hf : fX7_count σ = some r0) (hl : lv_has ls 3 [(0, .ref (g 10))]) (hs : gS D cI g s σ H locs) : W p l e rmX7_count s m args below meth c H locs 0 0 (MQ below (gQi D cI g r0 σ) args s 0 0 (gA g)) (F0 m 0 ls []) := by
  obtain ⟨res, hres⟩ : ∃ q, q = r0 := ⟨_, rfl⟩
  rw [← hres] at hf
  have L4 : ∀ (K4 : Int32 → Option (Int32)) (hK4 : ∀ (y1 : Int32), K4 y1 = some res → gGo p l e rmX7_count s m args below meth c (MQ below (gQi D cI g r0 σ) args s 0 0 (gA g)) D cI g 3 σ [(0, .ref (g 10)), (1, .int y1)] 29 []) (n : Nat) (y1 : Int32) (y2 : Int32), fX7_count_l4 σ K4 n y1 y2 = some res → gGo p l e rmX7_count s m args below meth c (MQ below (gQi D cI g r0 σ) args s 0 0 (gA g)) D cI g 3 σ [(0, .ref (g 10)), (1, .int y1), (2, .int y2)] 4 [] := by
    intro K4 hK4 n
    induction n with
    | zero =>
      intro y1 y2 hf H locs ls hl hs
      rw [fX7_count_l4] at hf
      cases hf
    | succ n ih =>
      intro y1 y2 hf H locs ls hl hs
      rw [fX7_count_l4] at hf
      refine lv_iload_n S.1 S.2.1 dX7_count_4 rfl (lv_at hl 2 rfl) ?_
      refine lv_bipush S.1 S.2.1 dX7_count_5 k_bipush_6 ?_
      refine z_icmp_ge (tgt := 29) S hf dX7_count_7 (by decide) (fun hf => ?_) (fun hf => ?_)
      · exact hK4 _ hf _ _ _ (lv_sub hl [0, 1] rfl) hs
      · refine lv_aload_n S.1 S.2.1 dX7_count_10 rfl (lv_at hl 0 rfl) ?_
        refine ggX7_9_10 S K hs dX7_count_11 ?_
        refine lv_iload_n S.1 S.2.1 dX7_count_14 rfl (lv_at hl 2 rfl) ?_
        refine gld11 S K hs hf dX7_count_15 (fun x1 hf => ?_)
        refine lv_iconst S.1 S.2.1 dX7_count_16 k_iconst_m1 ?_
        refine z_icmp_eq (tgt := 23) S hf dX7_count_17 (by decide) (fun hf => ?_) (fun hf => ?_)
        · refine lv_iinc (v := y2 + nI 1) (lv' := [(2, .int (y2 + nI 1)), (0, .ref (g 10)), (1, .int y1)]) S.1 S.2.1 dX7_count_23 hl (k := 2) rfl (by rw [k_iconst_1]) (by decide) rfl (fun ls hl => ?_)
          refine lv_goto (tgt := 4) S.1 S.2.1 dX7_count_26 (by decide) ?_
          exact ih _ _ hf _ _ _ (lv_sub hl [1, 2, 0] rfl) hs
        · refine lv_iinc (v := y1 + nI 1) (lv' := [(1, .int (y1 + nI 1)), (0, .ref (g 10)), (2, .int y2)]) S.1 S.2.1 dX7_count_20 hl (k := 1) rfl (by rw [k_iconst_1]) (by decide) rfl (fun ls hl => ?_)
          refine lv_iinc (v := y2 + nI 1) (lv' := [(2, .int (y2 + nI 1)), (1, .int (y1 + nI 1)), (0, .ref (g 10))]) S.1 S.2.1 dX7_count_23 hl (k := 2) rfl (by rw [k_iconst_1]) (by decide) rfl (fun ls hl => ?_)
          refine lv_goto (tgt := 4) S.1 S.2.1 dX7_count_26 (by decide) ?_
          exact ih _ _ hf _ _ _ (lv_sub hl [2, 1, 0] rfl) hs
  unfold fX7_count at hf
  refine lv_iconst S.1 S.2.1 dX7_count_0 k_iconst_0 ?_
  refine lv_istore_n (lv' := [(1, .int (nI 0)), (0, .ref (g 10))]) S.1 S.2.1 dX7_count_1 rfl hl (by decide) rfl (fun ls hl => ?_)
  refine lv_iconst S.1 S.2.1 dX7_count_2 k_iconst_0 ?_
  refine lv_istore_n (lv' := [(2, .int (nI 0)), (1, .int (nI 0)), (0, .ref (g 10))]) S.1 S.2.1 dX7_count_3 rfl hl (by decide) rfl (fun ls hl => ?_)
  refine L4 _ (fun x2 hf H locs ls hl hs => ?_) _ _ _ hf _ _ _ (lv_sub hl [2, 1, 0] rfl) hs
  refine lv_iload_n S.1 S.2.1 dX7_count_29 rfl (lv_at hl 1 rfl) ?_
  exact grP S K hr hk hs (hf.trans (congrArg some hres)) dX7_count_30
theorem metX7_count (l : Launch) (D : va_G) (cI : ClassId) (g : Nat → Nat) (σ : zSt) (r0 : Int32) (hf : fX7_count σ = some r0) : Met l yX7_count (Cond.code yX7_count cX7_count 3 (some .int) :: WA) rmX7_count (gPc D cI g σ [.ref (g 10)]) ((gQi D cI g r0 σ)) 0 0 (gA g) :=
  gMet (by decide) (Nat.le_of_ble_eq_true rfl) (fun p e s m args below meth c H locs ls S K hr hk hl hs => bdX7_count S K hr hk  _ _ hf hl hs)
set_option maxHeartbeats 4000000 in
set_option maxRecDepth 100000 in
theorem bdX7_isPending {p : Program} {l : Launch} {e : Env} {s : State} {m : MethodId} {args : Array Value} {below : List Frame} {meth : Method} {c : Code} {H : Heap} {locs : List Loc} {ls : Array Slot} {D : va_G} {cI : ClassId} {g : Nat → Nat} (S : CallFix p m c cX7_isPending 2 s args WA RX7) (K : va_K D vwCl [(cI, .int)] s) (hr : meth.sig.returnType = (some .boolean)) (hk : meth.locks = false) (a0 : Int32) (σ : zSt) (r0 : Int32) (hf : fX7_isPending a0 σ = some r0) (hl : lv_has ls 2 [(0, .ref (g 10)), (1, .int a0)]) (hs : gS D cI g s σ H locs) : W p l e rmX7_isPending s m args below meth c H locs 0 0 (MQ below (gQi D cI g r0 σ) args s 0 0 (gA g)) (F0 m 0 ls []) := by
  unfold fX7_isPending at hf
  refine lv_aload_n S.1 S.2.1 dX7_isPending_0 rfl (lv_at hl 0 rfl) ?_
  refine ggX7_9_10 S K hs dX7_isPending_1 ?_
  refine lv_iload_n S.1 S.2.1 dX7_isPending_4 rfl (lv_at hl 1 rfl) ?_
  refine gld11 S K hs hf dX7_isPending_5 (fun x1 hf => ?_)
  refine lv_iconst S.1 S.2.1 dX7_isPending_6 k_iconst_m1 ?_
  refine z_icmp_eq (tgt := 14) S hf dX7_isPending_7 (by decide) (fun hf => ?_) (fun hf => ?_)
  · refine lv_iconst S.1 S.2.1 dX7_isPending_14 k_iconst_0 ?_
    exact grB S K hr hk hs hf dX7_isPending_15
  · refine lv_iconst S.1 S.2.1 dX7_isPending_10 k_iconst_1 ?_
    refine lv_goto (tgt := 15) S.1 S.2.1 dX7_isPending_11 (by decide) ?_
    exact grB S K hr hk hs hf dX7_isPending_15
theorem metX7_isPending (l : Launch) (D : va_G) (cI : ClassId) (g : Nat → Nat) (a0 : Int32) (σ : zSt) (r0 : Int32) (hf : fX7_isPending a0 σ = some r0) : Met l yX7_isPending (Cond.code yX7_isPending cX7_isPending 2 (some .boolean) :: WA) rmX7_isPending (gPc D cI g σ [.ref (g 10), .int a0]) ((gQi D cI g r0 σ)) 0 0 (gA g) :=
  gMet (by decide) (Nat.le_of_ble_eq_true rfl) (fun p e s m args below meth c H locs ls S K hr hk hl hs => bdX7_isPending S K hr hk _ _ _ hf hl hs)
set_option maxHeartbeats 4000000 in
set_option maxRecDepth 100000 in
theorem bdX7_isWrite {p : Program} {l : Launch} {e : Env} {s : State} {m : MethodId} {args : Array Value} {below : List Frame} {meth : Method} {c : Code} {H : Heap} {locs : List Loc} {ls : Array Slot} {D : va_G} {cI : ClassId} {g : Nat → Nat} (S : CallFix p m c cX7_isWrite 2 s args WA RX7) (K : va_K D vwCl [(cI, .int)] s) (hr : meth.sig.returnType = (some .boolean)) (hk : meth.locks = false) (a0 : Int32) (σ : zSt) (r0 : Int32) (hf : fX7_isWrite a0 σ = some r0) (hl : lv_has ls 2 [(0, .ref (g 10)), (1, .int a0)]) (hs : gS D cI g s σ H locs) : W p l e rmX7_isWrite s m args below meth c H locs 0 0 (MQ below (gQi D cI g r0 σ) args s 0 0 (gA g)) (F0 m 0 ls []) := by
  unfold fX7_isWrite at hf
  refine lv_aload_n S.1 S.2.1 dX7_isWrite_0 rfl (lv_at hl 0 rfl) ?_
  refine ggX7_15_10 S K hs dX7_isWrite_1 ?_
  refine lv_iload_n S.1 S.2.1 dX7_isWrite_4 rfl (lv_at hl 1 rfl) ?_
  refine gld12 S K hs hf dX7_isWrite_5 (fun x1 hf => ?_)
  refine lv_iconst S.1 S.2.1 dX7_isWrite_6 k_iconst_m1 ?_
  refine z_icmp_eq (tgt := 14) S hf dX7_isWrite_7 (by decide) (fun hf => ?_) (fun hf => ?_)
  · refine lv_iconst S.1 S.2.1 dX7_isWrite_14 k_iconst_0 ?_
    exact grB S K hr hk hs hf dX7_isWrite_15
  · refine lv_iconst S.1 S.2.1 dX7_isWrite_10 k_iconst_1 ?_
    refine lv_goto (tgt := 15) S.1 S.2.1 dX7_isWrite_11 (by decide) ?_
    exact grB S K hr hk hs hf dX7_isWrite_15
theorem metX7_isWrite (l : Launch) (D : va_G) (cI : ClassId) (g : Nat → Nat) (a0 : Int32) (σ : zSt) (r0 : Int32) (hf : fX7_isWrite a0 σ = some r0) : Met l yX7_isWrite (Cond.code yX7_isWrite cX7_isWrite 2 (some .boolean) :: WA) rmX7_isWrite (gPc D cI g σ [.ref (g 10), .int a0]) ((gQi D cI g r0 σ)) 0 0 (gA g) :=
  gMet (by decide) (Nat.le_of_ble_eq_true rfl) (fun p e s m args below meth c H locs ls S K hr hk hl hs => bdX7_isWrite S K hr hk _ _ _ hf hl hs)
set_option maxHeartbeats 4000000 in
set_option maxRecDepth 100000 in
theorem bdX7_forget {p : Program} {l : Launch} {e : Env} {s : State} {m : MethodId} {args : Array Value} {below : List Frame} {meth : Method} {c : Code} {H : Heap} {locs : List Loc} {ls : Array Slot} {D : va_G} {cI : ClassId} {g : Nat → Nat} (S : CallFix p m c cX7_forget 2 s args WA RX7) (K : va_K D vwCl [(cI, .int)] s) (hr : meth.sig.returnType = none) (hk : meth.locks = false) (a0 : Int32) (σ : zSt) (σ0 : zSt) (hf : fX7_forget a0 σ = some σ0) (hl : lv_has ls 2 [(0, .ref (g 10)), (1, .int a0)]) (hs : gS D cI g s σ H locs) : W p l e rmX7_forget s m args below meth c H locs 0 0 (MQ below (gQv D cI g σ0) args s 0 0 (gA g)) (F0 m 0 ls []) := by
  unfold fX7_forget at hf
  refine lv_aload_n S.1 S.2.1 dX7_forget_0 rfl (lv_at hl 0 rfl) ?_
  refine ggX7_9_10 S K hs dX7_forget_1 ?_
  refine lv_iload_n S.1 S.2.1 dX7_forget_4 rfl (lv_at hl 1 rfl) ?_
  refine lv_iconst S.1 S.2.1 dX7_forget_5 k_iconst_m1 ?_
  refine gst11 S K hs hf dX7_forget_6 (fun σ1 H locs hs hf => ?_)
  exact grV S K hr hk hs hf dX7_forget_7
theorem metX7_forget (l : Launch) (D : va_G) (cI : ClassId) (g : Nat → Nat) (a0 : Int32) (σ : zSt) (σ0 : zSt) (hf : fX7_forget a0 σ = some σ0) : Met l yX7_forget (Cond.code yX7_forget cX7_forget 2 none :: WA) rmX7_forget (gPc D cI g σ [.ref (g 10), .int a0]) ((gQv D cI g σ0)) 0 0 (gA g) :=
  gMet (by decide) (Nat.le_of_ble_eq_true rfl) (fun p e s m args below meth c H locs ls S K hr hk hl hs => bdX7_forget S K hr hk _ _ _ hf hl hs)
set_option maxHeartbeats 4000000 in
set_option maxRecDepth 100000 in
theorem bdX4_serve {p : Program} {l : Launch} {e : Env} {s : State} {m : MethodId} {args : Array Value} {below : List Frame} {meth : Method} {c : Code} {H : Heap} {locs : List Loc} {ls : Array Slot} {D : va_G} {cI : ClassId} {g : Nat → Nat} (S : CallFix p m c cX4_serve 6 s args WA RX4) (K : va_K D vwCl [(cI, .int)] s) (hr : meth.sig.returnType = none) (hk : meth.locks = false) (a0 : Int32) (a1 : Int32) (a2 : Int32) (σ : zSt) (σ0 : zSt) (hf : fX4_serve a0 a1 a2 σ = some σ0) (hl : lv_has ls 6 [(0, .ref (g 0)), (1, .int a0), (2, .int a1), (3, .int a2)]) (hs : gS D cI g s σ H locs) : W p l e rmX4_serve s m args below meth c H locs 0 0 (MQ below (gQv D cI g σ0) args s 0 0 (gA g)) (F0 m 0 ls []) := by
  obtain ⟨res, hres⟩ : ∃ q, q = σ0 := ⟨_, rfl⟩
  rw [← hres] at hf
  have J129 : ∀ (y1 : Int32) (y2 : Int32) (y5 : Int32) (w0 : Int32) (w1 : Int32) (w2 : Int32) (σ : zSt), fX4_serve_j129 y1 y2 y5 w0 w1 w2 σ = some res → gGo p l e rmX4_serve s m args below meth c (MQ below (gQv D cI g σ0) args s 0 0 (gA g)) D cI g 6 σ [(0, .ref (g 0)), (1, .int y1), (2, .int y2), (5, .int y5)] 129 [.int w0, .int w1, .int w2, .ref (g 14)] := by
    intro y1 y2 y5 w0 w1 w2 σ hf H locs ls hl hs
    unfold fX4_serve_j129 at hf
    refine lv_aload_n S.1 S.2.1 dX4_serve_129 rfl (lv_at hl 0 rfl) ?_
    refine ggX4_21_0 S K hs dX4_serve_130 ?_
    refine lv_iload_n S.1 S.2.1 dX4_serve_133 rfl (lv_at hl 1 rfl) ?_
    refine lv_iload_n S.1 S.2.1 dX4_serve_134 rfl (lv_at hl 2 rfl) ?_
    refine gcP (gV3 K hs) S K hs hl.1 hf (fun _ hX => metX0_valueOf _ _ _ _ _ _ _ _ hX) (cwX4_180 S.2.2.2.2 ⟨Nat.le_of_ble_eq_true rfl, Nat.le_of_ble_eq_true rfl⟩) rfl dX4_serve_135 rfl (Nat.le_of_ble_eq_true rfl) ⟨Nat.le_refl _, Nat.le_refl _⟩ (fun x7 H locs hs hf => ?_)
    refine lv_iload S.1 S.2.1 dX4_serve_138 (lv_at hl 3 rfl) ?_
    refine lv_aload_n S.1 S.2.1 dX4_serve_140 rfl (lv_at hl 0 rfl) ?_
    refine ggX4_72_0 S K hs dX4_serve_141 ?_
    refine gcU (gV14 K hs) S K hs hl.1 hf (fun _ hX => metX3_add _ _ _ _ _ _ _ _ _ _ _ _ hX) (cwX4_183 S.2.2.2.2 ⟨Nat.le_of_ble_eq_true rfl, Nat.le_of_ble_eq_true rfl⟩) rfl dX4_serve_144 rfl (Nat.le_of_ble_eq_true rfl) ⟨Nat.le_refl _, Nat.le_refl _⟩ (fun σ8 H locs hs hf => ?_)
    refine lv_aload_n S.1 S.2.1 dX4_serve_147 rfl (lv_at hl 0 rfl) ?_
    refine ggX4_35_0 S K hs dX4_serve_148 ?_
    refine lv_iload_n S.1 S.2.1 dX4_serve_151 rfl (lv_at hl 1 rfl) ?_
    refine gcU (gV10 K hs) S K hs hl.1 hf (fun _ hX => metX7_forget _ _ _ _ _ _ _ hX) (cwX4_187 S.2.2.2.2 ⟨Nat.le_of_ble_eq_true rfl, Nat.le_of_ble_eq_true rfl⟩) rfl dX4_serve_152 rfl (Nat.le_of_ble_eq_true rfl) ⟨Nat.le_refl _, Nat.le_refl _⟩ (fun σ9 H locs hs hf => ?_)
    exact grV S K hr hk hs (hf.trans (congrArg some hres)) dX4_serve_155
  have J104 : ∀ (y1 : Int32) (y2 : Int32) (y4 : Int32) (y5 : Int32) (σ : zSt), fX4_serve_j104 y1 y2 y4 y5 σ = some res → gGo p l e rmX4_serve s m args below meth c (MQ below (gQv D cI g σ0) args s 0 0 (gA g)) D cI g 6 σ [(0, .ref (g 0)), (1, .int y1), (2, .int y2), (4, .int y4), (5, .int y5)] 104 [] := by
    intro y1 y2 y4 y5 σ hf H locs ls hl hs
    unfold fX4_serve_j104 at hf
    refine lv_aload_n S.1 S.2.1 dX4_serve_104 rfl (lv_at hl 0 rfl) ?_
    refine ggX4_21_0 S K hs dX4_serve_105 ?_
    refine lv_iload_n S.1 S.2.1 dX4_serve_108 rfl (lv_at hl 1 rfl) ?_
    refine lv_iload_n S.1 S.2.1 dX4_serve_109 rfl (lv_at hl 2 rfl) ?_
    refine gcU (gV3 K hs) S K hs hl.1 hf (fun _ hX => metX0_use _ _ _ _ _ _ _ _ hX) (cwX4_176 S.2.2.2.2 ⟨Nat.le_of_ble_eq_true rfl, Nat.le_of_ble_eq_true rfl⟩) rfl dX4_serve_110 rfl (Nat.le_of_ble_eq_true rfl) ⟨Nat.le_refl _, Nat.le_refl _⟩ (fun σ6 H locs hs hf => ?_)
    refine lv_aload_n S.1 S.2.1 dX4_serve_113 rfl (lv_at hl 0 rfl) ?_
    refine ggX4_42_0 S K hs dX4_serve_114 ?_
    refine lv_iload_n S.1 S.2.1 dX4_serve_117 rfl (lv_at hl 1 rfl) ?_
    refine lv_iload_n S.1 S.2.1 dX4_serve_118 rfl (lv_at hl 2 rfl) ?_
    refine lv_iload S.1 S.2.1 dX4_serve_119 (lv_at hl 3 rfl) ?_
    refine z_if_eq (tgt := 128) S hf dX4_serve_121 (by decide) (fun hf => ?_) (fun hf => ?_)
    · refine lv_iconst S.1 S.2.1 dX4_serve_128 k_iconst_0 ?_
      exact J129 _ _ _ _ _ _ _ hf _ _ _ (lv_sub hl [0, 1, 2, 4] rfl) hs
    · refine lv_iconst S.1 S.2.1 dX4_serve_124 k_iconst_1 ?_
      refine lv_goto (tgt := 129) S.1 S.2.1 dX4_serve_125 (by decide) ?_
      exact J129 _ _ _ _ _ _ _ hf _ _ _ (lv_sub hl [0, 1, 2, 4] rfl) hs
  have J66 : ∀ (y1 : Int32) (y2 : Int32) (y4 : Int32) (y5 : Int32) (σ : zSt), fX4_serve_j66 y1 y2 y4 y5 σ = some res → gGo p l e rmX4_serve s m args below meth c (MQ below (gQv D cI g σ0) args s 0 0 (gA g)) D cI g 6 σ [(0, .ref (g 0)), (1, .int y1), (2, .int y2), (4, .int y4), (5, .int y5)] 66 [] := by
    intro y1 y2 y4 y5 σ hf H locs ls hl hs
    unfold fX4_serve_j66 at hf
    refine lv_iload S.1 S.2.1 dX4_serve_66 (lv_at hl 3 rfl) ?_
    refine z_if_eq (tgt := 104) S hf dX4_serve_68 (by decide) (fun hf => ?_) (fun hf => ?_)
    · exact J104 _ _ _ _ _ hf _ _ _ (lv_sub hl [0, 1, 2, 3, 4] rfl) hs
    · refine lv_aload_n S.1 S.2.1 dX4_serve_71 rfl (lv_at hl 0 rfl) ?_
      refine ggX4_21_0 S K hs dX4_serve_72 ?_
      refine lv_iload_n S.1 S.2.1 dX4_serve_75 rfl (lv_at hl 1 rfl) ?_
      refine lv_iload_n S.1 S.2.1 dX4_serve_76 rfl (lv_at hl 2 rfl) ?_
      refine lv_aload_n S.1 S.2.1 dX4_serve_77 rfl (lv_at hl 0 rfl) ?_
      refine ggX4_35_0 S K hs dX4_serve_78 ?_
      refine ggX4_169_10 S K hs dX4_serve_81 ?_
      refine lv_iload_n S.1 S.2.1 dX4_serve_84 rfl (lv_at hl 1 rfl) ?_
      refine gld12 S K hs hf dX4_serve_85 (fun x10 hf => ?_)
      refine gcU (gV3 K hs) S K hs hl.1 hf (fun _ hX => metX0_own _ _ _ _ _ _ _ _ _ hX) (cwX4_172 S.2.2.2.2 ⟨Nat.le_of_ble_eq_true rfl, Nat.le_of_ble_eq_true rfl⟩) rfl dX4_serve_86 rfl (Nat.le_of_ble_eq_true rfl) ⟨Nat.le_refl _, Nat.le_refl _⟩ (fun σ11 H locs hs hf => ?_)
      refine lv_aload_n S.1 S.2.1 dX4_serve_89 rfl (lv_at hl 0 rfl) ?_
      refine ggX4_15_0 S K hs dX4_serve_90 ?_
      refine lv_iload_n S.1 S.2.1 dX4_serve_93 rfl (lv_at hl 2 rfl) ?_
      refine lv_aload_n S.1 S.2.1 dX4_serve_94 rfl (lv_at hl 0 rfl) ?_
      refine ggX4_35_0 S K hs dX4_serve_95 ?_
      refine ggX4_169_10 S K hs dX4_serve_98 ?_
      refine lv_iload_n S.1 S.2.1 dX4_serve_101 rfl (lv_at hl 1 rfl) ?_
      refine gld12 S K hs hf dX4_serve_102 (fun x12 hf => ?_)
      refine gst2 S K hs hf dX4_serve_103 (fun σ13 H locs hs hf => ?_)
      exact J104 _ _ _ _ _ hf _ _ _ (lv_sub hl [0, 1, 2, 3, 4] rfl) hs
  unfold fX4_serve at hf
  refine lv_aload_n S.1 S.2.1 dX4_serve_0 rfl (lv_at hl 0 rfl) ?_
  refine ggX4_35_0 S K hs dX4_serve_1 ?_
  refine lv_iload_n S.1 S.2.1 dX4_serve_4 rfl (lv_at hl 1 rfl) ?_
  refine gcP (gV10 K hs) S K hs hl.1 hf (fun _ hX => metX7_isWrite _ _ _ _ _ _ _ hX) (cwX4_123 S.2.2.2.2 ⟨Nat.le_of_ble_eq_true rfl, Nat.le_of_ble_eq_true rfl⟩) rfl dX4_serve_5 rfl (Nat.le_of_ble_eq_true rfl) ⟨Nat.le_refl _, Nat.le_refl _⟩ (fun x1 H locs hs hf => ?_)
  refine lv_istore (lv' := [(4, .int x1), (0, .ref (g 0)), (1, .int a0), (2, .int a1), (3, .int a2)]) S.1 S.2.1 dX4_serve_8 hl (by decide) rfl (fun ls hl => ?_)
  refine lv_aload_n S.1 S.2.1 dX4_serve_10 rfl (lv_at hl 1 rfl) ?_
  refine lv_iload_n S.1 S.2.1 dX4_serve_11 rfl (lv_at hl 2 rfl) ?_
  refine lv_iload_n S.1 S.2.1 dX4_serve_12 rfl (lv_at hl 3 rfl) ?_
  refine lv_iload S.1 S.2.1 dX4_serve_13 (lv_at hl 0 rfl) ?_
  refine gcP (gV0 K hs) S K hs hl.1 hf (fun _ hX => metX4_costOf _ _ _ _ _ _ _ _ _ hX) (cwX4_162 S.2.2.2.2 ⟨Nat.le_of_ble_eq_true rfl, Nat.le_of_ble_eq_true rfl⟩) rfl dX4_serve_15 rfl (Nat.le_of_ble_eq_true rfl) ⟨Nat.le_refl _, Nat.le_refl _⟩ (fun x2 H locs hs hf => ?_)
  refine lv_istore (lv' := [(5, .int x2), (4, .int x1), (0, .ref (g 0)), (1, .int a0), (2, .int a1), (3, .int a2)]) S.1 S.2.1 dX4_serve_18 hl (by decide) rfl (fun ls hl => ?_)
  refine lv_aload_n S.1 S.2.1 dX4_serve_20 rfl (lv_at hl 2 rfl) ?_
  refine lv_dup S.1 S.2.1 dX4_serve_21 rfl ?_
  refine ggX4_75_0 S K hs dX4_serve_22 ?_
  refine lv_iload S.1 S.2.1 dX4_serve_25 (lv_at hl 0 rfl) ?_
  refine lv_iadd S.1 S.2.1 dX4_serve_27 ?_
  refine gpX4_75_0 S K hs hf dX4_serve_28 (fun σ3 H locs hs hf => ?_)
  refine lv_iload_n S.1 S.2.1 dX4_serve_31 rfl (lv_at hl 5 rfl) ?_
  refine z_if_eq (tgt := 48) S hf dX4_serve_32 (by decide) (fun hf => ?_) (fun hf => ?_)
  · refine lv_aload_n S.1 S.2.1 dX4_serve_48 rfl (lv_at hl 2 rfl) ?_
    refine lv_dup S.1 S.2.1 dX4_serve_49 rfl ?_
    refine ggX4_81_0 S K hs dX4_serve_50 ?_
    refine lv_iconst S.1 S.2.1 dX4_serve_53 k_iconst_1 ?_
    refine lv_iadd S.1 S.2.1 dX4_serve_54 ?_
    refine gpX4_81_0 S K hs hf dX4_serve_55 (fun σ4 H locs hs hf => ?_)
    refine lv_aload_n S.1 S.2.1 dX4_serve_58 rfl (lv_at hl 2 rfl) ?_
    refine lv_iload_n S.1 S.2.1 dX4_serve_59 rfl (lv_at hl 3 rfl) ?_
    refine lv_iload_n S.1 S.2.1 dX4_serve_60 rfl (lv_at hl 4 rfl) ?_
    refine lv_iload S.1 S.2.1 dX4_serve_61 (lv_at hl 1 rfl) ?_
    refine gcU (gV0 K hs) S K hs hl.1 hf (fun _ hX => metX4_fetch _ _ _ _ _ _ _ _ _ hX) (cwX4_166 S.2.2.2.2 ⟨Nat.le_of_ble_eq_true rfl, Nat.le_of_ble_eq_true rfl⟩) rfl dX4_serve_63 rfl (Nat.le_of_ble_eq_true rfl) ⟨Nat.le_refl _, Nat.le_refl _⟩ (fun σ5 H locs hs hf => ?_)
    exact J66 _ _ _ _ _ hf _ _ _ (lv_sub hl [2, 3, 4, 1, 0] rfl) hs
  · refine lv_aload_n S.1 S.2.1 dX4_serve_35 rfl (lv_at hl 2 rfl) ?_
    refine lv_dup S.1 S.2.1 dX4_serve_36 rfl ?_
    refine ggX4_78_0 S K hs dX4_serve_37 ?_
    refine lv_iconst S.1 S.2.1 dX4_serve_40 k_iconst_1 ?_
    refine lv_iadd S.1 S.2.1 dX4_serve_41 ?_
    refine gpX4_78_0 S K hs hf dX4_serve_42 (fun σ14 H locs hs hf => ?_)
    refine lv_goto (tgt := 66) S.1 S.2.1 dX4_serve_45 (by decide) ?_
    exact J66 _ _ _ _ _ hf _ _ _ (lv_sub hl [2, 3, 4, 1, 0] rfl) hs
theorem metX4_serve (l : Launch) (D : va_G) (cI : ClassId) (g : Nat → Nat) (a0 : Int32) (a1 : Int32) (a2 : Int32) (σ : zSt) (σ0 : zSt) (hf : fX4_serve a0 a1 a2 σ = some σ0) : Met l yX4_serve (Cond.code yX4_serve cX4_serve 6 none :: WA) rmX4_serve (gPc D cI g σ [.ref (g 0), .int a0, .int a1, .int a2]) ((gQv D cI g σ0)) 0 0 (gA g) :=
  gMet (by decide) (Nat.le_of_ble_eq_true rfl) (fun p e s m args below meth c H locs ls S K hr hk hl hs => bdX4_serve S K hr hk _ _ _ _ _ hf hl hs)
set_option maxHeartbeats 4000000 in
set_option maxRecDepth 100000 in
theorem bdX4_tick {p : Program} {l : Launch} {e : Env} {s : State} {m : MethodId} {args : Array Value} {below : List Frame} {meth : Method} {c : Code} {H : Heap} {locs : List Loc} {ls : Array Slot} {D : va_G} {cI : ClassId} {g : Nat → Nat} (S : CallFix p m c cX4_tick 8 s args WA RX4) (K : va_K D vwCl [(cI, .int)] s) (hr : meth.sig.returnType = (some .int)) (hk : meth.locks = false) (σ : zSt) (r0 : Int32) (σ0 : zSt) (hf : fX4_tick σ = some (r0, σ0)) (hl : lv_has ls 8 [(0, .ref (g 0))]) (hs : gS D cI g s σ H locs) : W p l e rmX4_tick s m args below meth c H locs 0 0 (MQ below (gQi D cI g r0 σ0) args s 0 0 (gA g)) (F0 m 0 ls []) := by
  obtain ⟨res, hres⟩ : ∃ q, q = (r0, σ0) := ⟨_, rfl⟩
  rw [← hres] at hf
  have J165 : ∀ (C28 : Int32 → Int32 → Int32 → Int32 → zSt → Option (Int32 × zSt)) (hC28 : ∀ (y1 : Int32) (y2 : Int32) (y3 : Int32) (y4 : Int32) (σ : zSt), C28 y1 y2 y3 y4 σ = some res → gGo p l e rmX4_tick s m args below meth c (MQ below (gQi D cI g r0 σ0) args s 0 0 (gA g)) D cI g 8 σ [(0, .ref (g 0)), (1, .int y1), (2, .int y2), (3, .int y3), (4, .int y4)] 28 []) (y1 : Int32) (y2 : Int32) (y3 : Int32) (y4 : Int32) (y5 : Int32) (y6 : Int32) (y7 : Int32) (σ : zSt), fX4_tick_j165 C28 y1 y2 y3 y4 y5 y6 y7 σ = some res → gGo p l e rmX4_tick s m args below meth c (MQ below (gQi D cI g r0 σ0) args s 0 0 (gA g)) D cI g 8 σ [(0, .ref (g 0)), (1, .int y1), (2, .int y2), (3, .int y3), (4, .int y4), (5, .int y5), (6, .int y6), (7, .int y7)] 165 [] := by
    intro C28 hC28 y1 y2 y3 y4 y5 y6 y7 σ hf H locs ls hl hs
    unfold fX4_tick_j165 at hf
    refine lv_aload_n S.1 S.2.1 dX4_tick_165 rfl (lv_at hl 0 rfl) ?_
    refine lv_iload S.1 S.2.1 dX4_tick_166 (lv_at hl 5 rfl) ?_
    refine lv_iload S.1 S.2.1 dX4_tick_168 (lv_at hl 6 rfl) ?_
    refine lv_iload S.1 S.2.1 dX4_tick_170 (lv_at hl 7 rfl) ?_
    refine gcU (gV0 K hs) S K hs hl.1 hf (fun _ hX => metX4_serve _ _ _ _ _ _ _ _ _ hX) (cwX4_133 S.2.2.2.2 ⟨Nat.le_of_ble_eq_true rfl, Nat.le_of_ble_eq_true rfl⟩) rfl dX4_tick_172 rfl (Nat.le_of_ble_eq_true rfl) ⟨Nat.le_refl _, Nat.le_refl _⟩ (fun σ5 H locs hs hf => ?_)
    refine lv_iinc (v := y3 + nI 1) (lv' := [(3, .int (y3 + nI 1)), (0, .ref (g 0)), (1, .int y1), (2, .int y2), (4, .int y4), (5, .int y5), (6, .int y6), (7, .int y7)]) S.1 S.2.1 dX4_tick_175 hl (k := 3) rfl (by rw [k_iconst_1]) (by decide) rfl (fun ls hl => ?_)
    refine lv_iinc (v := y4 + nI 1) (lv' := [(4, .int (y4 + nI 1)), (3, .int (y3 + nI 1)), (0, .ref (g 0)), (1, .int y1), (2, .int y2), (5, .int y5), (6, .int y6), (7, .int y7)]) S.1 S.2.1 dX4_tick_178 hl (k := 4) rfl (by rw [k_iconst_1]) (by decide) rfl (fun ls hl => ?_)
    refine lv_goto (tgt := 28) S.1 S.2.1 dX4_tick_181 (by decide) ?_
    exact hC28 _ _ _ _ _ hf _ _ _ (lv_sub hl [2, 3, 4, 1, 0] rfl) hs
  have J153 : ∀ (C28 : Int32 → Int32 → Int32 → Int32 → zSt → Option (Int32 × zSt)) (hC28 : ∀ (y1 : Int32) (y2 : Int32) (y3 : Int32) (y4 : Int32) (σ : zSt), C28 y1 y2 y3 y4 σ = some res → gGo p l e rmX4_tick s m args below meth c (MQ below (gQi D cI g r0 σ0) args s 0 0 (gA g)) D cI g 8 σ [(0, .ref (g 0)), (1, .int y1), (2, .int y2), (3, .int y3), (4, .int y4)] 28 []) (y1 : Int32) (y2 : Int32) (y3 : Int32) (y4 : Int32) (y5 : Int32) (y6 : Int32) (y7 : Int32) (σ : zSt), fX4_tick_j153 C28 y1 y2 y3 y4 y5 y6 y7 σ = some res → gGo p l e rmX4_tick s m args below meth c (MQ below (gQi D cI g r0 σ0) args s 0 0 (gA g)) D cI g 8 σ [(0, .ref (g 0)), (1, .int y1), (2, .int y2), (3, .int y3), (4, .int y4), (5, .int y5), (6, .int y6), (7, .int y7)] 153 [] := by
    intro C28 hC28 y1 y2 y3 y4 y5 y6 y7 σ hf H locs ls hl hs
    unfold fX4_tick_j153 at hf
    refine lv_iload S.1 S.2.1 dX4_tick_153 (lv_at hl 7 rfl) ?_
    refine z_if_ne (tgt := 165) S hf dX4_tick_155 (by decide) (fun hf => ?_) (fun hf => ?_)
    · exact J165 _ hC28 _ _ _ _ _ _ _ _ hf _ _ _ (lv_sub hl [0, 1, 2, 3, 4, 5, 6, 7] rfl) hs
    · refine lv_iload_n S.1 S.2.1 dX4_tick_158 rfl (lv_at hl 2 rfl) ?_
      refine lv_iconst S.1 S.2.1 dX4_tick_159 k_iconst_1 ?_
      refine lv_iload S.1 S.2.1 dX4_tick_160 (lv_at hl 6 rfl) ?_
      refine lv_ishl S.1 S.2.1 dX4_tick_162 ?_
      refine lv_ior S.1 S.2.1 dX4_tick_163 ?_
      refine lv_istore_n (lv' := [(2, .int (y2 ||| ((nI 1) <<< (y6 &&& 31)))), (0, .ref (g 0)), (1, .int y1), (3, .int y3), (4, .int y4), (5, .int y5), (6, .int y6), (7, .int y7)]) S.1 S.2.1 dX4_tick_164 rfl hl (by decide) rfl (fun ls hl => ?_)
      exact J165 _ hC28 _ _ _ _ _ _ _ _ hf _ _ _ (lv_sub hl [1, 2, 0, 3, 4, 5, 6, 7] rfl) hs
  have J64 : ∀ (C28 : Int32 → Int32 → Int32 → Int32 → zSt → Option (Int32 × zSt)) (hC28 : ∀ (y1 : Int32) (y2 : Int32) (y3 : Int32) (y4 : Int32) (σ : zSt), C28 y1 y2 y3 y4 σ = some res → gGo p l e rmX4_tick s m args below meth c (MQ below (gQi D cI g r0 σ0) args s 0 0 (gA g)) D cI g 8 σ [(0, .ref (g 0)), (1, .int y1), (2, .int y2), (3, .int y3), (4, .int y4)] 28 []) (y1 : Int32) (y2 : Int32) (y3 : Int32) (y4 : Int32) (w0 : Int32) (σ : zSt), fX4_tick_j64 C28 y1 y2 y3 y4 w0 σ = some res → gGo p l e rmX4_tick s m args below meth c (MQ below (gQi D cI g r0 σ0) args s 0 0 (gA g)) D cI g 8 σ [(0, .ref (g 0)), (1, .int y1), (2, .int y2), (3, .int y3), (4, .int y4)] 64 [.int w0] := by
    intro C28 hC28 y1 y2 y3 y4 w0 σ hf H locs ls hl hs
    unfold fX4_tick_j64 at hf
    refine lv_istore (lv' := [(5, .int w0), (0, .ref (g 0)), (1, .int y1), (2, .int y2), (3, .int y3), (4, .int y4)]) S.1 S.2.1 dX4_tick_64 hl (by decide) rfl (fun ls hl => ?_)
    refine lv_aload_n S.1 S.2.1 dX4_tick_66 rfl (lv_at hl 1 rfl) ?_
    refine ggX4_35_0 S K hs dX4_tick_67 ?_
    refine lv_iload S.1 S.2.1 dX4_tick_70 (lv_at hl 0 rfl) ?_
    refine gcP (gV10 K hs) S K hs hl.1 hf (fun _ hX => metX7_isPending _ _ _ _ _ _ _ hX) (cwX4_116 S.2.2.2.2 ⟨Nat.le_of_ble_eq_true rfl, Nat.le_of_ble_eq_true rfl⟩) rfl dX4_tick_72 rfl (Nat.le_of_ble_eq_true rfl) ⟨Nat.le_refl _, Nat.le_refl _⟩ (fun x1 H locs hs hf => ?_)
    refine z_if_ne (tgt := 81) S hf dX4_tick_75 (by decide) (fun hf => ?_) (fun hf => ?_)
    · refine lv_aload_n S.1 S.2.1 dX4_tick_81 rfl (lv_at hl 1 rfl) ?_
      refine ggX4_35_0 S K hs dX4_tick_82 ?_
      refine ggX4_120_10 S K hs dX4_tick_85 ?_
      refine lv_iload S.1 S.2.1 dX4_tick_88 (lv_at hl 0 rfl) ?_
      refine gld11 S K hs hf dX4_tick_90 (fun x2 hf => ?_)
      refine lv_istore (lv' := [(6, .int x2), (5, .int w0), (0, .ref (g 0)), (1, .int y1), (2, .int y2), (3, .int y3), (4, .int y4)]) S.1 S.2.1 dX4_tick_91 hl (by decide) rfl (fun ls hl => ?_)
      refine lv_aload_n S.1 S.2.1 dX4_tick_93 rfl (lv_at hl 2 rfl) ?_
      refine lv_iload S.1 S.2.1 dX4_tick_94 (lv_at hl 1 rfl) ?_
      refine lv_iload S.1 S.2.1 dX4_tick_96 (lv_at hl 0 rfl) ?_
      refine lv_aload_n S.1 S.2.1 dX4_tick_98 rfl (lv_at hl 2 rfl) ?_
      refine ggX4_35_0 S K hs dX4_tick_99 ?_
      refine lv_iload S.1 S.2.1 dX4_tick_102 (lv_at hl 1 rfl) ?_
      refine gcP (gV10 K hs) S K hs hl.1 hf (fun _ hX => metX7_isWrite _ _ _ _ _ _ _ hX) (cwX4_123 S.2.2.2.2 ⟨Nat.le_of_ble_eq_true rfl, Nat.le_of_ble_eq_true rfl⟩) rfl dX4_tick_104 rfl (Nat.le_of_ble_eq_true rfl) ⟨Nat.le_refl _, Nat.le_refl _⟩ (fun x3 H locs hs hf => ?_)
      refine gcP (gV0 K hs) S K hs hl.1 hf (fun _ hX => metX4_isHit _ _ _ _ _ _ _ _ _ hX) (cwX4_126 S.2.2.2.2 ⟨Nat.le_of_ble_eq_true rfl, Nat.le_of_ble_eq_true rfl⟩) rfl dX4_tick_107 rfl (Nat.le_of_ble_eq_true rfl) ⟨Nat.le_refl _, Nat.le_refl _⟩ (fun x4 H locs hs hf => ?_)
      refine lv_istore (lv' := [(7, .int x4), (6, .int x2), (5, .int w0), (0, .ref (g 0)), (1, .int y1), (2, .int y2), (3, .int y3), (4, .int y4)]) S.1 S.2.1 dX4_tick_110 hl (by decide) rfl (fun ls hl => ?_)
      refine lv_iload S.1 S.2.1 dX4_tick_112 (lv_at hl 0 rfl) ?_
      refine z_if_ne (tgt := 153) S hf dX4_tick_114 (by decide) (fun hf => ?_) (fun hf => ?_)
      · exact J153 _ hC28 _ _ _ _ _ _ _ _ hf _ _ _ (lv_sub hl [3, 4, 5, 6, 7, 2, 1, 0] rfl) hs
      · refine lv_iload_n S.1 S.2.1 dX4_tick_117 rfl (lv_at hl 5 rfl) ?_
        refine lv_iload S.1 S.2.1 dX4_tick_118 (lv_at hl 1 rfl) ?_
        refine lv_ishr S.1 S.2.1 dX4_tick_120 ?_
        refine lv_iconst S.1 S.2.1 dX4_tick_121 k_iconst_1 ?_
        refine lv_iand S.1 S.2.1 dX4_tick_122 ?_
        refine z_if_eq (tgt := 153) S hf dX4_tick_123 (by decide) (fun hf => ?_) (fun hf => ?_)
        · exact J153 _ hC28 _ _ _ _ _ _ _ _ hf _ _ _ (lv_sub hl [3, 4, 5, 6, 7, 2, 1, 0] rfl) hs
        · refine lv_aload_n S.1 S.2.1 dX4_tick_126 rfl (lv_at hl 3 rfl) ?_
          refine ggX4_35_0 S K hs dX4_tick_127 ?_
          refine ggX4_130_10 S K hs dX4_tick_130 ?_
          refine lv_iload S.1 S.2.1 dX4_tick_133 (lv_at hl 2 rfl) ?_
          refine lv_dup2_11 S.1 S.2.1 dX4_tick_135 rfl rfl ?_
          refine gld13 S K hs hf dX4_tick_136 (fun x6 hf => ?_)
          refine lv_iconst S.1 S.2.1 dX4_tick_137 k_iconst_1 ?_
          refine lv_iadd S.1 S.2.1 dX4_tick_138 ?_
          refine gst13 S K hs hf dX4_tick_139 (fun σ7 H locs hs hf => ?_)
          refine lv_aload_n S.1 S.2.1 dX4_tick_140 rfl (lv_at hl 3 rfl) ?_
          refine lv_dup S.1 S.2.1 dX4_tick_141 rfl ?_
          refine ggX4_84_0 S K hs dX4_tick_142 ?_
          refine lv_iconst S.1 S.2.1 dX4_tick_145 k_iconst_1 ?_
          refine lv_iadd S.1 S.2.1 dX4_tick_146 ?_
          refine gpX4_84_0 S K hs hf dX4_tick_147 (fun σ8 H locs hs hf => ?_)
          refine lv_goto (tgt := 178) S.1 S.2.1 dX4_tick_150 (by decide) ?_
          refine lv_iinc (v := y4 + nI 1) (lv' := [(4, .int (y4 + nI 1)), (7, .int x4), (6, .int x2), (5, .int w0), (0, .ref (g 0)), (1, .int y1), (2, .int y2), (3, .int y3)]) S.1 S.2.1 dX4_tick_178 hl (k := 7) rfl (by rw [k_iconst_1]) (by decide) rfl (fun ls hl => ?_)
          refine lv_goto (tgt := 28) S.1 S.2.1 dX4_tick_181 (by decide) ?_
          exact hC28 _ _ _ _ _ hf _ _ _ (lv_sub hl [4, 5, 6, 7, 0] rfl) hs
    · refine lv_goto (tgt := 178) S.1 S.2.1 dX4_tick_78 (by decide) ?_
      refine lv_iinc (v := y4 + nI 1) (lv' := [(4, .int (y4 + nI 1)), (5, .int w0), (0, .ref (g 0)), (1, .int y1), (2, .int y2), (3, .int y3)]) S.1 S.2.1 dX4_tick_178 hl (k := 5) rfl (by rw [k_iconst_1]) (by decide) rfl (fun ls hl => ?_)
      refine lv_goto (tgt := 28) S.1 S.2.1 dX4_tick_181 (by decide) ?_
      exact hC28 _ _ _ _ _ hf _ _ _ (lv_sub hl [2, 3, 4, 5, 0] rfl) hs
  have L28 : ∀ (K28 : Int32 → zSt → Option (Int32 × zSt)) (hK28 : ∀ (y3 : Int32) (σ : zSt), K28 y3 σ = some res → gGo p l e rmX4_tick s m args below meth c (MQ below (gQi D cI g r0 σ0) args s 0 0 (gA g)) D cI g 8 σ [(0, .ref (g 0)), (3, .int y3)] 184 []) (n : Nat) (y1 : Int32) (y2 : Int32) (y3 : Int32) (y4 : Int32) (σ : zSt), fX4_tick_l28 K28 n y1 y2 y3 y4 σ = some res → gGo p l e rmX4_tick s m args below meth c (MQ below (gQi D cI g r0 σ0) args s 0 0 (gA g)) D cI g 8 σ [(0, .ref (g 0)), (1, .int y1), (2, .int y2), (3, .int y3), (4, .int y4)] 28 [] := by
    intro K28 hK28 n
    induction n with
    | zero =>
      intro y1 y2 y3 y4 σ hf H locs ls hl hs
      rw [fX4_tick_l28] at hf
      cases hf
    | succ n ih =>
      intro y1 y2 y3 y4 σ hf H locs ls hl hs
      rw [fX4_tick_l28] at hf
      refine lv_iload S.1 S.2.1 dX4_tick_28 (lv_at hl 4 rfl) ?_
      refine lv_aload_n S.1 S.2.1 dX4_tick_30 rfl (lv_at hl 0 rfl) ?_
      refine ggX4_66_0 S K hs dX4_tick_31 ?_
      refine z_icmp_ge (tgt := 184) S hf dX4_tick_34 (by decide) (fun hf => ?_) (fun hf => ?_)
      · exact hK28 _ _ hf _ _ _ (lv_sub hl [0, 3] rfl) hs
      · refine lv_iload_n S.1 S.2.1 dX4_tick_37 rfl (lv_at hl 1 rfl) ?_
        refine lv_iload S.1 S.2.1 dX4_tick_38 (lv_at hl 4 rfl) ?_
        refine lv_iadd S.1 S.2.1 dX4_tick_40 ?_
        refine lv_aload_n S.1 S.2.1 dX4_tick_41 rfl (lv_at hl 0 rfl) ?_
        refine ggX4_66_0 S K hs dX4_tick_42 ?_
        refine z_icmp_ge (tgt := 55) S hf dX4_tick_45 (by decide) (fun hf => ?_) (fun hf => ?_)
        · refine lv_iload_n S.1 S.2.1 dX4_tick_55 rfl (lv_at hl 1 rfl) ?_
          refine lv_iload S.1 S.2.1 dX4_tick_56 (lv_at hl 4 rfl) ?_
          refine lv_iadd S.1 S.2.1 dX4_tick_58 ?_
          refine lv_aload_n S.1 S.2.1 dX4_tick_59 rfl (lv_at hl 0 rfl) ?_
          refine ggX4_66_0 S K hs dX4_tick_60 ?_
          refine lv_isub S.1 S.2.1 dX4_tick_63 ?_
          exact J64 _ ih _ _ _ _ _ _ hf _ _ _ (lv_sub hl [0, 1, 2, 3, 4] rfl) hs
        · refine lv_iload_n S.1 S.2.1 dX4_tick_48 rfl (lv_at hl 1 rfl) ?_
          refine lv_iload S.1 S.2.1 dX4_tick_49 (lv_at hl 4 rfl) ?_
          refine lv_iadd S.1 S.2.1 dX4_tick_51 ?_
          refine lv_goto (tgt := 64) S.1 S.2.1 dX4_tick_52 (by decide) ?_
          exact J64 _ ih _ _ _ _ _ _ hf _ _ _ (lv_sub hl [0, 1, 2, 3, 4] rfl) hs
  have J20 : ∀ (w0 : Int32) (σ : zSt), fX4_tick_j20 w0 σ = some res → gGo p l e rmX4_tick s m args below meth c (MQ below (gQi D cI g r0 σ0) args s 0 0 (gA g)) D cI g 8 σ [(0, .ref (g 0))] 20 [.int w0] := by
    intro w0 σ hf H locs ls hl hs
    unfold fX4_tick_j20 at hf
    refine lv_istore_n (lv' := [(1, .int w0), (0, .ref (g 0))]) S.1 S.2.1 dX4_tick_20 rfl hl (by decide) rfl (fun ls hl => ?_)
    refine lv_iconst S.1 S.2.1 dX4_tick_21 k_iconst_0 ?_
    refine lv_istore_n (lv' := [(2, .int (nI 0)), (1, .int w0), (0, .ref (g 0))]) S.1 S.2.1 dX4_tick_22 rfl hl (by decide) rfl (fun ls hl => ?_)
    refine lv_iconst S.1 S.2.1 dX4_tick_23 k_iconst_0 ?_
    refine lv_istore_n (lv' := [(3, .int (nI 0)), (2, .int (nI 0)), (1, .int w0), (0, .ref (g 0))]) S.1 S.2.1 dX4_tick_24 rfl hl (by decide) rfl (fun ls hl => ?_)
    refine lv_iconst S.1 S.2.1 dX4_tick_25 k_iconst_0 ?_
    refine lv_istore (lv' := [(4, .int (nI 0)), (3, .int (nI 0)), (2, .int (nI 0)), (1, .int w0), (0, .ref (g 0))]) S.1 S.2.1 dX4_tick_26 hl (by decide) rfl (fun ls hl => ?_)
    refine L28 _ (fun x9 σ10 hf H locs ls hl hs => ?_) _ _ _ _ _ _ hf _ _ _ (lv_sub hl [4, 3, 2, 1, 0] rfl) hs
    refine lv_aload_n S.1 S.2.1 dX4_tick_184 rfl (lv_at hl 0 rfl) ?_
    refine lv_dup S.1 S.2.1 dX4_tick_185 rfl ?_
    refine ggX4_72_0 S K hs dX4_tick_186 ?_
    refine lv_iconst S.1 S.2.1 dX4_tick_189 k_iconst_1 ?_
    refine lv_iadd S.1 S.2.1 dX4_tick_190 ?_
    refine gpX4_72_0 S K hs hf dX4_tick_191 (fun σ11 H locs hs hf => ?_)
    refine lv_iload_n S.1 S.2.1 dX4_tick_194 rfl (lv_at hl 1 rfl) ?_
    exact grI S K hr hk hs (hf.trans (congrArg some hres)) dX4_tick_195
  unfold fX4_tick at hf
  refine lv_aload_n S.1 S.2.1 dX4_tick_0 rfl (lv_at hl 0 rfl) ?_
  refine ggX4_66_0 S K hs dX4_tick_1 ?_
  refine z_if_le (tgt := 19) S hf dX4_tick_4 (by decide) (fun hf => ?_) (fun hf => ?_)
  · refine lv_iconst S.1 S.2.1 dX4_tick_19 k_iconst_0 ?_
    exact J20 _ _ hf _ _ _ (lv_sub hl [0] rfl) hs
  · refine lv_aload_n S.1 S.2.1 dX4_tick_7 rfl (lv_at hl 0 rfl) ?_
    refine ggX4_72_0 S K hs dX4_tick_8 ?_
    refine lv_aload_n S.1 S.2.1 dX4_tick_11 rfl (lv_at hl 0 rfl) ?_
    refine ggX4_66_0 S K hs dX4_tick_12 ?_
    refine z_irem S hf dX4_tick_15 (fun x12 hf => ?_)
    refine lv_goto (tgt := 20) S.1 S.2.1 dX4_tick_16 (by decide) ?_
    exact J20 _ _ hf _ _ _ (lv_sub hl [0] rfl) hs
theorem metX4_tick (l : Launch) (D : va_G) (cI : ClassId) (g : Nat → Nat) (σ : zSt) (r0 : Int32) (σ0 : zSt) (hf : fX4_tick σ = some (r0, σ0)) : Met l yX4_tick (Cond.code yX4_tick cX4_tick 8 (some .int) :: WA) rmX4_tick (gPc D cI g σ [.ref (g 0)]) ((gQi D cI g r0 σ0)) 0 0 (gA g) :=
  gMet (by decide) (Nat.le_of_ble_eq_true rfl) (fun p e s m args below meth c H locs ls S K hr hk hl hs => bdX4_tick S K hr hk  _ _ _ hf hl hs)
