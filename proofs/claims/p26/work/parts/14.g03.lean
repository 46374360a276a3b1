/-! a machine: contracts (by wip/tools/gworld.py) -/
set_option maxHeartbeats 4000000 in
set_option maxRecDepth 100000 in
theorem bdX4_letPass {p : Program} {l : Launch} {e : Env} {s : State} {m : MethodId} {args : Array Value} {below : List Frame} {meth : Method} {c : Code} {H : Heap} {locs : List Loc} {ls : Array Slot} {D : va_G} {cI : ClassId} {g : Nat → Nat} (S : CallFix p m c cX4_letPass 5 s args WA RX4) (K : va_K D vwCl [(cI, .int)] s) (hr : meth.sig.returnType = (some .int)) (hk : meth.locks = false) (a0 : Int32) (σ : zSt) (r0 : Int32) (σ0 : zSt) (hf : fX4_letPass a0 σ = some (r0, σ0)) (hl : lv_has ls 5 [(0, .ref (g 0)), (1, .int a0)]) (hs : gS D cI g s σ H locs) : W p l e rmX4_letPass s m args below meth c H locs 0 0 (MQ below (gQi D cI g r0 σ0) args s 0 0 (gA g)) (F0 m 0 ls []) := by
  obtain ⟨res, hres⟩ : ∃ q, q = (r0, σ0) := ⟨_, rfl⟩
  rw [← hres] at hf
  have L12 : ∀ (K12 : Int32 → Int32 → zSt → Option (Int32 × zSt)) (hK12 : ∀ (y2 : Int32) (y3 : Int32) (σ : zSt), K12 y2 y3 σ = some res → gGo p l e rmX4_letPass s m args below meth c (MQ below (gQi D cI g r0 σ0) args s 0 0 (gA g)) D cI g 5 σ [(0, .ref (g 0)), (2, .int y2), (3, .int y3)] 41 []) (n : Nat) (y1 : Int32) (y2 : Int32) (y3 : Int32) (y4 : Int32) (σ : zSt), fX4_letPass_l12 K12 n y1 y2 y3 y4 σ = some res → gGo p l e rmX4_letPass s m args below meth c (MQ below (gQi D cI g r0 σ0) args s 0 0 (gA g)) D cI g 5 σ [(0, .ref (g 0)), (1, .int y1), (2, .int y2), (3, .int y3), (4, .int y4)] 12 [] := by
    intro K12 hK12 n
    induction n with
    | zero =>
      intro y1 y2 y3 y4 σ hf H locs ls hl hs
      rw [fX4_letPass_l12] at hf
      cases hf
    | succ n ih =>
      intro y1 y2 y3 y4 σ hf H locs ls hl hs
      rw [fX4_letPass_l12] at hf
      refine lv_iload S.1 S.2.1 dX4_letPass_12 (lv_at hl 4 rfl) ?_
      refine lv_iload_n S.1 S.2.1 dX4_letPass_14 rfl (lv_at hl 1 rfl) ?_
      refine z_icmp_ge (tgt := 41) S hf dX4_letPass_15 (by decide) (fun hf => ?_) (fun hf => ?_)
      · exact hK12 _ _ _ hf _ _ _ (lv_sub hl [0, 2, 3] rfl) hs
      · refine lv_aload_n S.1 S.2.1 dX4_letPass_18 rfl (lv_at hl 0 rfl) ?_
        refine ggX4_35_0 S K hs dX4_letPass_19 ?_
        refine gcP (gV10 K hs) S K hs hl.1 hf (fun _ hX => metX7_count _ _ _ _ _ _ hX) (cwX4_110 S.2.2.2.2 ⟨Nat.le_of_ble_eq_true rfl, Nat.le_of_ble_eq_true rfl⟩) rfl dX4_letPass_22 rfl (Nat.le_of_ble_eq_true rfl) ⟨Nat.le_refl _, Nat.le_refl _⟩ (fun x1 H locs hs hf => ?_)
        refine z_if_le (tgt := 41) S hf dX4_letPass_25 (by decide) (fun hf => ?_) (fun hf => ?_)
        · exact hK12 _ _ _ hf _ _ _ (lv_sub hl [0, 2, 3] rfl) hs
        · refine lv_iload_n S.1 S.2.1 dX4_letPass_28 rfl (lv_at hl 3 rfl) ?_
          refine lv_aload_n S.1 S.2.1 dX4_letPass_29 rfl (lv_at hl 0 rfl) ?_
          refine gcV (gV0 K hs) S K hs hl.1 hf (fun _ _ hX => metX4_tick _ _ _ _ _ _ _ hX) (cwX4_113 S.2.2.2.2 ⟨Nat.le_of_ble_eq_true rfl, Nat.le_of_ble_eq_true rfl⟩) rfl dX4_letPass_30 rfl (Nat.le_of_ble_eq_true rfl) ⟨Nat.le_refl _, Nat.le_refl _⟩ (fun x2 σ3 H locs hs hf => ?_)
          refine lv_iadd S.1 S.2.1 dX4_letPass_33 ?_
          refine lv_istore_n (lv' := [(3, .int (y3 + x2)), (0, .ref (g 0)), (1, .int y1), (2, .int y2), (4, .int y4)]) S.1 S.2.1 dX4_letPass_34 rfl hl (by decide) rfl (fun ls hl => ?_)
          refine lv_iinc (v := y4 + nI 1) (lv' := [(4, .int (y4 + nI 1)), (3, .int (y3 + x2)), (0, .ref (g 0)), (1, .int y1), (2, .int y2)]) S.1 S.2.1 dX4_letPass_35 hl (k := 4) rfl (by rw [k_iconst_1]) (by decide) rfl (fun ls hl => ?_)
          refine lv_goto (tgt := 12) S.1 S.2.1 dX4_letPass_38 (by decide) ?_
          exact ih _ _ _ _ _ hf _ _ _ (lv_sub hl [2, 3, 4, 1, 0] rfl) hs
  unfold fX4_letPass at hf
  refine lv_aload_n S.1 S.2.1 dX4_letPass_0 rfl (lv_at hl 0 rfl) ?_
  refine ggX4_72_0 S K hs dX4_letPass_1 ?_
  refine lv_iload_n S.1 S.2.1 dX4_letPass_4 rfl (lv_at hl 1 rfl) ?_
  refine lv_iadd S.1 S.2.1 dX4_letPass_5 ?_
  refine lv_istore_n (lv' := [(2, .int ((σ 21 0) + a0)), (0, .ref (g 0)), (1, .int a0)]) S.1 S.2.1 dX4_letPass_6 rfl hl (by decide) rfl (fun ls hl => ?_)
  refine lv_iconst S.1 S.2.1 dX4_letPass_7 k_iconst_0 ?_
  refine lv_istore_n (lv' := [(3, .int (nI 0)), (2, .int ((σ 21 0) + a0)), (0, .ref (g 0)), (1, .int a0)]) S.1 S.2.1 dX4_letPass_8 rfl hl (by decide) rfl (fun ls hl => ?_)
  refine lv_iconst S.1 S.2.1 dX4_letPass_9 k_iconst_0 ?_
  refine lv_istore (lv' := [(4, .int (nI 0)), (3, .int (nI 0)), (2, .int ((σ 21 0) + a0)), (0, .ref (g 0)), (1, .int a0)]) S.1 S.2.1 dX4_letPass_10 hl (by decide) rfl (fun ls hl => ?_)
  refine L12 _ (fun x4 x5 σ6 hf H locs ls hl hs => ?_) _ _ _ _ _ _ hf _ _ _ (lv_sub hl [3, 4, 2, 1, 0] rfl) hs
  refine lv_aload_n S.1 S.2.1 dX4_letPass_41 rfl (lv_at hl 0 rfl) ?_
  refine lv_iload_n S.1 S.2.1 dX4_letPass_42 rfl (lv_at hl 1 rfl) ?_
  refine gpX4_72_0 S K hs hf dX4_letPass_43 (fun σ7 H locs hs hf => ?_)
  refine lv_iload_n S.1 S.2.1 dX4_letPass_46 rfl (lv_at hl 2 rfl) ?_
  exact grI S K hr hk hs (hf.trans (congrArg some hres)) dX4_letPass_47
theorem metX4_letPass (l : Launch) (D : va_G) (cI : ClassId) (g : Nat → Nat) (a0 : Int32) (σ : zSt) (r0 : Int32) (σ0 : zSt) (hf : fX4_letPass a0 σ = some (r0, σ0)) : Met l yX4_letPass (Cond.code yX4_letPass cX4_letPass 5 (some .int) :: WA) rmX4_letPass (gPc D cI g σ [.ref (g 0), .int a0]) ((gQi D cI g r0 σ0)) 0 0 (gA g) :=
  gMet (by decide) (Nat.le_of_ble_eq_true rfl) (fun p e s m args below meth c H locs ls S K hr hk hl hs => bdX4_letPass S K hr hk _ _ _ _ hf hl hs)
set_option maxHeartbeats 4000000 in
set_option maxRecDepth 100000 in
theorem bdX4_lineFact {p : Program} {l : Launch} {e : Env} {s : State} {m : MethodId} {args : Array Value} {below : List Frame} {meth : Method} {c : Code} {H : Heap} {locs : List Loc} {ls : Array Slot} {D : va_G} {cI : ClassId} {g : Nat → Nat} (S : CallFix p m c cX4_lineFact 3 s args WA RX4) (K : va_K D vwCl [(cI, .int)] s) (hr : meth.sig.returnType = (some .int)) (hk : meth.locks = false) (a0 : Int32) (a1 : Int32) (σ : zSt) (r0 : Int32) (hf : fX4_lineFact a0 a1 σ = some r0) (hl : lv_has ls 3 [(0, .ref (g 0)), (1, .int a0), (2, .int a1)]) (hs : gS D cI g s σ H locs) : W p l e rmX4_lineFact s m args below meth c H locs 0 0 (MQ below (gQi D cI g r0 σ) args s 0 0 (gA g)) (F0 m 0 ls []) := by
  unfold fX4_lineFact at hf
  refine lv_iload_n S.1 S.2.1 dX4_lineFact_0 rfl (lv_at hl 2 rfl) ?_
  refine z_case (v := 0) hf (fun hn0 hf => ?_) (fun hn0 hf => ?_)
  · refine lv_tableIn (tgt := 44) S.1 S.2.1 dX4_lineFact_1 (by rw [hn0]; decide) (by rw [hn0]; decide) (off := 43) (by rw [hn0]; decide) (by decide) ?_
    refine lv_aload_n S.1 S.2.1 dX4_lineFact_44 rfl (lv_at hl 0 rfl) ?_
    refine ggX4_9_0 S K hs dX4_lineFact_45 ?_
    refine lv_iload_n S.1 S.2.1 dX4_lineFact_48 rfl (lv_at hl 1 rfl) ?_
    refine gld1 S K hs hf dX4_lineFact_49 (fun x1 hf => ?_)
    exact grP S K hr hk hs hf dX4_lineFact_50
  refine z_case (v := 1) hf (fun hn1 hf => ?_) (fun hn1 hf => ?_)
  · refine lv_tableIn (tgt := 51) S.1 S.2.1 dX4_lineFact_1 (by rw [hn1]; decide) (by rw [hn1]; decide) (off := 50) (by rw [hn1]; decide) (by decide) ?_
    refine lv_aload_n S.1 S.2.1 dX4_lineFact_51 rfl (lv_at hl 0 rfl) ?_
    refine ggX4_15_0 S K hs dX4_lineFact_52 ?_
    refine lv_iload_n S.1 S.2.1 dX4_lineFact_55 rfl (lv_at hl 1 rfl) ?_
    refine gld2 S K hs hf dX4_lineFact_56 (fun x2 hf => ?_)
    exact grP S K hr hk hs hf dX4_lineFact_57
  refine z_case (v := 2) hf (fun hn2 hf => ?_) (fun hn2 hf => ?_)
  · refine lv_tableIn (tgt := 58) S.1 S.2.1 dX4_lineFact_1 (by rw [hn2]; decide) (by rw [hn2]; decide) (off := 57) (by rw [hn2]; decide) (by decide) ?_
    refine lv_aload_n S.1 S.2.1 dX4_lineFact_58 rfl (lv_at hl 0 rfl) ?_
    refine ggX4_21_0 S K hs dX4_lineFact_59 ?_
    refine lv_iload_n S.1 S.2.1 dX4_lineFact_62 rfl (lv_at hl 1 rfl) ?_
    refine gcP (gV3 K hs) S K hs hl.1 hf (fun _ hX => metX0_ownerOf _ _ _ _ _ _ _ hX) (cwX4_147 S.2.2.2.2 ⟨Nat.le_of_ble_eq_true rfl, Nat.le_of_ble_eq_true rfl⟩) rfl dX4_lineFact_63 rfl (Nat.le_of_ble_eq_true rfl) ⟨Nat.le_refl _, Nat.le_refl _⟩ (fun x3 H locs hs hf => ?_)
    exact grP S K hr hk hs hf dX4_lineFact_66
  refine z_case (v := 3) hf (fun hn3 hf => ?_) (fun hn3 hf => ?_)
  · refine lv_tableIn (tgt := 67) S.1 S.2.1 dX4_lineFact_1 (by rw [hn3]; decide) (by rw [hn3]; decide) (off := 66) (by rw [hn3]; decide) (by decide) ?_
    refine lv_aload_n S.1 S.2.1 dX4_lineFact_67 rfl (lv_at hl 0 rfl) ?_
    refine ggX4_21_0 S K hs dX4_lineFact_68 ?_
    refine lv_iload_n S.1 S.2.1 dX4_lineFact_71 rfl (lv_at hl 1 rfl) ?_
    refine gcP (gV3 K hs) S K hs hl.1 hf (fun _ hX => metX0_sharersOf _ _ _ _ _ _ _ hX) (cwX4_151 S.2.2.2.2 ⟨Nat.le_of_ble_eq_true rfl, Nat.le_of_ble_eq_true rfl⟩) rfl dX4_lineFact_72 rfl (Nat.le_of_ble_eq_true rfl) ⟨Nat.le_refl _, Nat.le_refl _⟩ (fun x4 H locs hs hf => ?_)
    exact grP S K hr hk hs hf dX4_lineFact_75
  refine z_case (v := 4) hf (fun hn4 hf => ?_) (fun hn4 hf => ?_)
  · refine lv_tableIn (tgt := 76) S.1 S.2.1 dX4_lineFact_1 (by rw [hn4]; decide) (by rw [hn4]; decide) (off := 75) (by rw [hn4]; decide) (by decide) ?_
    refine lv_aload_n S.1 S.2.1 dX4_lineFact_76 rfl (lv_at hl 0 rfl) ?_
    refine ggX4_28_0 S K hs dX4_lineFact_77 ?_
    refine lv_iload_n S.1 S.2.1 dX4_lineFact_80 rfl (lv_at hl 1 rfl) ?_
    refine gcP (gV8 K hs) S K hs hl.1 hf (fun _ hX => metX1_hasPage _ _ _ _ _ _ _ hX) (cwX4_141 S.2.2.2.2 ⟨Nat.le_of_ble_eq_true rfl, Nat.le_of_ble_eq_true rfl⟩) rfl dX4_lineFact_81 rfl (Nat.le_of_ble_eq_true rfl) ⟨Nat.le_refl _, Nat.le_refl _⟩ (fun x5 H locs hs hf => ?_)
    refine z_if_eq (tgt := 91) S hf dX4_lineFact_84 (by decide) (fun hf => ?_) (fun hf => ?_)
    · refine lv_iconst S.1 S.2.1 dX4_lineFact_91 k_iconst_0 ?_
      exact grP S K hr hk hs hf dX4_lineFact_92
    · refine lv_iconst S.1 S.2.1 dX4_lineFact_87 k_iconst_1 ?_
      refine lv_goto (tgt := 92) S.1 S.2.1 dX4_lineFact_88 (by decide) ?_
      exact grP S K hr hk hs hf dX4_lineFact_92
  refine z_case (v := 5) hf (fun hn5 hf => ?_) (fun hn5 hf => ?_)
  · refine lv_tableIn (tgt := 93) S.1 S.2.1 dX4_lineFact_1 (by rw [hn5]; decide) (by rw [hn5]; decide) (off := 92) (by rw [hn5]; decide) (by decide) ?_
    refine lv_aload_n S.1 S.2.1 dX4_lineFact_93 rfl (lv_at hl 0 rfl) ?_
    refine ggX4_28_0 S K hs dX4_lineFact_94 ?_
    refine lv_iload_n S.1 S.2.1 dX4_lineFact_97 rfl (lv_at hl 1 rfl) ?_
    refine gcP (gV8 K hs) S K hs hl.1 hf (fun _ hX => metX1_hasPage _ _ _ _ _ _ _ hX) (cwX4_141 S.2.2.2.2 ⟨Nat.le_of_ble_eq_true rfl, Nat.le_of_ble_eq_true rfl⟩) rfl dX4_lineFact_98 rfl (Nat.le_of_ble_eq_true rfl) ⟨Nat.le_refl _, Nat.le_refl _⟩ (fun x6 H locs hs hf => ?_)
    refine z_if_eq (tgt := 115) S hf dX4_lineFact_101 (by decide) (fun hf => ?_) (fun hf => ?_)
    · refine lv_iconst S.1 S.2.1 dX4_lineFact_115 k_iconst_m1 ?_
      exact grP S K hr hk hs hf dX4_lineFact_116
    · refine lv_aload_n S.1 S.2.1 dX4_lineFact_104 rfl (lv_at hl 0 rfl) ?_
      refine ggX4_21_0 S K hs dX4_lineFact_105 ?_
      refine lv_iload_n S.1 S.2.1 dX4_lineFact_108 rfl (lv_at hl 1 rfl) ?_
      refine gcP (gV3 K hs) S K hs hl.1 hf (fun _ hX => metX0_ownerOf _ _ _ _ _ _ _ hX) (cwX4_147 S.2.2.2.2 ⟨Nat.le_of_ble_eq_true rfl, Nat.le_of_ble_eq_true rfl⟩) rfl dX4_lineFact_109 rfl (Nat.le_of_ble_eq_true rfl) ⟨Nat.le_refl _, Nat.le_refl _⟩ (fun x7 H locs hs hf => ?_)
      refine lv_goto (tgt := 116) S.1 S.2.1 dX4_lineFact_112 (by decide) ?_
      exact grP S K hr hk hs hf dX4_lineFact_116
  refine z_case (v := 6) hf (fun hn6 hf => ?_) (fun hn6 hf => ?_)
  · refine lv_tableIn (tgt := 117) S.1 S.2.1 dX4_lineFact_1 (by rw [hn6]; decide) (by rw [hn6]; decide) (off := 116) (by rw [hn6]; decide) (by decide) ?_
    refine lv_aload_n S.1 S.2.1 dX4_lineFact_117 rfl (lv_at hl 0 rfl) ?_
    refine ggX4_28_0 S K hs dX4_lineFact_118 ?_
    refine lv_iload_n S.1 S.2.1 dX4_lineFact_121 rfl (lv_at hl 1 rfl) ?_
    refine gcP (gV8 K hs) S K hs hl.1 hf (fun _ hX => metX1_hasPage _ _ _ _ _ _ _ hX) (cwX4_141 S.2.2.2.2 ⟨Nat.le_of_ble_eq_true rfl, Nat.le_of_ble_eq_true rfl⟩) rfl dX4_lineFact_122 rfl (Nat.le_of_ble_eq_true rfl) ⟨Nat.le_refl _, Nat.le_refl _⟩ (fun x8 H locs hs hf => ?_)
    refine z_if_eq (tgt := 139) S hf dX4_lineFact_125 (by decide) (fun hf => ?_) (fun hf => ?_)
    · refine lv_iconst S.1 S.2.1 dX4_lineFact_139 k_iconst_m1 ?_
      exact grP S K hr hk hs hf dX4_lineFact_140
    · refine lv_aload_n S.1 S.2.1 dX4_lineFact_128 rfl (lv_at hl 0 rfl) ?_
      refine ggX4_21_0 S K hs dX4_lineFact_129 ?_
      refine lv_iload_n S.1 S.2.1 dX4_lineFact_132 rfl (lv_at hl 1 rfl) ?_
      refine gcP (gV3 K hs) S K hs hl.1 hf (fun _ hX => metX0_sharersOf _ _ _ _ _ _ _ hX) (cwX4_151 S.2.2.2.2 ⟨Nat.le_of_ble_eq_true rfl, Nat.le_of_ble_eq_true rfl⟩) rfl dX4_lineFact_133 rfl (Nat.le_of_ble_eq_true rfl) ⟨Nat.le_refl _, Nat.le_refl _⟩ (fun x9 H locs hs hf => ?_)
      refine lv_goto (tgt := 140) S.1 S.2.1 dX4_lineFact_136 (by decide) ?_
      exact grP S K hr hk hs hf dX4_lineFact_140
  refine lv_tableOut (tgt := 141) S.1 S.2.1 dX4_lineFact_1 (by have q0 := z_ne hn0 (by decide); have q1 := z_ne hn1 (by decide); have q2 := z_ne hn2 (by decide); have q3 := z_ne hn3 (by decide); have q4 := z_ne hn4 (by decide); have q5 := z_ne hn5 (by decide); have q6 := z_ne hn6 (by decide); omega) (by decide) ?_
  refine lv_aload_n S.1 S.2.1 dX4_lineFact_141 rfl (lv_at hl 0 rfl) ?_
  refine ggX4_28_0 S K hs dX4_lineFact_142 ?_
  refine lv_iload_n S.1 S.2.1 dX4_lineFact_145 rfl (lv_at hl 1 rfl) ?_
  refine gcP (gV8 K hs) S K hs hl.1 hf (fun _ hX => metX1_isMarked _ _ _ _ _ _ _ hX) (cwX4_144 S.2.2.2.2 ⟨Nat.le_of_ble_eq_true rfl, Nat.le_of_ble_eq_true rfl⟩) rfl dX4_lineFact_146 rfl (Nat.le_of_ble_eq_true rfl) ⟨Nat.le_refl _, Nat.le_refl _⟩ (fun x10 H locs hs hf => ?_)
  refine z_if_eq (tgt := 156) S hf dX4_lineFact_149 (by decide) (fun hf => ?_) (fun hf => ?_)
  · refine lv_iconst S.1 S.2.1 dX4_lineFact_156 k_iconst_0 ?_
    exact grP S K hr hk hs hf dX4_lineFact_157
  · refine lv_iconst S.1 S.2.1 dX4_lineFact_152 k_iconst_1 ?_
    refine lv_goto (tgt := 157) S.1 S.2.1 dX4_lineFact_153 (by decide) ?_
    exact grP S K hr hk hs hf dX4_lineFact_157
theorem metX4_lineFact (l : Launch) (D : va_G) (cI : ClassId) (g : Nat → Nat) (a0 : Int32) (a1 : Int32) (σ : zSt) (r0 : Int32) (hf : fX4_lineFact a0 a1 σ = some r0) : Met l yX4_lineFact (Cond.code yX4_lineFact cX4_lineFact 3 (some .int) :: WA) rmX4_lineFact (gPc D cI g σ [.ref (g 0), .int a0, .int a1]) ((gQi D cI g r0 σ)) 0 0 (gA g) :=
  gMet (by decide) (Nat.le_of_ble_eq_true rfl) (fun p e s m args below meth c H locs ls S K hr hk hl hs => bdX4_lineFact S K hr hk _ _ _ _ hf hl hs)
set_option maxHeartbeats 4000000 in
set_option maxRecDepth 100000 in
theorem bdX4_number {p : Program} {l : Launch} {e : Env} {s : State} {m : MethodId} {args : Array Value} {below : List Frame} {meth : Method} {c : Code} {H : Heap} {locs : List Loc} {ls : Array Slot} {D : va_G} {cI : ClassId} {g : Nat → Nat} (S : CallFix p m c cX4_number 2 s args WA RX4) (K : va_K D vwCl [(cI, .int)] s) (hr : meth.sig.returnType = (some .int)) (hk : meth.locks = false) (a0 : Int32) (σ : zSt) (r0 : Int32) (hf : fX4_number a0 σ = some r0) (hl : lv_has ls 2 [(0, .ref (g 0)), (1, .int a0)]) (hs : gS D cI g s σ H locs) : W p l e rmX4_number s m args below meth c H locs 0 0 (MQ below (gQi D cI g r0 σ) args s 0 0 (gA g)) (F0 m 0 ls []) := by
  unfold fX4_number at hf
  refine lv_iload_n S.1 S.2.1 dX4_number_0 rfl (lv_at hl 1 rfl) ?_
  refine z_case (v := 0) hf (fun hn0 hf => ?_) (fun hn0 hf => ?_)
  · refine lv_tableIn (tgt := 68) S.1 S.2.1 dX4_number_1 (by rw [hn0]; decide) (by rw [hn0]; decide) (off := 67) (by rw [hn0]; decide) (by decide) ?_
    refine lv_aload_n S.1 S.2.1 dX4_number_68 rfl (lv_at hl 0 rfl) ?_
    refine ggX4_66_0 S K hs dX4_number_69 ?_
    exact grP S K hr hk hs hf dX4_number_72
  refine z_case (v := 1) hf (fun hn1 hf => ?_) (fun hn1 hf => ?_)
  · refine lv_tableIn (tgt := 73) S.1 S.2.1 dX4_number_1 (by rw [hn1]; decide) (by rw [hn1]; decide) (off := 72) (by rw [hn1]; decide) (by decide) ?_
    refine lv_aload_n S.1 S.2.1 dX4_number_73 rfl (lv_at hl 0 rfl) ?_
    refine ggX4_69_0 S K hs dX4_number_74 ?_
    exact grP S K hr hk hs hf dX4_number_77
  refine z_case (v := 2) hf (fun hn2 hf => ?_) (fun hn2 hf => ?_)
  · refine lv_tableIn (tgt := 78) S.1 S.2.1 dX4_number_1 (by rw [hn2]; decide) (by rw [hn2]; decide) (off := 77) (by rw [hn2]; decide) (by decide) ?_
    refine lv_aload_n S.1 S.2.1 dX4_number_78 rfl (lv_at hl 0 rfl) ?_
    refine ggX4_28_0 S K hs dX4_number_79 ?_
    refine ggX4_232_8 S K hs dX4_number_82 ?_
    exact grP S K hr hk hs hf dX4_number_85
  refine z_case (v := 3) hf (fun hn3 hf => ?_) (fun hn3 hf => ?_)
  · refine lv_tableIn (tgt := 86) S.1 S.2.1 dX4_number_1 (by rw [hn3]; decide) (by rw [hn3]; decide) (off := 85) (by rw [hn3]; decide) (by decide) ?_
    refine lv_aload_n S.1 S.2.1 dX4_number_86 rfl (lv_at hl 0 rfl) ?_
    refine ggX4_28_0 S K hs dX4_number_87 ?_
    refine ggX4_235_8 S K hs dX4_number_90 ?_
    exact grP S K hr hk hs hf dX4_number_93
  refine z_case (v := 4) hf (fun hn4 hf => ?_) (fun hn4 hf => ?_)
  · refine lv_tableIn (tgt := 94) S.1 S.2.1 dX4_number_1 (by rw [hn4]; decide) (by rw [hn4]; decide) (off := 93) (by rw [hn4]; decide) (by decide) ?_
    refine lv_aload_n S.1 S.2.1 dX4_number_94 rfl (lv_at hl 0 rfl) ?_
    refine ggX4_72_0 S K hs dX4_number_95 ?_
    exact grP S K hr hk hs hf dX4_number_98
  refine z_case (v := 5) hf (fun hn5 hf => ?_) (fun hn5 hf => ?_)
  · refine lv_tableIn (tgt := 99) S.1 S.2.1 dX4_number_1 (by rw [hn5]; decide) (by rw [hn5]; decide) (off := 98) (by rw [hn5]; decide) (by decide) ?_
    refine lv_aload_n S.1 S.2.1 dX4_number_99 rfl (lv_at hl 0 rfl) ?_
    refine ggX4_75_0 S K hs dX4_number_100 ?_
    exact grP S K hr hk hs hf dX4_number_103
  refine z_case (v := 6) hf (fun hn6 hf => ?_) (fun hn6 hf => ?_)
  · refine lv_tableIn (tgt := 104) S.1 S.2.1 dX4_number_1 (by rw [hn6]; decide) (by rw [hn6]; decide) (off := 103) (by rw [hn6]; decide) (by decide) ?_
    refine lv_aload_n S.1 S.2.1 dX4_number_104 rfl (lv_at hl 0 rfl) ?_
    refine ggX4_78_0 S K hs dX4_number_105 ?_
    exact grP S K hr hk hs hf dX4_number_108
  refine z_case (v := 7) hf (fun hn7 hf => ?_) (fun hn7 hf => ?_)
  · refine lv_tableIn (tgt := 109) S.1 S.2.1 dX4_number_1 (by rw [hn7]; decide) (by rw [hn7]; decide) (off := 108) (by rw [hn7]; decide) (by decide) ?_
    refine lv_aload_n S.1 S.2.1 dX4_number_109 rfl (lv_at hl 0 rfl) ?_
    refine ggX4_81_0 S K hs dX4_number_110 ?_
    exact grP S K hr hk hs hf dX4_number_113
  refine z_case (v := 8) hf (fun hn8 hf => ?_) (fun hn8 hf => ?_)
  · refine lv_tableIn (tgt := 114) S.1 S.2.1 dX4_number_1 (by rw [hn8]; decide) (by rw [hn8]; decide) (off := 113) (by rw [hn8]; decide) (by decide) ?_
    refine lv_aload_n S.1 S.2.1 dX4_number_114 rfl (lv_at hl 0 rfl) ?_
    refine ggX4_84_0 S K hs dX4_number_115 ?_
    exact grP S K hr hk hs hf dX4_number_118
  refine z_case (v := 9) hf (fun hn9 hf => ?_) (fun hn9 hf => ?_)
  · refine lv_tableIn (tgt := 119) S.1 S.2.1 dX4_number_1 (by rw [hn9]; decide) (by rw [hn9]; decide) (off := 118) (by rw [hn9]; decide) (by decide) ?_
    refine lv_aload_n S.1 S.2.1 dX4_number_119 rfl (lv_at hl 0 rfl) ?_
    refine ggX4_28_0 S K hs dX4_number_120 ?_
    refine ggX4_238_8 S K hs dX4_number_123 ?_
    exact grP S K hr hk hs hf dX4_number_126
  refine z_case (v := 10) hf (fun hn10 hf => ?_) (fun hn10 hf => ?_)
  · refine lv_tableIn (tgt := 127) S.1 S.2.1 dX4_number_1 (by rw [hn10]; decide) (by rw [hn10]; decide) (off := 126) (by rw [hn10]; decide) (by decide) ?_
    refine lv_aload_n S.1 S.2.1 dX4_number_127 rfl (lv_at hl 0 rfl) ?_
    refine ggX4_28_0 S K hs dX4_number_128 ?_
    refine ggX4_241_8 S K hs dX4_number_131 ?_
    exact grP S K hr hk hs hf dX4_number_134
  refine z_case (v := 11) hf (fun hn11 hf => ?_) (fun hn11 hf => ?_)
  · refine lv_tableIn (tgt := 135) S.1 S.2.1 dX4_number_1 (by rw [hn11]; decide) (by rw [hn11]; decide) (off := 134) (by rw [hn11]; decide) (by decide) ?_
    refine lv_aload_n S.1 S.2.1 dX4_number_135 rfl (lv_at hl 0 rfl) ?_
    refine ggX4_87_0 S K hs dX4_number_136 ?_
    exact grP S K hr hk hs hf dX4_number_139
  refine z_case (v := 12) hf (fun hn12 hf => ?_) (fun hn12 hf => ?_)
  · refine lv_tableIn (tgt := 140) S.1 S.2.1 dX4_number_1 (by rw [hn12]; decide) (by rw [hn12]; decide) (off := 139) (by rw [hn12]; decide) (by decide) ?_
    refine lv_aload_n S.1 S.2.1 dX4_number_140 rfl (lv_at hl 0 rfl) ?_
    refine ggX4_35_0 S K hs dX4_number_141 ?_
    refine gcP (gV10 K hs) S K hs hl.1 hf (fun _ hX => metX7_count _ _ _ _ _ _ hX) (cwX4_110 S.2.2.2.2 ⟨Nat.le_of_ble_eq_true rfl, Nat.le_of_ble_eq_true rfl⟩) rfl dX4_number_144 rfl (Nat.le_of_ble_eq_true rfl) ⟨Nat.le_refl _, Nat.le_refl _⟩ (fun x1 H locs hs hf => ?_)
    exact grP S K hr hk hs hf dX4_number_147
  refine lv_tableOut (tgt := 148) S.1 S.2.1 dX4_number_1 (by have q0 := z_ne hn0 (by decide); have q1 := z_ne hn1 (by decide); have q2 := z_ne hn2 (by decide); have q3 := z_ne hn3 (by decide); have q4 := z_ne hn4 (by decide); have q5 := z_ne hn5 (by decide); have q6 := z_ne hn6 (by decide); have q7 := z_ne hn7 (by decide); have q8 := z_ne hn8 (by decide); have q9 := z_ne hn9 (by decide); have q10 := z_ne hn10 (by decide); have q11 := z_ne hn11 (by decide); have q12 := z_ne hn12 (by decide); omega) (by decide) ?_
  refine lv_aload_n S.1 S.2.1 dX4_number_148 rfl (lv_at hl 0 rfl) ?_
  refine ggX4_42_0 S K hs dX4_number_149 ?_
  refine ggX4_62_14 S K hs dX4_number_152 ?_
  exact grP S K hr hk hs hf dX4_number_155
theorem metX4_number (l : Launch) (D : va_G) (cI : ClassId) (g : Nat → Nat) (a0 : Int32) (σ : zSt) (r0 : Int32) (hf : fX4_number a0 σ = some r0) : Met l yX4_number (Cond.code yX4_number cX4_number 2 (some .int) :: WA) rmX4_number (gPc D cI g σ [.ref (g 0), .int a0]) ((gQi D cI g r0 σ)) 0 0 (gA g) :=
  gMet (by decide) (Nat.le_of_ble_eq_true rfl) (fun p e s m args below meth c H locs ls S K hr hk hl hs => bdX4_number S K hr hk _ _ _ hf hl hs)
set_option maxHeartbeats 4000000 in
set_option maxRecDepth 100000 in
theorem bdX7_forgetAll {p : Program} {l : Launch} {e : Env} {s : State} {m : MethodId} {args : Array Value} {below : List Frame} {meth : Method} {c : Code} {H : Heap} {locs : List Loc} {ls : Array Slot} {D : va_G} {cI : ClassId} {g : Nat → Nat} (S : CallFix p m c cX7_forgetAll 1 s args WA RX7) (K : va_K D vwCl [(cI, .int)] s) (hr : meth.sig.returnType = none) (hk : meth.locks = false) (σ : zSt) (σ0 : zSt) (hf : fX7_forgetAll σ = some σ0) (hl : lv_has ls 1 [(0, .ref (g 10))]) (hs : gS D cI g s σ H locs) : W p l e rmX7_forgetAll s m args below meth c H locs 0 0 (MQ below (gQv D cI g σ0) args s 0 0 (gA g)) (F0 m 0 ls []) := by
  unfold fX7_forgetAll at hf
  refine lv_aload_n S.1 S.2.1 dX7_forgetAll_0 rfl (lv_at hl 0 rfl) ?_
  refine ggX7_9_10 S K hs dX7_forgetAll_1 ?_
  refine lv_iconst S.1 S.2.1 dX7_forgetAll_4 k_iconst_m1 ?_
  refine gfl11 S K hs hl.1 u_106 hf dX7_forgetAll_5 ⟨Nat.le_of_ble_eq_true rfl, Nat.le_of_ble_eq_true rfl⟩ (Nat.le_of_ble_eq_true rfl) ⟨Nat.le_refl _, Nat.le_refl _⟩ (fun σ1 H locs hs hf => ?_)
  exact grV S K hr hk hs hf dX7_forgetAll_8
theorem metX7_forgetAll (l : Launch) (D : va_G) (cI : ClassId) (g : Nat → Nat) (σ : zSt) (σ0 : zSt) (hf : fX7_forgetAll σ = some σ0) : Met l yX7_forgetAll (Cond.code yX7_forgetAll cX7_forgetAll 1 none :: WA) rmX7_forgetAll (gPc D cI g σ [.ref (g 10)]) ((gQv D cI g σ0)) 0 0 (gA g) :=
  gMet (by decide) (Nat.le_of_ble_eq_true rfl) (fun p e s m args below meth c H locs ls S K hr hk hl hs => bdX7_forgetAll S K hr hk  _ _ hf hl hs)
set_option maxHeartbeats 4000000 in
set_option maxRecDepth 100000 in
theorem bdX4_startAnew {p : Program} {l : Launch} {e : Env} {s : State} {m : MethodId} {args : Array Value} {below : List Frame} {meth : Method} {c : Code} {H : Heap} {locs : List Loc} {ls : Array Slot} {D : va_G} {cI : ClassId} {g : Nat → Nat} (S : CallFix p m c cX4_startAnew 4 s args WA RX4) (K : va_K D vwCl [(cI, .int)] s) (hr : meth.sig.returnType = none) (hk : meth.locks = false) (a0 : Int32) (a1 : Int32) (a2 : Int32) (σ : zSt) (σ0 : zSt) (hf : fX4_startAnew a0 a1 a2 σ = some σ0) (hl : lv_has ls 4 [(0, .ref (g 0)), (1, .int a0), (2, .int a1), (3, .int a2)]) (hs : gS D cI g s σ H locs) : W p l e rmX4_startAnew s m args below meth c H locs 0 0 (MQ below (gQv D cI g σ0) args s 0 0 (gA g)) (F0 m 0 ls []) := by
  unfold fX4_startAnew at hf
  refine lv_aload_n S.1 S.2.1 dX4_startAnew_0 rfl (lv_at hl 0 rfl) ?_
  refine ggX4_9_0 S K hs dX4_startAnew_1 ?_
  refine lv_iconst S.1 S.2.1 dX4_startAnew_4 k_iconst_0 ?_
  refine gfl1 S K hs hl.1 u_81 hf dX4_startAnew_5 ⟨Nat.le_of_ble_eq_true rfl, Nat.le_of_ble_eq_true rfl⟩ (Nat.le_of_ble_eq_true rfl) ⟨Nat.le_refl _, Nat.le_refl _⟩ (fun σ1 H locs hs hf => ?_)
  refine lv_aload_n S.1 S.2.1 dX4_startAnew_8 rfl (lv_at hl 0 rfl) ?_
  refine ggX4_15_0 S K hs dX4_startAnew_9 ?_
  refine lv_iconst S.1 S.2.1 dX4_startAnew_12 k_iconst_0 ?_
  refine gfl2 S K hs hl.1 u_81 hf dX4_startAnew_13 ⟨Nat.le_of_ble_eq_true rfl, Nat.le_of_ble_eq_true rfl⟩ (Nat.le_of_ble_eq_true rfl) ⟨Nat.le_refl _, Nat.le_refl _⟩ (fun σ2 H locs hs hf => ?_)
  refine lv_aload_n S.1 S.2.1 dX4_startAnew_16 rfl (lv_at hl 0 rfl) ?_
  refine ggX4_21_0 S K hs dX4_startAnew_17 ?_
  refine gcU (gV3 K hs) S K hs hl.1 hf (fun _ hX => metX0_removeAll _ _ _ _ _ _ hX) (cwX4_52 S.2.2.2.2 ⟨Nat.le_of_ble_eq_true rfl, Nat.le_of_ble_eq_true rfl⟩) rfl dX4_startAnew_20 rfl (Nat.le_of_ble_eq_true rfl) ⟨Nat.le_refl _, Nat.le_refl _⟩ (fun σ3 H locs hs hf => ?_)
  refine lv_aload_n S.1 S.2.1 dX4_startAnew_23 rfl (lv_at hl 0 rfl) ?_
  refine ggX4_28_0 S K hs dX4_startAnew_24 ?_
  refine lv_iload_n S.1 S.2.1 dX4_startAnew_27 rfl (lv_at hl 3 rfl) ?_
  refine gcU (gV8 K hs) S K hs hl.1 hf (fun _ hX => metX1_empty _ _ _ _ _ _ _ hX) (cwX4_55 S.2.2.2.2 ⟨Nat.le_of_ble_eq_true rfl, Nat.le_of_ble_eq_true rfl⟩) rfl dX4_startAnew_28 rfl (Nat.le_of_ble_eq_true rfl) ⟨Nat.le_refl _, Nat.le_refl _⟩ (fun σ4 H locs hs hf => ?_)
  refine lv_aload_n S.1 S.2.1 dX4_startAnew_31 rfl (lv_at hl 0 rfl) ?_
  refine ggX4_35_0 S K hs dX4_startAnew_32 ?_
  refine gcU (gV10 K hs) S K hs hl.1 hf (fun _ hX => metX7_forgetAll _ _ _ _ _ _ hX) (cwX4_59 S.2.2.2.2 ⟨Nat.le_of_ble_eq_true rfl, Nat.le_of_ble_eq_true rfl⟩) rfl dX4_startAnew_35 rfl (Nat.le_of_ble_eq_true rfl) ⟨Nat.le_refl _, Nat.le_refl _⟩ (fun σ5 H locs hs hf => ?_)
  refine lv_aload_n S.1 S.2.1 dX4_startAnew_38 rfl (lv_at hl 0 rfl) ?_
  refine ggX4_42_0 S K hs dX4_startAnew_39 ?_
  refine lv_iconst S.1 S.2.1 dX4_startAnew_42 k_iconst_0 ?_
  refine gpX4_62_14 S K hs hf dX4_startAnew_43 (fun σ6 H locs hs hf => ?_)
  refine lv_aload_n S.1 S.2.1 dX4_startAnew_46 rfl (lv_at hl 0 rfl) ?_
  refine lv_iload_n S.1 S.2.1 dX4_startAnew_47 rfl (lv_at hl 1 rfl) ?_
  refine gpX4_66_0 S K hs hf dX4_startAnew_48 (fun σ7 H locs hs hf => ?_)
  refine lv_aload_n S.1 S.2.1 dX4_startAnew_51 rfl (lv_at hl 0 rfl) ?_
  refine lv_iload_n S.1 S.2.1 dX4_startAnew_52 rfl (lv_at hl 2 rfl) ?_
  refine gpX4_69_0 S K hs hf dX4_startAnew_53 (fun σ8 H locs hs hf => ?_)
  refine lv_aload_n S.1 S.2.1 dX4_startAnew_56 rfl (lv_at hl 0 rfl) ?_
  refine lv_iconst S.1 S.2.1 dX4_startAnew_57 k_iconst_0 ?_
  refine gpX4_72_0 S K hs hf dX4_startAnew_58 (fun σ9 H locs hs hf => ?_)
  refine lv_aload_n S.1 S.2.1 dX4_startAnew_61 rfl (lv_at hl 0 rfl) ?_
  refine lv_iconst S.1 S.2.1 dX4_startAnew_62 k_iconst_0 ?_
  refine gpX4_75_0 S K hs hf dX4_startAnew_63 (fun σ10 H locs hs hf => ?_)
  refine lv_aload_n S.1 S.2.1 dX4_startAnew_66 rfl (lv_at hl 0 rfl) ?_
  refine lv_iconst S.1 S.2.1 dX4_startAnew_67 k_iconst_0 ?_
  refine gpX4_78_0 S K hs hf dX4_startAnew_68 (fun σ11 H locs hs hf => ?_)
  refine lv_aload_n S.1 S.2.1 dX4_startAnew_71 rfl (lv_at hl 0 rfl) ?_
  refine lv_iconst S.1 S.2.1 dX4_startAnew_72 k_iconst_0 ?_
  refine gpX4_81_0 S K hs hf dX4_startAnew_73 (fun σ12 H locs hs hf => ?_)
  refine lv_aload_n S.1 S.2.1 dX4_startAnew_76 rfl (lv_at hl 0 rfl) ?_
  refine lv_iconst S.1 S.2.1 dX4_startAnew_77 k_iconst_0 ?_
  refine gpX4_84_0 S K hs hf dX4_startAnew_78 (fun σ13 H locs hs hf => ?_)
  refine lv_aload_n S.1 S.2.1 dX4_startAnew_81 rfl (lv_at hl 0 rfl) ?_
  refine lv_iconst S.1 S.2.1 dX4_startAnew_82 k_iconst_0 ?_
  refine gpX4_87_0 S K hs hf dX4_startAnew_83 (fun σ14 H locs hs hf => ?_)
  exact grV S K hr hk hs hf dX4_startAnew_86
theorem metX4_startAnew (l : Launch) (D : va_G) (cI : ClassId) (g : Nat → Nat) (a0 : Int32) (a1 : Int32) (a2 : Int32) (σ : zSt) (σ0 : zSt) (hf : fX4_startAnew a0 a1 a2 σ = some σ0) : Met l yX4_startAnew (Cond.code yX4_startAnew cX4_startAnew 4 none :: WA) rmX4_startAnew (gPc D cI g σ [.ref (g 0), .int a0, .int a1, .int a2]) ((gQv D cI g σ0)) 0 0 (gA g) :=
  gMet (by decide) (Nat.le_of_ble_eq_true rfl) (fun p e s m args below meth c H locs ls S K hr hk hl hs => bdX4_startAnew S K hr hk _ _ _ _ _ hf hl hs)
set_option maxHeartbeats 4000000 in
set_option maxRecDepth 100000 in
theorem bdX7_ask {p : Program} {l : Launch} {e : Env} {s : State} {m : MethodId} {args : Array Value} {below : List Frame} {meth : Method} {c : Code} {H : Heap} {locs : List Loc} {ls : Array Slot} {D : va_G} {cI : ClassId} {g : Nat → Nat} (S : CallFix p m c cX7_ask 4 s args WA RX7) (K : va_K D vwCl [(cI, .int)] s) (hr : meth.sig.returnType = none) (hk : meth.locks = false) (a0 : Int32) (a1 : Int32) (a2 : Int32) (σ : zSt) (σ0 : zSt) (hf : fX7_ask a0 a1 a2 σ = some σ0) (hl : lv_has ls 4 [(0, .ref (g 10)), (1, .int a0), (2, .int a1), (3, .int a2)]) (hs : gS D cI g s σ H locs) : W p l e rmX7_ask s m args below meth c H locs 0 0 (MQ below (gQv D cI g σ0) args s 0 0 (gA g)) (F0 m 0 ls []) := by
  unfold fX7_ask at hf
  refine lv_aload_n S.1 S.2.1 dX7_ask_0 rfl (lv_at hl 0 rfl) ?_
  refine ggX7_9_10 S K hs dX7_ask_1 ?_
  refine lv_iload_n S.1 S.2.1 dX7_ask_4 rfl (lv_at hl 1 rfl) ?_
  refine lv_iload_n S.1 S.2.1 dX7_ask_5 rfl (lv_at hl 2 rfl) ?_
  refine gst11 S K hs hf dX7_ask_6 (fun σ1 H locs hs hf => ?_)
  refine lv_aload_n S.1 S.2.1 dX7_ask_7 rfl (lv_at hl 0 rfl) ?_
  refine ggX7_15_10 S K hs dX7_ask_8 ?_
  refine lv_iload_n S.1 S.2.1 dX7_ask_11 rfl (lv_at hl 1 rfl) ?_
  refine lv_iload_n S.1 S.2.1 dX7_ask_12 rfl (lv_at hl 3 rfl) ?_
  refine gst12 S K hs hf dX7_ask_13 (fun σ2 H locs hs hf => ?_)
  refine lv_aload_n S.1 S.2.1 dX7_ask_14 rfl (lv_at hl 0 rfl) ?_
  refine ggX7_18_10 S K hs dX7_ask_15 ?_
  refine lv_iload_n S.1 S.2.1 dX7_ask_18 rfl (lv_at hl 1 rfl) ?_
  refine lv_iconst S.1 S.2.1 dX7_ask_19 k_iconst_0 ?_
  refine gst13 S K hs hf dX7_ask_20 (fun σ3 H locs hs hf => ?_)
  exact grV S K hr hk hs hf dX7_ask_21
theorem metX7_ask (l : Launch) (D : va_G) (cI : ClassId) (g : Nat → Nat) (a0 : Int32) (a1 : Int32) (a2 : Int32) (σ : zSt) (σ0 : zSt) (hf : fX7_ask a0 a1 a2 σ = some σ0) : Met l yX7_ask (Cond.code yX7_ask cX7_ask 4 none :: WA) rmX7_ask (gPc D cI g σ [.ref (g 10), .int a0, .int a1, .int a2]) ((gQv D cI g σ0)) 0 0 (gA g) :=
  gMet (by decide) (Nat.le_of_ble_eq_true rfl) (fun p e s m args below meth c H locs ls S K hr hk hl hs => bdX7_ask S K hr hk _ _ _ _ _ hf hl hs)
set_option maxHeartbeats 4000000 in
set_option maxRecDepth 100000 in
theorem bdX7_fact {p : Program} {l : Launch} {e : Env} {s : State} {m : MethodId} {args : Array Value} {below : List Frame} {meth : Method} {c : Code} {H : Heap} {locs : List Loc} {ls : Array Slot} {D : va_G} {cI : ClassId} {g : Nat → Nat} (S : CallFix p m c cX7_fact 3 s args WA RX7) (K : va_K D vwCl [(cI, .int)] s) (hr : meth.sig.returnType = (some .int)) (hk : meth.locks = false) (a0 : Int32) (a1 : Int32) (σ : zSt) (r0 : Int32) (hf : fX7_fact a0 a1 σ = some r0) (hl : lv_has ls 3 [(0, .ref (g 10)), (1, .int a0), (2, .int a1)]) (hs : gS D cI g s σ H locs) : W p l e rmX7_fact s m args below meth c H locs 0 0 (MQ below (gQi D cI g r0 σ) args s 0 0 (gA g)) (F0 m 0 ls []) := by
  unfold fX7_fact at hf
  refine lv_aload_n S.1 S.2.1 dX7_fact_0 rfl (lv_at hl 0 rfl) ?_
  refine ggX7_9_10 S K hs dX7_fact_1 ?_
  refine lv_iload_n S.1 S.2.1 dX7_fact_4 rfl (lv_at hl 1 rfl) ?_
  refine gld11 S K hs hf dX7_fact_5 (fun x1 hf => ?_)
  refine lv_iconst S.1 S.2.1 dX7_fact_6 k_iconst_m1 ?_
  refine z_icmp_ne (tgt := 12) S hf dX7_fact_7 (by decide) (fun hf => ?_) (fun hf => ?_)
  · refine lv_iload_n S.1 S.2.1 dX7_fact_12 rfl (lv_at hl 2 rfl) ?_
    refine z_case (v := 0) hf (fun hn0 hf => ?_) (fun hn0 hf => ?_)
    · refine lv_lookup (tgt := 40) (off := 27) S.1 S.2.1 dX7_fact_13 (by decide) (by rw [hn0]; decide) (by decide) ?_
      refine lv_aload_n S.1 S.2.1 dX7_fact_40 rfl (lv_at hl 0 rfl) ?_
      refine ggX7_9_10 S K hs dX7_fact_41 ?_
      refine lv_iload_n S.1 S.2.1 dX7_fact_44 rfl (lv_at hl 1 rfl) ?_
      refine gld11 S K hs hf dX7_fact_45 (fun x2 hf => ?_)
      exact grP S K hr hk hs hf dX7_fact_46
    refine z_case (v := 1) hf (fun hn1 hf => ?_) (fun hn1 hf => ?_)
    · refine lv_lookup (tgt := 47) (off := 34) S.1 S.2.1 dX7_fact_13 (by decide) (by rw [hn1]; decide) (by decide) ?_
      refine lv_aload_n S.1 S.2.1 dX7_fact_47 rfl (lv_at hl 0 rfl) ?_
      refine ggX7_15_10 S K hs dX7_fact_48 ?_
      refine lv_iload_n S.1 S.2.1 dX7_fact_51 rfl (lv_at hl 1 rfl) ?_
      refine gld12 S K hs hf dX7_fact_52 (fun x3 hf => ?_)
      exact grP S K hr hk hs hf dX7_fact_53
    refine lv_lookup (tgt := 54) (off := 41) S.1 S.2.1 dX7_fact_13 (by decide) (by have q0 := z_ne hn0 (by decide); have q1 := z_ne hn1 (by decide); show Op.lookupswitch.offset [(0, 27), (1, 34)] 41 _ = 41; rw [Op.lookupswitch.offset_cons, if_neg (fun h => q0 h.symm), Op.lookupswitch.offset_cons, if_neg (fun h => q1 h.symm), Op.lookupswitch.offset_nil]) (by decide) ?_
    refine lv_aload_n S.1 S.2.1 dX7_fact_54 rfl (lv_at hl 0 rfl) ?_
    refine ggX7_18_10 S K hs dX7_fact_55 ?_
    refine lv_iload_n S.1 S.2.1 dX7_fact_58 rfl (lv_at hl 1 rfl) ?_
    refine gld13 S K hs hf dX7_fact_59 (fun x4 hf => ?_)
    exact grP S K hr hk hs hf dX7_fact_60
  · refine lv_iconst S.1 S.2.1 dX7_fact_10 k_iconst_m1 ?_
    exact grP S K hr hk hs hf dX7_fact_11
theorem metX7_fact (l : Launch) (D : va_G) (cI : ClassId) (g : Nat → Nat) (a0 : Int32) (a1 : Int32) (σ : zSt) (r0 : Int32) (hf : fX7_fact a0 a1 σ = some r0) : Met l yX7_fact (Cond.code yX7_fact cX7_fact 3 (some .int) :: WA) rmX7_fact (gPc D cI g σ [.ref (g 10), .int a0, .int a1]) ((gQi D cI g r0 σ)) 0 0 (gA g) :=
  gMet (by decide) (Nat.le_of_ble_eq_true rfl) (fun p e s m args below meth c H locs ls S K hr hk hl hs => bdX7_fact S K hr hk _ _ _ _ hf hl hs)
