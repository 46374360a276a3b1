/-! the reference: contracts (by wip/tools/walk.py) -/
set_option maxHeartbeats 4000000 in
set_option maxRecDepth 100000 in
theorem bdX9_readOrder {p : Program} {l : Launch} {e : Env} {s : State} {m : MethodId} {args : Array Value} {below : List Frame} {meth : Method} {c : Code} {H : Heap} {locs : List Loc} {ls : Array Slot} {D : va_G} {cI : ClassId} {h : Nat} {ad : Nat → Nat} (S : CallFix p m c cX9_readOrder 1 s args WA RX9) (K : va_K D vwCl [(cI, .int)] s) (hr : meth.sig.returnType = (some .boolean)) (hk : meth.locks = false) (σ : zSt) (r0 : Int32) (σ0 : zSt) (hf : fX9_readOrder σ = some (r0, σ0)) (hl : lv_has ls 1 [(0, .ref h)]) (hs : mS D cI h ad s σ H locs) : W p l e rmX9_readOrder s m args below meth c H locs 0 0 (MQ below (mQi D cI h ad r0 σ0) args s 0 0 (mA h ad)) (F0 m 0 ls []) := by
  obtain ⟨res, hres⟩ : ∃ q, q = (r0, σ0) := ⟨_, rfl⟩
  rw [← hres] at hf
  have J182 : ∀ (σ : zSt), fX9_readOrder_j182 σ = some res → mGo p l e rmX9_readOrder s m args below meth c (MQ below (mQi D cI h ad r0 σ0) args s 0 0 (mA h ad)) D cI h ad 1 σ [(0, .ref h)] 182 [] := by
    intro σ hf H locs ls hl hs
    unfold fX9_readOrder_j182 at hf
    refine lv_aload_n S.1 S.2.1 dX9_readOrder_182 rfl (lv_at hl 0 rfl) ?_
    refine lv_bipush S.1 S.2.1 dX9_readOrder_183 k_bipush_59 ?_
    refine mcV S K hs hl.1 hf (fun _ _ hX => metX9_sign _ _ _ _ _ _ _ _ _ hX) (cwX9_154 S.2.2.2.2 ⟨Nat.le_of_ble_eq_true rfl, Nat.le_of_ble_eq_true rfl⟩) rfl dX9_readOrder_185 rfl (Nat.le_of_ble_eq_true rfl) ⟨Nat.le_refl _, Nat.le_refl _⟩ (fun x17 σ18 H locs hs hf => ?_)
    refine z_if_eq (tgt := 195) S hf dX9_readOrder_188 (by decide) (fun hf => ?_) (fun hf => ?_)
    · refine lv_iconst S.1 S.2.1 dX9_readOrder_195 k_iconst_0 ?_
      exact mrZ S K hr hk hs (hf.trans (congrArg some hres)) dX9_readOrder_196
    · refine lv_iconst S.1 S.2.1 dX9_readOrder_191 k_iconst_1 ?_
      refine lv_goto (tgt := 196) S.1 S.2.1 dX9_readOrder_192 (by decide) ?_
      exact mrZ S K hr hk hs (hf.trans (congrArg some hres)) dX9_readOrder_196
  have J89 : ∀ (σ : zSt), fX9_readOrder_j89 σ = some res → mGo p l e rmX9_readOrder s m args below meth c (MQ below (mQi D cI h ad r0 σ0) args s 0 0 (mA h ad)) D cI h ad 1 σ [(0, .ref h)] 89 [] := by
    intro σ hf H locs ls hl hs
    unfold fX9_readOrder_j89 at hf
    refine lv_aload_n S.1 S.2.1 dX9_readOrder_89 rfl (lv_at hl 0 rfl) ?_
    refine lv_bipush S.1 S.2.1 dX9_readOrder_90 k_bipush_53 ?_
    refine mcP S K hs hl.1 hf (fun _ hX => metX9_isDigit _ _ _ _ _ _ _ _ hX) (cwX9_151 S.2.2.2.2 ⟨Nat.le_of_ble_eq_true rfl, Nat.le_of_ble_eq_true rfl⟩) rfl dX9_readOrder_92 rfl (Nat.le_of_ble_eq_true rfl) ⟨Nat.le_refl _, Nat.le_refl _⟩ (fun x8 H locs hs hf => ?_)
    refine z_if_ne (tgt := 100) S hf dX9_readOrder_95 (by decide) (fun hf => ?_) (fun hf => ?_)
    · refine lv_aload_n S.1 S.2.1 dX9_readOrder_100 rfl (lv_at hl 0 rfl) ?_
      refine mg22 S K hs dX9_readOrder_101 ?_
      refine lv_iconst S.1 S.2.1 dX9_readOrder_104 k_iconst_1 ?_
      refine lv_aload_n S.1 S.2.1 dX9_readOrder_105 rfl (lv_at hl 0 rfl) ?_
      refine mg19 S K hs dX9_readOrder_106 ?_
      refine lv_aload_n S.1 S.2.1 dX9_readOrder_109 rfl (lv_at hl 0 rfl) ?_
      refine mg148 S K hs dX9_readOrder_110 ?_
      refine mld3 S K hs hf dX9_readOrder_113 (fun x9 hf => ?_)
      refine lv_bipush S.1 S.2.1 dX9_readOrder_114 k_bipush_48 ?_
      refine lv_isub S.1 S.2.1 dX9_readOrder_116 ?_
      refine mst4 S K hs hf dX9_readOrder_117 (fun σ10 H locs hs hf => ?_)
      refine lv_aload_n S.1 S.2.1 dX9_readOrder_118 rfl (lv_at hl 0 rfl) ?_
      refine lv_dup S.1 S.2.1 dX9_readOrder_119 rfl ?_
      refine mg148 S K hs dX9_readOrder_120 ?_
      refine lv_iconst S.1 S.2.1 dX9_readOrder_123 k_iconst_1 ?_
      refine lv_iadd S.1 S.2.1 dX9_readOrder_124 ?_
      refine mp148 S K hs hf dX9_readOrder_125 (fun σ11 H locs hs hf => ?_)
      refine lv_aload_n S.1 S.2.1 dX9_readOrder_128 rfl (lv_at hl 0 rfl) ?_
      refine lv_bipush S.1 S.2.1 dX9_readOrder_129 k_bipush_58 ?_
      refine mcV S K hs hl.1 hf (fun _ _ hX => metX9_sign _ _ _ _ _ _ _ _ _ hX) (cwX9_154 S.2.2.2.2 ⟨Nat.le_of_ble_eq_true rfl, Nat.le_of_ble_eq_true rfl⟩) rfl dX9_readOrder_131 rfl (Nat.le_of_ble_eq_true rfl) ⟨Nat.le_refl _, Nat.le_refl _⟩ (fun x12 σ13 H locs hs hf => ?_)
      refine z_if_eq (tgt := 149) S hf dX9_readOrder_134 (by decide) (fun hf => ?_) (fun hf => ?_)
      · refine lv_iconst S.1 S.2.1 dX9_readOrder_149 k_iconst_0 ?_
        exact mrZ S K hr hk hs (hf.trans (congrArg some hres)) dX9_readOrder_150
      · refine lv_aload_n S.1 S.2.1 dX9_readOrder_137 rfl (lv_at hl 0 rfl) ?_
        refine lv_iconst S.1 S.2.1 dX9_readOrder_138 k_iconst_2 ?_
        refine lv_iconst S.1 S.2.1 dX9_readOrder_139 k_iconst_2 ?_
        refine lv_iconst S.1 S.2.1 dX9_readOrder_140 k_iconst_0 ?_
        refine lv_bipush S.1 S.2.1 dX9_readOrder_141 k_bipush_31 ?_
        refine mcV S K hs hl.1 hf (fun _ _ hX => metX9_numberInto _ _ _ _ _ _ _ _ _ _ _ _ hX) (cwX9_157 S.2.2.2.2 ⟨Nat.le_of_ble_eq_true rfl, Nat.le_of_ble_eq_true rfl⟩) rfl dX9_readOrder_143 rfl (Nat.le_of_ble_eq_true rfl) ⟨Nat.le_refl _, Nat.le_refl _⟩ (fun x14 σ15 H locs hs hf => ?_)
        refine z_if_ne (tgt := 151) S hf dX9_readOrder_146 (by decide) (fun hf => ?_) (fun hf => ?_)
        · refine lv_aload_n S.1 S.2.1 dX9_readOrder_151 rfl (lv_at hl 0 rfl) ?_
          refine mg22 S K hs dX9_readOrder_152 ?_
          refine lv_iconst S.1 S.2.1 dX9_readOrder_155 k_iconst_0 ?_
          refine mld4 S K hs hf dX9_readOrder_156 (fun x16 hf => ?_)
          refine z_if_eq (tgt := 182) S hf dX9_readOrder_157 (by decide) (fun hf => ?_) (fun hf => ?_)
          · exact J182 _ hf _ _ _ (lv_sub hl [0] rfl) hs
          · refine lv_aload_n S.1 S.2.1 dX9_readOrder_160 rfl (lv_at hl 0 rfl) ?_
            refine lv_bipush S.1 S.2.1 dX9_readOrder_161 k_bipush_61 ?_
            refine mcV S K hs hl.1 hf (fun _ _ hX => metX9_sign _ _ _ _ _ _ _ _ _ hX) (cwX9_154 S.2.2.2.2 ⟨Nat.le_of_ble_eq_true rfl, Nat.le_of_ble_eq_true rfl⟩) rfl dX9_readOrder_163 rfl (Nat.le_of_ble_eq_true rfl) ⟨Nat.le_refl _, Nat.le_refl _⟩ (fun x19 σ20 H locs hs hf => ?_)
            refine z_if_eq (tgt := 195) S hf dX9_readOrder_166 (by decide) (fun hf => ?_) (fun hf => ?_)
            · refine lv_iconst S.1 S.2.1 dX9_readOrder_195 k_iconst_0 ?_
              exact mrZ S K hr hk hs (hf.trans (congrArg some hres)) dX9_readOrder_196
            · refine lv_aload_n S.1 S.2.1 dX9_readOrder_169 rfl (lv_at hl 0 rfl) ?_
              refine lv_iconst S.1 S.2.1 dX9_readOrder_170 k_iconst_3 ?_
              refine lv_iconst S.1 S.2.1 dX9_readOrder_171 k_iconst_3 ?_
              refine lv_iconst S.1 S.2.1 dX9_readOrder_172 k_iconst_0 ?_
              refine lv_sipush S.1 S.2.1 dX9_readOrder_173 k_sipush_999 ?_
              refine mcV S K hs hl.1 hf (fun _ _ hX => metX9_numberInto _ _ _ _ _ _ _ _ _ _ _ _ hX) (cwX9_157 S.2.2.2.2 ⟨Nat.le_of_ble_eq_true rfl, Nat.le_of_ble_eq_true rfl⟩) rfl dX9_readOrder_176 rfl (Nat.le_of_ble_eq_true rfl) ⟨Nat.le_refl _, Nat.le_refl _⟩ (fun x21 σ22 H locs hs hf => ?_)
              refine z_if_eq (tgt := 195) S hf dX9_readOrder_179 (by decide) (fun hf => ?_) (fun hf => ?_)
              · refine lv_iconst S.1 S.2.1 dX9_readOrder_195 k_iconst_0 ?_
                exact mrZ S K hr hk hs (hf.trans (congrArg some hres)) dX9_readOrder_196
              · exact J182 _ hf _ _ _ (lv_sub hl [0] rfl) hs
        · refine lv_iconst S.1 S.2.1 dX9_readOrder_149 k_iconst_0 ?_
          exact mrZ S K hr hk hs (hf.trans (congrArg some hres)) dX9_readOrder_150
    · refine lv_iconst S.1 S.2.1 dX9_readOrder_98 k_iconst_0 ?_
      exact mrZ S K hr hk hs (hf.trans (congrArg some hres)) dX9_readOrder_99
  have J62 : ∀ (w0 : Int32) (w1 : Int32) (σ : zSt), fX9_readOrder_j62 w0 w1 σ = some res → mGo p l e rmX9_readOrder s m args below meth c (MQ below (mQi D cI h ad r0 σ0) args s 0 0 (mA h ad)) D cI h ad 1 σ [(0, .ref h)] 62 [.int w0, .int w1, .ref (ad 4)] := by
    intro w0 w1 σ hf H locs ls hl hs
    unfold fX9_readOrder_j62 at hf
    refine mst4 S K hs hf dX9_readOrder_62 (fun σ5 H locs hs hf => ?_)
    refine lv_aload_n S.1 S.2.1 dX9_readOrder_63 rfl (lv_at hl 0 rfl) ?_
    refine mg22 S K hs dX9_readOrder_64 ?_
    refine lv_iconst S.1 S.2.1 dX9_readOrder_67 k_iconst_3 ?_
    refine lv_iconst S.1 S.2.1 dX9_readOrder_68 k_iconst_m1 ?_
    refine mst4 S K hs hf dX9_readOrder_69 (fun σ6 H locs hs hf => ?_)
    refine lv_aload_n S.1 S.2.1 dX9_readOrder_70 rfl (lv_at hl 0 rfl) ?_
    refine mg22 S K hs dX9_readOrder_71 ?_
    refine lv_iconst S.1 S.2.1 dX9_readOrder_74 k_iconst_0 ?_
    refine mld4 S K hs hf dX9_readOrder_75 (fun x7 hf => ?_)
    refine lv_iconst S.1 S.2.1 dX9_readOrder_76 k_iconst_1 ?_
    refine z_icmp_ne (tgt := 89) S hf dX9_readOrder_77 (by decide) (fun hf => ?_) (fun hf => ?_)
    · exact J89 _ hf _ _ _ (lv_sub hl [0] rfl) hs
    · refine lv_aload_n S.1 S.2.1 dX9_readOrder_80 rfl (lv_at hl 0 rfl) ?_
      refine lv_bipush S.1 S.2.1 dX9_readOrder_81 k_bipush_119 ?_
      refine mcV S K hs hl.1 hf (fun _ _ hX => metX9_sign _ _ _ _ _ _ _ _ _ hX) (cwX9_154 S.2.2.2.2 ⟨Nat.le_of_ble_eq_true rfl, Nat.le_of_ble_eq_true rfl⟩) rfl dX9_readOrder_83 rfl (Nat.le_of_ble_eq_true rfl) ⟨Nat.le_refl _, Nat.le_refl _⟩ (fun x23 σ24 H locs hs hf => ?_)
      refine z_if_eq (tgt := 98) S hf dX9_readOrder_86 (by decide) (fun hf => ?_) (fun hf => ?_)
      · refine lv_iconst S.1 S.2.1 dX9_readOrder_98 k_iconst_0 ?_
        exact mrZ S K hr hk hs (hf.trans (congrArg some hres)) dX9_readOrder_99
      · exact J89 _ hf _ _ _ (lv_sub hl [0] rfl) hs
  unfold fX9_readOrder at hf
  refine lv_aload_n S.1 S.2.1 dX9_readOrder_0 rfl (lv_at hl 0 rfl) ?_
  refine lv_bipush S.1 S.2.1 dX9_readOrder_1 k_bipush_116 ?_
  refine mcV S K hs hl.1 hf (fun _ _ hX => metX9_sign _ _ _ _ _ _ _ _ _ hX) (cwX9_154 S.2.2.2.2 ⟨Nat.le_of_ble_eq_true rfl, Nat.le_of_ble_eq_true rfl⟩) rfl dX9_readOrder_3 rfl (Nat.le_of_ble_eq_true rfl) ⟨Nat.le_refl _, Nat.le_refl _⟩ (fun x1 σ2 H locs hs hf => ?_)
  refine z_if_eq (tgt := 43) S hf dX9_readOrder_6 (by decide) (fun hf => ?_) (fun hf => ?_)
  · refine lv_aload_n S.1 S.2.1 dX9_readOrder_43 rfl (lv_at hl 0 rfl) ?_
    refine mg22 S K hs dX9_readOrder_44 ?_
    refine lv_iconst S.1 S.2.1 dX9_readOrder_47 k_iconst_0 ?_
    refine lv_aload_n S.1 S.2.1 dX9_readOrder_48 rfl (lv_at hl 0 rfl) ?_
    refine lv_bipush S.1 S.2.1 dX9_readOrder_49 k_bipush_114 ?_
    refine mcV S K hs hl.1 hf (fun _ _ hX => metX9_sign _ _ _ _ _ _ _ _ _ hX) (cwX9_154 S.2.2.2.2 ⟨Nat.le_of_ble_eq_true rfl, Nat.le_of_ble_eq_true rfl⟩) rfl dX9_readOrder_51 rfl (Nat.le_of_ble_eq_true rfl) ⟨Nat.le_refl _, Nat.le_refl _⟩ (fun x3 σ4 H locs hs hf => ?_)
    refine z_if_eq (tgt := 61) S hf dX9_readOrder_54 (by decide) (fun hf => ?_) (fun hf => ?_)
    · refine lv_iconst S.1 S.2.1 dX9_readOrder_61 k_iconst_1 ?_
      exact J62 _ _ _ hf _ _ _ (lv_sub hl [0] rfl) hs
    · refine lv_iconst S.1 S.2.1 dX9_readOrder_57 k_iconst_0 ?_
      refine lv_goto (tgt := 62) S.1 S.2.1 dX9_readOrder_58 (by decide) ?_
      exact J62 _ _ _ hf _ _ _ (lv_sub hl [0] rfl) hs
  · refine lv_aload_n S.1 S.2.1 dX9_readOrder_9 rfl (lv_at hl 0 rfl) ?_
    refine mg22 S K hs dX9_readOrder_10 ?_
    refine lv_iconst S.1 S.2.1 dX9_readOrder_13 k_iconst_0 ?_
    refine lv_iconst S.1 S.2.1 dX9_readOrder_14 k_iconst_2 ?_
    refine mst4 S K hs hf dX9_readOrder_15 (fun σ25 H locs hs hf => ?_)
    refine lv_aload_n S.1 S.2.1 dX9_readOrder_16 rfl (lv_at hl 0 rfl) ?_
    refine lv_iconst S.1 S.2.1 dX9_readOrder_17 k_iconst_3 ?_
    refine lv_iconst S.1 S.2.1 dX9_readOrder_18 k_iconst_2 ?_
    refine lv_iconst S.1 S.2.1 dX9_readOrder_19 k_iconst_1 ?_
    refine lv_bipush S.1 S.2.1 dX9_readOrder_20 k_bipush_50 ?_
    refine mcV S K hs hl.1 hf (fun _ _ hX => metX9_numberInto _ _ _ _ _ _ _ _ _ _ _ _ hX) (cwX9_157 S.2.2.2.2 ⟨Nat.le_of_ble_eq_true rfl, Nat.le_of_ble_eq_true rfl⟩) rfl dX9_readOrder_22 rfl (Nat.le_of_ble_eq_true rfl) ⟨Nat.le_refl _, Nat.le_refl _⟩ (fun x26 σ27 H locs hs hf => ?_)
    refine z_if_eq (tgt := 41) S hf dX9_readOrder_25 (by decide) (fun hf => ?_) (fun hf => ?_)
    · refine lv_iconst S.1 S.2.1 dX9_readOrder_41 k_iconst_0 ?_
      exact mrZ S K hr hk hs (hf.trans (congrArg some hres)) dX9_readOrder_42
    · refine lv_aload_n S.1 S.2.1 dX9_readOrder_28 rfl (lv_at hl 0 rfl) ?_
      refine lv_bipush S.1 S.2.1 dX9_readOrder_29 k_bipush_59 ?_
      refine mcV S K hs hl.1 hf (fun _ _ hX => metX9_sign _ _ _ _ _ _ _ _ _ hX) (cwX9_154 S.2.2.2.2 ⟨Nat.le_of_ble_eq_true rfl, Nat.le_of_ble_eq_true rfl⟩) rfl dX9_readOrder_31 rfl (Nat.le_of_ble_eq_true rfl) ⟨Nat.le_refl _, Nat.le_refl _⟩ (fun x28 σ29 H locs hs hf => ?_)
      refine z_if_eq (tgt := 41) S hf dX9_readOrder_34 (by decide) (fun hf => ?_) (fun hf => ?_)
      · refine lv_iconst S.1 S.2.1 dX9_readOrder_41 k_iconst_0 ?_
        exact mrZ S K hr hk hs (hf.trans (congrArg some hres)) dX9_readOrder_42
      · refine lv_iconst S.1 S.2.1 dX9_readOrder_37 k_iconst_1 ?_
        refine lv_goto (tgt := 42) S.1 S.2.1 dX9_readOrder_38 (by decide) ?_
        exact mrZ S K hr hk hs (hf.trans (congrArg some hres)) dX9_readOrder_42
theorem metX9_readOrder (l : Launch) (D : va_G) (cI : ClassId) (h : Nat) (ad : Nat → Nat) (σ : zSt) (r0 : Int32) (σ0 : zSt) (hf : fX9_readOrder σ = some (r0, σ0)) : Met l yX9_readOrder (Cond.code yX9_readOrder cX9_readOrder 1 (some .boolean) :: WA) rmX9_readOrder (mPc D cI h ad σ [.ref h]) ((mQi D cI h ad r0 σ0)) 0 0 (mA h ad) :=
  mMet (by decide) (Nat.le_of_ble_eq_true rfl) (fun p e s m args below meth c H locs ls S K hr hk hl hs => bdX9_readOrder S K hr hk  _ _ _ hf hl hs)
set_option maxHeartbeats 4000000 in
set_option maxRecDepth 100000 in
theorem bdX9_oldestPage {p : Program} {l : Launch} {e : Env} {s : State} {m : MethodId} {args : Array Value} {below : List Frame} {meth : Method} {c : Code} {H : Heap} {locs : List Loc} {ls : Array Slot} {D : va_G} {cI : ClassId} {h : Nat} {ad : Nat → Nat} (S : CallFix p m c cX9_oldestPage 3 s args WA RX9) (K : va_K D vwCl [(cI, .int)] s) (hr : meth.sig.returnType = (some .int)) (hk : meth.locks = false) (σ : zSt) (r0 : Int32) (hf : fX9_oldestPage σ = some r0) (hl : lv_has ls 3 [(0, .ref h)]) (hs : mS D cI h ad s σ H locs) : W p l e rmX9_oldestPage s m args below meth c H locs 0 0 (MQ below (mQi D cI h ad r0 σ) args s 0 0 (mA h ad)) (F0 m 0 ls []) := by
  obtain ⟨res, hres⟩ : ∃ q, q = r0 := ⟨_, rfl⟩
  rw [← hres] at hf
  have L6 : ∀ (K6 : Int32 → Option (Int32)) (hK6 : ∀ (y1 : Int32), K6 y1 = some res → mGo p l e rmX9_oldestPage s m args below meth c (MQ below (mQi D cI h ad r0 σ) args s 0 0 (mA h ad)) D cI h ad 3 σ [(0, .ref h), (1, .int y1)] 59 []) (n : Nat) (y1 : Int32) (y2 : Int32), fX9_oldestPage_l6 σ K6 n y1 y2 = some res → mGo p l e rmX9_oldestPage s m args below meth c (MQ below (mQi D cI h ad r0 σ) args s 0 0 (mA h ad)) D cI h ad 3 σ [(0, .ref h), (1, .int y1), (2, .int y2)] 6 [] := by
    intro K6 hK6 n
    induction n with
    | zero =>
      intro y1 y2 hf H locs ls hl hs
      rw [fX9_oldestPage_l6] at hf
      cases hf
    | succ n ih =>
      intro y1 y2 hf H locs ls hl hs
      rw [fX9_oldestPage_l6] at hf
      refine lv_iload_n S.1 S.2.1 dX9_oldestPage_6 rfl (lv_at hl 2 rfl) ?_
      refine lv_aload_n S.1 S.2.1 dX9_oldestPage_7 rfl (lv_at hl 0 rfl) ?_
      refine mg7 S K hs dX9_oldestPage_8 ?_
      refine lv_iconst S.1 S.2.1 dX9_oldestPage_11 k_iconst_3 ?_
      refine mld0 S K hs hf dX9_oldestPage_12 (fun x1 hf => ?_)
      refine z_icmp_ge (tgt := 59) S hf dX9_oldestPage_13 (by decide) (fun hf => ?_) (fun hf => ?_)
      · exact hK6 _ hf _ _ _ (lv_sub hl [0, 1] rfl) hs
      · refine lv_aload_n S.1 S.2.1 dX9_oldestPage_16 rfl (lv_at hl 0 rfl) ?_
        refine mg7 S K hs dX9_oldestPage_17 ?_
        refine lv_sipush S.1 S.2.1 dX9_oldestPage_20 k_sipush_302 ?_
        refine lv_iconst S.1 S.2.1 dX9_oldestPage_23 k_iconst_4 ?_
        refine lv_iload_n S.1 S.2.1 dX9_oldestPage_24 rfl (lv_at hl 2 rfl) ?_
        refine lv_imul S.1 S.2.1 dX9_oldestPage_25 ?_
        refine lv_iadd S.1 S.2.1 dX9_oldestPage_26 ?_
        refine lv_iconst S.1 S.2.1 dX9_oldestPage_27 k_iconst_3 ?_
        refine lv_iadd S.1 S.2.1 dX9_oldestPage_28 ?_
        refine mld0 S K hs hf dX9_oldestPage_29 (fun x2 hf => ?_)
        refine lv_aload_n S.1 S.2.1 dX9_oldestPage_30 rfl (lv_at hl 0 rfl) ?_
        refine mg7 S K hs dX9_oldestPage_31 ?_
        refine lv_iload_n S.1 S.2.1 dX9_oldestPage_34 rfl (lv_at hl 1 rfl) ?_
        refine lv_iconst S.1 S.2.1 dX9_oldestPage_35 k_iconst_3 ?_
        refine lv_iadd S.1 S.2.1 dX9_oldestPage_36 ?_
        refine mld0 S K hs hf dX9_oldestPage_37 (fun x3 hf => ?_)
        refine z_icmp_ge (tgt := 51) S hf dX9_oldestPage_38 (by decide) (fun hf => ?_) (fun hf => ?_)
        · refine lv_iload_n S.1 S.2.1 dX9_oldestPage_51 rfl (lv_at hl 1 rfl) ?_
          refine lv_istore_n (lv' := [(1, .int y1), (0, .ref h), (2, .int y2)]) S.1 S.2.1 dX9_oldestPage_52 rfl hl (by decide) rfl (fun ls hl => ?_)
          refine lv_iinc (v := y2 + nI 1) (lv' := [(2, .int (y2 + nI 1)), (1, .int y1), (0, .ref h)]) S.1 S.2.1 dX9_oldestPage_53 hl (k := 2) rfl (by rw [k_iconst_1]) (by decide) rfl (fun ls hl => ?_)
          refine lv_goto (tgt := 6) S.1 S.2.1 dX9_oldestPage_56 (by decide) ?_
          exact ih _ _ hf _ _ _ (lv_sub hl [2, 1, 0] rfl) hs
        · refine lv_sipush S.1 S.2.1 dX9_oldestPage_41 k_sipush_302 ?_
          refine lv_iconst S.1 S.2.1 dX9_oldestPage_44 k_iconst_4 ?_
          refine lv_iload_n S.1 S.2.1 dX9_oldestPage_45 rfl (lv_at hl 2 rfl) ?_
          refine lv_imul S.1 S.2.1 dX9_oldestPage_46 ?_
          refine lv_iadd S.1 S.2.1 dX9_oldestPage_47 ?_
          refine lv_goto (tgt := 52) S.1 S.2.1 dX9_oldestPage_48 (by decide) ?_
          refine lv_istore_n (lv' := [(1, .int ((nI 302) + ((nI 4) * y2))), (0, .ref h), (2, .int y2)]) S.1 S.2.1 dX9_oldestPage_52 rfl hl (by decide) rfl (fun ls hl => ?_)
          refine lv_iinc (v := y2 + nI 1) (lv' := [(2, .int (y2 + nI 1)), (1, .int ((nI 302) + ((nI 4) * y2))), (0, .ref h)]) S.1 S.2.1 dX9_oldestPage_53 hl (k := 2) rfl (by rw [k_iconst_1]) (by decide) rfl (fun ls hl => ?_)
          refine lv_goto (tgt := 6) S.1 S.2.1 dX9_oldestPage_56 (by decide) ?_
          exact ih _ _ hf _ _ _ (lv_sub hl [2, 1, 0] rfl) hs
  unfold fX9_oldestPage at hf
  refine lv_sipush S.1 S.2.1 dX9_oldestPage_0 k_sipush_302 ?_
  refine lv_istore_n (lv' := [(1, .int (nI 302)), (0, .ref h)]) S.1 S.2.1 dX9_oldestPage_3 rfl hl (by decide) rfl (fun ls hl => ?_)
  refine lv_iconst S.1 S.2.1 dX9_oldestPage_4 k_iconst_1 ?_
  refine lv_istore_n (lv' := [(2, .int (nI 1)), (1, .int (nI 302)), (0, .ref h)]) S.1 S.2.1 dX9_oldestPage_5 rfl hl (by decide) rfl (fun ls hl => ?_)
  refine L6 _ (fun x4 hf H locs ls hl hs => ?_) _ _ _ hf _ _ _ (lv_sub hl [2, 1, 0] rfl) hs
  refine lv_iload_n S.1 S.2.1 dX9_oldestPage_59 rfl (lv_at hl 1 rfl) ?_
  exact mrP S K hr hk hs (hf.trans (congrArg some hres)) dX9_oldestPage_60
theorem metX9_oldestPage (l : Launch) (D : va_G) (cI : ClassId) (h : Nat) (ad : Nat → Nat) (σ : zSt) (r0 : Int32) (hf : fX9_oldestPage σ = some r0) : Met l yX9_oldestPage (Cond.code yX9_oldestPage cX9_oldestPage 3 (some .int) :: WA) rmX9_oldestPage (mPc D cI h ad σ [.ref h]) ((mQi D cI h ad r0 σ)) 0 0 (mA h ad) :=
  mMet (by decide) (Nat.le_of_ble_eq_true rfl) (fun p e s m args below meth c H locs ls S K hr hk hl hs => bdX9_oldestPage S K hr hk  _ _ hf hl hs)
set_option maxHeartbeats 4000000 in
set_option maxRecDepth 100000 in
theorem bdX9_tearOut {p : Program} {l : Launch} {e : Env} {s : State} {m : MethodId} {args : Array Value} {below : List Frame} {meth : Method} {c : Code} {H : Heap} {locs : List Loc} {ls : Array Slot} {D : va_G} {cI : ClassId} {h : Nat} {ad : Nat → Nat} (S : CallFix p m c cX9_tearOut 3 s args WA RX9) (K : va_K D vwCl [(cI, .int)] s) (hr : meth.sig.returnType = none) (hk : meth.locks = false) (a0 : Int32) (σ : zSt) (σ0 : zSt) (hf : fX9_tearOut a0 σ = some σ0) (hl : lv_has ls 3 [(0, .ref h), (1, .int a0)]) (hs : mS D cI h ad s σ H locs) : W p l e rmX9_tearOut s m args below meth c H locs 0 0 (MQ below (mQv D cI h ad σ0) args s 0 0 (mA h ad)) (F0 m 0 ls []) := by
  obtain ⟨res, hres⟩ : ∃ q, q = σ0 := ⟨_, rfl⟩
  rw [← hres] at hf
  have L60 : ∀ (K60 : zSt → Option (zSt)) (hK60 : ∀ (σ : zSt), K60 σ = some res → mGo p l e rmX9_tearOut s m args below meth c (MQ below (mQv D cI h ad σ0) args s 0 0 (mA h ad)) D cI h ad 3 σ [(0, .ref h)] 98 []) (n : Nat) (y1 : Int32) (y2 : Int32) (σ : zSt), fX9_tearOut_l60 K60 n y1 y2 σ = some res → mGo p l e rmX9_tearOut s m args below meth c (MQ below (mQv D cI h ad σ0) args s 0 0 (mA h ad)) D cI h ad 3 σ [(0, .ref h), (1, .int y1), (2, .int y2)] 60 [] := by
    intro K60 hK60 n
    induction n with
    | zero =>
      intro y1 y2 σ hf H locs ls hl hs
      rw [fX9_tearOut_l60] at hf
      cases hf
    | succ n ih =>
      intro y1 y2 σ hf H locs ls hl hs
      rw [fX9_tearOut_l60] at hf
      refine lv_iload_n S.1 S.2.1 dX9_tearOut_60 rfl (lv_at hl 2 rfl) ?_
      refine lv_iconst S.1 S.2.1 dX9_tearOut_61 k_iconst_4 ?_
      refine z_icmp_ge (tgt := 98) S hf dX9_tearOut_62 (by decide) (fun hf => ?_) (fun hf => ?_)
      · exact hK60 _ hf _ _ _ (lv_sub hl [0] rfl) hs
      · refine lv_aload_n S.1 S.2.1 dX9_tearOut_65 rfl (lv_at hl 0 rfl) ?_
        refine mg7 S K hs dX9_tearOut_66 ?_
        refine lv_iload_n S.1 S.2.1 dX9_tearOut_69 rfl (lv_at hl 1 rfl) ?_
        refine lv_iload_n S.1 S.2.1 dX9_tearOut_70 rfl (lv_at hl 2 rfl) ?_
        refine lv_iadd S.1 S.2.1 dX9_tearOut_71 ?_
        refine lv_aload_n S.1 S.2.1 dX9_tearOut_72 rfl (lv_at hl 0 rfl) ?_
        refine mg7 S K hs dX9_tearOut_73 ?_
        refine lv_sipush S.1 S.2.1 dX9_tearOut_76 k_sipush_302 ?_
        refine lv_iconst S.1 S.2.1 dX9_tearOut_79 k_iconst_4 ?_
        refine lv_aload_n S.1 S.2.1 dX9_tearOut_80 rfl (lv_at hl 0 rfl) ?_
        refine mg7 S K hs dX9_tearOut_81 ?_
        refine lv_iconst S.1 S.2.1 dX9_tearOut_84 k_iconst_3 ?_
        refine mld0 S K hs hf dX9_tearOut_85 (fun x8 hf => ?_)
        refine lv_imul S.1 S.2.1 dX9_tearOut_86 ?_
        refine lv_iadd S.1 S.2.1 dX9_tearOut_87 ?_
        refine lv_iload_n S.1 S.2.1 dX9_tearOut_88 rfl (lv_at hl 2 rfl) ?_
        refine lv_iadd S.1 S.2.1 dX9_tearOut_89 ?_
        refine mld0 S K hs hf dX9_tearOut_90 (fun x9 hf => ?_)
        refine mst0 S K hs hf dX9_tearOut_91 (fun σ10 H locs hs hf => ?_)
        refine lv_iinc (v := y2 + nI 1) (lv' := [(2, .int (y2 + nI 1)), (0, .ref h), (1, .int y1)]) S.1 S.2.1 dX9_tearOut_92 hl (k := 2) rfl (by rw [k_iconst_1]) (by decide) rfl (fun ls hl => ?_)
        refine lv_goto (tgt := 60) S.1 S.2.1 dX9_tearOut_95 (by decide) ?_
        exact ih _ _ _ hf _ _ _ (lv_sub hl [1, 2, 0] rfl) hs
  have J37 : ∀ (y1 : Int32) (σ : zSt), fX9_tearOut_j37 y1 σ = some res → mGo p l e rmX9_tearOut s m args below meth c (MQ below (mQv D cI h ad σ0) args s 0 0 (mA h ad)) D cI h ad 3 σ [(0, .ref h), (1, .int y1)] 37 [] := by
    intro y1 σ hf H locs ls hl hs
    unfold fX9_tearOut_j37 at hf
    refine lv_aload_n S.1 S.2.1 dX9_tearOut_37 rfl (lv_at hl 0 rfl) ?_
    refine mg7 S K hs dX9_tearOut_38 ?_
    refine lv_bipush S.1 S.2.1 dX9_tearOut_41 k_bipush_10 ?_
    refine lv_dup2_11 S.1 S.2.1 dX9_tearOut_43 rfl rfl ?_
    refine mld0 S K hs hf dX9_tearOut_44 (fun x4 hf => ?_)
    refine lv_iconst S.1 S.2.1 dX9_tearOut_45 k_iconst_1 ?_
    refine lv_iadd S.1 S.2.1 dX9_tearOut_46 ?_
    refine mst0 S K hs hf dX9_tearOut_47 (fun σ5 H locs hs hf => ?_)
    refine lv_aload_n S.1 S.2.1 dX9_tearOut_48 rfl (lv_at hl 0 rfl) ?_
    refine mg7 S K hs dX9_tearOut_49 ?_
    refine lv_iconst S.1 S.2.1 dX9_tearOut_52 k_iconst_3 ?_
    refine lv_dup2_11 S.1 S.2.1 dX9_tearOut_53 rfl rfl ?_
    refine mld0 S K hs hf dX9_tearOut_54 (fun x6 hf => ?_)
    refine lv_iconst S.1 S.2.1 dX9_tearOut_55 k_iconst_1 ?_
    refine lv_isub S.1 S.2.1 dX9_tearOut_56 ?_
    refine mst0 S K hs hf dX9_tearOut_57 (fun σ7 H locs hs hf => ?_)
    refine lv_iconst S.1 S.2.1 dX9_tearOut_58 k_iconst_0 ?_
    refine lv_istore_n (lv' := [(2, .int (nI 0)), (0, .ref h), (1, .int y1)]) S.1 S.2.1 dX9_tearOut_59 rfl hl (by decide) rfl (fun ls hl => ?_)
    refine L60 _ (fun σ11 hf H locs ls hl hs => ?_) _ _ _ _ hf _ _ _ (lv_sub hl [1, 2, 0] rfl) hs
    exact mrV S K hr hk hs (hf.trans (congrArg some hres)) dX9_tearOut_98
  have J22 : ∀ (y1 : Int32) (σ : zSt), fX9_tearOut_j22 y1 σ = some res → mGo p l e rmX9_tearOut s m args below meth c (MQ below (mQv D cI h ad σ0) args s 0 0 (mA h ad)) D cI h ad 3 σ [(0, .ref h), (1, .int y1)] 22 [] := by
    intro y1 σ hf H locs ls hl hs
    unfold fX9_tearOut_j22 at hf
    refine lv_aload_n S.1 S.2.1 dX9_tearOut_22 rfl (lv_at hl 0 rfl) ?_
    refine mg7 S K hs dX9_tearOut_23 ?_
    refine lv_bipush S.1 S.2.1 dX9_tearOut_26 k_bipush_78 ?_
    refine lv_aload_n S.1 S.2.1 dX9_tearOut_28 rfl (lv_at hl 0 rfl) ?_
    refine mg7 S K hs dX9_tearOut_29 ?_
    refine lv_iload_n S.1 S.2.1 dX9_tearOut_32 rfl (lv_at hl 1 rfl) ?_
    refine mld0 S K hs hf dX9_tearOut_33 (fun x2 hf => ?_)
    refine lv_iadd S.1 S.2.1 dX9_tearOut_34 ?_
    refine lv_iconst S.1 S.2.1 dX9_tearOut_35 k_iconst_1 ?_
    refine mst0 S K hs hf dX9_tearOut_36 (fun σ3 H locs hs hf => ?_)
    exact J37 _ _ hf _ _ _ (lv_sub hl [0, 1] rfl) hs
  unfold fX9_tearOut at hf
  refine lv_aload_n S.1 S.2.1 dX9_tearOut_0 rfl (lv_at hl 0 rfl) ?_
  refine mg7 S K hs dX9_tearOut_1 ?_
  refine lv_iload_n S.1 S.2.1 dX9_tearOut_4 rfl (lv_at hl 1 rfl) ?_
  refine lv_iconst S.1 S.2.1 dX9_tearOut_5 k_iconst_1 ?_
  refine lv_iadd S.1 S.2.1 dX9_tearOut_6 ?_
  refine mld0 S K hs hf dX9_tearOut_7 (fun x1 hf => ?_)
  refine z_if_ge (tgt := 22) S hf dX9_tearOut_8 (by decide) (fun hf => ?_) (fun hf => ?_)
  · exact J22 _ _ hf _ _ _ (lv_sub hl [0, 1] rfl) hs
  · refine lv_aload_n S.1 S.2.1 dX9_tearOut_11 rfl (lv_at hl 0 rfl) ?_
    refine mg7 S K hs dX9_tearOut_12 ?_
    refine lv_iload_n S.1 S.2.1 dX9_tearOut_15 rfl (lv_at hl 1 rfl) ?_
    refine lv_iconst S.1 S.2.1 dX9_tearOut_16 k_iconst_2 ?_
    refine lv_iadd S.1 S.2.1 dX9_tearOut_17 ?_
    refine mld0 S K hs hf dX9_tearOut_18 (fun x12 hf => ?_)
    refine z_if_eq (tgt := 37) S hf dX9_tearOut_19 (by decide) (fun hf => ?_) (fun hf => ?_)
    · exact J37 _ _ hf _ _ _ (lv_sub hl [0, 1] rfl) hs
    · exact J22 _ _ hf _ _ _ (lv_sub hl [0, 1] rfl) hs
theorem metX9_tearOut (l : Launch) (D : va_G) (cI : ClassId) (h : Nat) (ad : Nat → Nat) (a0 : Int32) (σ : zSt) (σ0 : zSt) (hf : fX9_tearOut a0 σ = some σ0) : Met l yX9_tearOut (Cond.code yX9_tearOut cX9_tearOut 3 none :: WA) rmX9_tearOut (mPc D cI h ad σ [.ref h, .int a0]) ((mQv D cI h ad σ0)) 0 0 (mA h ad) :=
  mMet (by decide) (Nat.le_of_ble_eq_true rfl) (fun p e s m args below meth c H locs ls S K hr hk hl hs => bdX9_tearOut S K hr hk _ _ _ hf hl hs)
set_option maxHeartbeats 4000000 in
set_option maxRecDepth 100000 in
theorem bdX9_opensPage {p : Program} {l : Launch} {e : Env} {s : State} {m : MethodId} {args : Array Value} {below : List Frame} {meth : Method} {c : Code} {H : Heap} {locs : List Loc} {ls : Array Slot} {D : va_G} {cI : ClassId} {h : Nat} {ad : Nat → Nat} (S : CallFix p m c cX9_opensPage 4 s args WA RX9) (K : va_K D vwCl [(cI, .int)] s) (hr : meth.sig.returnType = (some .int)) (hk : meth.locks = false) (a0 : Int32) (σ : zSt) (r0 : Int32) (σ0 : zSt) (hf : fX9_opensPage a0 σ = some (r0, σ0)) (hl : lv_has ls 4 [(0, .ref h), (1, .int a0)]) (hs : mS D cI h ad s σ H locs) : W p l e rmX9_opensPage s m args below meth c H locs 0 0 (MQ below (mQi D cI h ad r0 σ0) args s 0 0 (mA h ad)) (F0 m 0 ls []) := by
  obtain ⟨res, hres⟩ : ∃ q, q = (r0, σ0) := ⟨_, rfl⟩
  rw [← hres] at hf
  have J151 : ∀ (y2 : Int32) (w0 : Int32) (w1 : Int32) (w2 : Int32) (σ : zSt), fX9_opensPage_j151 y2 w0 w1 w2 σ = some res → mGo p l e rmX9_opensPage s m args below meth c (MQ below (mQi D cI h ad r0 σ0) args s 0 0 (mA h ad)) D cI h ad 4 σ [(0, .ref h), (2, .int y2)] 151 [.int w0, .int w1, .int w2, .ref (ad 0)] := by
    intro y2 w0 w1 w2 σ hf H locs ls hl hs
    unfold fX9_opensPage_j151 at hf
    refine lv_iadd S.1 S.2.1 dX9_opensPage_151 ?_
    refine mst0 S K hs hf dX9_opensPage_152 (fun σ13 H locs hs hf => ?_)
    refine lv_iload_n S.1 S.2.1 dX9_opensPage_153 rfl (lv_at hl 1 rfl) ?_
    refine z_if_eq (tgt := 168) S hf dX9_opensPage_154 (by decide) (fun hf => ?_) (fun hf => ?_)
    · refine lv_iconst S.1 S.2.1 dX9_opensPage_168 k_iconst_1 ?_
      exact mrI S K hr hk hs (hf.trans (congrArg some hres)) dX9_opensPage_169
    · refine lv_aload_n S.1 S.2.1 dX9_opensPage_157 rfl (lv_at hl 0 rfl) ?_
      refine mg7 S K hs dX9_opensPage_158 ?_
      refine lv_iconst S.1 S.2.1 dX9_opensPage_161 k_iconst_0 ?_
      refine mld0 S K hs hf dX9_opensPage_162 (fun x14 hf => ?_)
      refine lv_iconst S.1 S.2.1 dX9_opensPage_163 k_iconst_1 ?_
      refine lv_isub S.1 S.2.1 dX9_opensPage_164 ?_
      refine lv_goto (tgt := 169) S.1 S.2.1 dX9_opensPage_165 (by decide) ?_
      exact mrI S K hr hk hs (hf.trans (congrArg some hres)) dX9_opensPage_169
  have J113 : ∀ (y1 : Int32) (y2 : Int32) (w0 : Int32) (w1 : Int32) (σ : zSt), fX9_opensPage_j113 y1 y2 w0 w1 σ = some res → mGo p l e rmX9_opensPage s m args below meth c (MQ below (mQi D cI h ad r0 σ0) args s 0 0 (mA h ad)) D cI h ad 4 σ [(0, .ref h), (1, .int y1), (2, .int y2)] 113 [.int w0, .int w1, .ref (ad 0)] := by
    intro y1 y2 w0 w1 σ hf H locs ls hl hs
    unfold fX9_opensPage_j113 at hf
    refine mst0 S K hs hf dX9_opensPage_113 (fun σ8 H locs hs hf => ?_)
    refine lv_aload_n S.1 S.2.1 dX9_opensPage_114 rfl (lv_at hl 0 rfl) ?_
    refine mg7 S K hs dX9_opensPage_115 ?_
    refine lv_iconst S.1 S.2.1 dX9_opensPage_118 k_iconst_3 ?_
    refine lv_dup2_11 S.1 S.2.1 dX9_opensPage_119 rfl rfl ?_
    refine mld0 S K hs hf dX9_opensPage_120 (fun x9 hf => ?_)
    refine lv_iconst S.1 S.2.1 dX9_opensPage_121 k_iconst_1 ?_
    refine lv_iadd S.1 S.2.1 dX9_opensPage_122 ?_
    refine mst0 S K hs hf dX9_opensPage_123 (fun σ10 H locs hs hf => ?_)
    refine lv_aload_n S.1 S.2.1 dX9_opensPage_124 rfl (lv_at hl 0 rfl) ?_
    refine mg7 S K hs dX9_opensPage_125 ?_
    refine lv_bipush S.1 S.2.1 dX9_opensPage_128 k_bipush_78 ?_
    refine lv_iload_n S.1 S.2.1 dX9_opensPage_130 rfl (lv_at hl 1 rfl) ?_
    refine lv_iadd S.1 S.2.1 dX9_opensPage_131 ?_
    refine lv_iconst S.1 S.2.1 dX9_opensPage_132 k_iconst_0 ?_
    refine mst0 S K hs hf dX9_opensPage_133 (fun σ11 H locs hs hf => ?_)
    refine lv_aload_n S.1 S.2.1 dX9_opensPage_134 rfl (lv_at hl 0 rfl) ?_
    refine mg7 S K hs dX9_opensPage_135 ?_
    refine lv_bipush S.1 S.2.1 dX9_opensPage_138 k_bipush_9 ?_
    refine lv_dup2_11 S.1 S.2.1 dX9_opensPage_140 rfl rfl ?_
    refine mld0 S K hs hf dX9_opensPage_141 (fun x12 hf => ?_)
    refine lv_iload_n S.1 S.2.1 dX9_opensPage_142 rfl (lv_at hl 2 rfl) ?_
    refine z_if_eq (tgt := 150) S hf dX9_opensPage_143 (by decide) (fun hf => ?_) (fun hf => ?_)
    · refine lv_iconst S.1 S.2.1 dX9_opensPage_150 k_iconst_0 ?_
      exact J151 _ _ _ _ _ hf _ _ _ (lv_sub hl [0, 2] rfl) hs
    · refine lv_iconst S.1 S.2.1 dX9_opensPage_146 k_iconst_1 ?_
      refine lv_goto (tgt := 151) S.1 S.2.1 dX9_opensPage_147 (by decide) ?_
      exact J151 _ _ _ _ _ hf _ _ _ (lv_sub hl [0, 2] rfl) hs
  have J92 : ∀ (y1 : Int32) (y2 : Int32) (y3 : Int32) (w0 : Int32) (w1 : Int32) (σ : zSt), fX9_opensPage_j92 y1 y2 y3 w0 w1 σ = some res → mGo p l e rmX9_opensPage s m args below meth c (MQ below (mQi D cI h ad r0 σ0) args s 0 0 (mA h ad)) D cI h ad 4 σ [(0, .ref h), (1, .int y1), (2, .int y2), (3, .int y3)] 92 [.int w0, .int w1, .ref (ad 0)] := by
    intro y1 y2 y3 w0 w1 σ hf H locs ls hl hs
    unfold fX9_opensPage_j92 at hf
    refine mst0 S K hs hf dX9_opensPage_92 (fun σ7 H locs hs hf => ?_)
    refine lv_aload_n S.1 S.2.1 dX9_opensPage_93 rfl (lv_at hl 0 rfl) ?_
    refine mg7 S K hs dX9_opensPage_94 ?_
    refine lv_iload_n S.1 S.2.1 dX9_opensPage_97 rfl (lv_at hl 3 rfl) ?_
    refine lv_iconst S.1 S.2.1 dX9_opensPage_98 k_iconst_2 ?_
    refine lv_iadd S.1 S.2.1 dX9_opensPage_99 ?_
    refine lv_iload_n S.1 S.2.1 dX9_opensPage_100 rfl (lv_at hl 2 rfl) ?_
    refine z_if_eq (tgt := 112) S hf dX9_opensPage_101 (by decide) (fun hf => ?_) (fun hf => ?_)
    · refine lv_iconst S.1 S.2.1 dX9_opensPage_112 k_iconst_0 ?_
      exact J113 _ _ _ _ _ hf _ _ _ (lv_sub hl [0, 1, 2] rfl) hs
    · refine lv_aload_n S.1 S.2.1 dX9_opensPage_104 rfl (lv_at hl 0 rfl) ?_
      refine lv_iload_n S.1 S.2.1 dX9_opensPage_105 rfl (lv_at hl 1 rfl) ?_
      refine mcP S K hs hl.1 hf (fun _ hX => metX9_sharersOf _ _ _ _ _ _ _ _ hX) (cwX9_65 S.2.2.2.2 ⟨Nat.le_of_ble_eq_true rfl, Nat.le_of_ble_eq_true rfl⟩) rfl dX9_opensPage_106 rfl (Nat.le_of_ble_eq_true rfl) ⟨Nat.le_refl _, Nat.le_refl _⟩ (fun x15 H locs hs hf => ?_)
      refine lv_goto (tgt := 113) S.1 S.2.1 dX9_opensPage_109 (by decide) ?_
      exact J113 _ _ _ _ _ hf _ _ _ (lv_sub hl [0, 1, 2] rfl) hs
  have J51 : ∀ (y1 : Int32) (w0 : Int32) (σ : zSt), fX9_opensPage_j51 y1 w0 σ = some res → mGo p l e rmX9_opensPage s m args below meth c (MQ below (mQi D cI h ad r0 σ0) args s 0 0 (mA h ad)) D cI h ad 4 σ [(0, .ref h), (1, .int y1)] 51 [.int w0] := by
    intro y1 w0 σ hf H locs ls hl hs
    unfold fX9_opensPage_j51 at hf
    refine lv_istore_n (lv' := [(2, .int w0), (0, .ref h), (1, .int y1)]) S.1 S.2.1 dX9_opensPage_51 rfl hl (by decide) rfl (fun ls hl => ?_)
    refine lv_sipush S.1 S.2.1 dX9_opensPage_52 k_sipush_302 ?_
    refine lv_iconst S.1 S.2.1 dX9_opensPage_55 k_iconst_4 ?_
    refine lv_aload_n S.1 S.2.1 dX9_opensPage_56 rfl (lv_at hl 1 rfl) ?_
    refine mg7 S K hs dX9_opensPage_57 ?_
    refine lv_iconst S.1 S.2.1 dX9_opensPage_60 k_iconst_3 ?_
    refine mld0 S K hs hf dX9_opensPage_61 (fun x5 hf => ?_)
    refine lv_imul S.1 S.2.1 dX9_opensPage_62 ?_
    refine lv_iadd S.1 S.2.1 dX9_opensPage_63 ?_
    refine lv_istore_n (lv' := [(3, .int ((nI 302) + ((nI 4) * x5))), (2, .int w0), (0, .ref h), (1, .int y1)]) S.1 S.2.1 dX9_opensPage_64 rfl hl (by decide) rfl (fun ls hl => ?_)
    refine lv_aload_n S.1 S.2.1 dX9_opensPage_65 rfl (lv_at hl 2 rfl) ?_
    refine mg7 S K hs dX9_opensPage_66 ?_
    refine lv_iload_n S.1 S.2.1 dX9_opensPage_69 rfl (lv_at hl 0 rfl) ?_
    refine lv_iload_n S.1 S.2.1 dX9_opensPage_70 rfl (lv_at hl 3 rfl) ?_
    refine mst0 S K hs hf dX9_opensPage_71 (fun σ6 H locs hs hf => ?_)
    refine lv_aload_n S.1 S.2.1 dX9_opensPage_72 rfl (lv_at hl 2 rfl) ?_
    refine mg7 S K hs dX9_opensPage_73 ?_
    refine lv_iload_n S.1 S.2.1 dX9_opensPage_76 rfl (lv_at hl 0 rfl) ?_
    refine lv_iconst S.1 S.2.1 dX9_opensPage_77 k_iconst_1 ?_
    refine lv_iadd S.1 S.2.1 dX9_opensPage_78 ?_
    refine lv_iload_n S.1 S.2.1 dX9_opensPage_79 rfl (lv_at hl 1 rfl) ?_
    refine z_if_eq (tgt := 91) S hf dX9_opensPage_80 (by decide) (fun hf => ?_) (fun hf => ?_)
    · refine lv_iconst S.1 S.2.1 dX9_opensPage_91 k_iconst_m1 ?_
      exact J92 _ _ _ _ _ _ hf _ _ _ (lv_sub hl [2, 3, 1, 0] rfl) hs
    · refine lv_aload_n S.1 S.2.1 dX9_opensPage_83 rfl (lv_at hl 2 rfl) ?_
      refine lv_iload_n S.1 S.2.1 dX9_opensPage_84 rfl (lv_at hl 3 rfl) ?_
      refine mcP S K hs hl.1 hf (fun _ hX => metX9_ownerOf _ _ _ _ _ _ _ _ hX) (cwX9_62 S.2.2.2.2 ⟨Nat.le_of_ble_eq_true rfl, Nat.le_of_ble_eq_true rfl⟩) rfl dX9_opensPage_85 rfl (Nat.le_of_ble_eq_true rfl) ⟨Nat.le_refl _, Nat.le_refl _⟩ (fun x16 H locs hs hf => ?_)
      refine lv_goto (tgt := 92) S.1 S.2.1 dX9_opensPage_88 (by decide) ?_
      exact J92 _ _ _ _ _ _ hf _ _ _ (lv_sub hl [2, 3, 1, 0] rfl) hs
  have J33 : ∀ (y1 : Int32) (σ : zSt), fX9_opensPage_j33 y1 σ = some res → mGo p l e rmX9_opensPage s m args below meth c (MQ below (mQi D cI h ad r0 σ0) args s 0 0 (mA h ad)) D cI h ad 4 σ [(0, .ref h), (1, .int y1)] 33 [] := by
    intro y1 σ hf H locs ls hl hs
    unfold fX9_opensPage_j33 at hf
    refine lv_aload_n S.1 S.2.1 dX9_opensPage_33 rfl (lv_at hl 0 rfl) ?_
    refine mg7 S K hs dX9_opensPage_34 ?_
    refine lv_bipush S.1 S.2.1 dX9_opensPage_37 k_bipush_78 ?_
    refine lv_iload_n S.1 S.2.1 dX9_opensPage_39 rfl (lv_at hl 1 rfl) ?_
    refine lv_iadd S.1 S.2.1 dX9_opensPage_40 ?_
    refine mld0 S K hs hf dX9_opensPage_41 (fun x4 hf => ?_)
    refine lv_iconst S.1 S.2.1 dX9_opensPage_42 k_iconst_1 ?_
    refine z_icmp_ne (tgt := 50) S hf dX9_opensPage_43 (by decide) (fun hf => ?_) (fun hf => ?_)
    · refine lv_iconst S.1 S.2.1 dX9_opensPage_50 k_iconst_0 ?_
      exact J51 _ _ _ hf _ _ _ (lv_sub hl [0, 1] rfl) hs
    · refine lv_iconst S.1 S.2.1 dX9_opensPage_46 k_iconst_1 ?_
      refine lv_goto (tgt := 51) S.1 S.2.1 dX9_opensPage_47 (by decide) ?_
      exact J51 _ _ _ hf _ _ _ (lv_sub hl [0, 1] rfl) hs
  unfold fX9_opensPage at hf
  refine lv_aload_n S.1 S.2.1 dX9_opensPage_0 rfl (lv_at hl 0 rfl) ?_
  refine lv_iload_n S.1 S.2.1 dX9_opensPage_1 rfl (lv_at hl 1 rfl) ?_
  refine mcP S K hs hl.1 hf (fun _ hX => metX9_pageOf _ _ _ _ _ _ _ _ hX) (cwX9_48 S.2.2.2.2 ⟨Nat.le_of_ble_eq_true rfl, Nat.le_of_ble_eq_true rfl⟩) rfl dX9_opensPage_2 rfl (Nat.le_of_ble_eq_true rfl) ⟨Nat.le_refl _, Nat.le_refl _⟩ (fun x1 H locs hs hf => ?_)
  refine z_if_lt (tgt := 10) S hf dX9_opensPage_5 (by decide) (fun hf => ?_) (fun hf => ?_)
  · refine lv_aload_n S.1 S.2.1 dX9_opensPage_10 rfl (lv_at hl 0 rfl) ?_
    refine mg7 S K hs dX9_opensPage_11 ?_
    refine lv_iconst S.1 S.2.1 dX9_opensPage_14 k_iconst_3 ?_
    refine mld0 S K hs hf dX9_opensPage_15 (fun x2 hf => ?_)
    refine lv_aload_n S.1 S.2.1 dX9_opensPage_16 rfl (lv_at hl 0 rfl) ?_
    refine mg7 S K hs dX9_opensPage_17 ?_
    refine lv_iconst S.1 S.2.1 dX9_opensPage_20 k_iconst_2 ?_
    refine mld0 S K hs hf dX9_opensPage_21 (fun x3 hf => ?_)
    refine z_icmp_ne (tgt := 33) S hf dX9_opensPage_22 (by decide) (fun hf => ?_) (fun hf => ?_)
    · exact J33 _ _ hf _ _ _ (lv_sub hl [0, 1] rfl) hs
    · refine lv_aload_n S.1 S.2.1 dX9_opensPage_25 rfl (lv_at hl 0 rfl) ?_
      refine lv_aload_n S.1 S.2.1 dX9_opensPage_26 rfl (lv_at hl 0 rfl) ?_
      refine mcP S K hs hl.1 hf (fun _ hX => metX9_oldestPage _ _ _ _ _ _ _ hX) (cwX9_55 S.2.2.2.2 ⟨Nat.le_of_ble_eq_true rfl, Nat.le_of_ble_eq_true rfl⟩) rfl dX9_opensPage_27 rfl (Nat.le_of_ble_eq_true rfl) ⟨Nat.le_refl _, Nat.le_refl _⟩ (fun x17 H locs hs hf => ?_)
      refine mcU S K hs hl.1 hf (fun _ hX => metX9_tearOut _ _ _ _ _ _ _ _ hX) (cwX9_59 S.2.2.2.2 ⟨Nat.le_of_ble_eq_true rfl, Nat.le_of_ble_eq_true rfl⟩) rfl dX9_opensPage_30 rfl (Nat.le_of_ble_eq_true rfl) ⟨Nat.le_refl _, Nat.le_refl _⟩ (fun σ18 H locs hs hf => ?_)
      exact J33 _ _ hf _ _ _ (lv_sub hl [0, 1] rfl) hs
  · refine lv_iconst S.1 S.2.1 dX9_opensPage_8 k_iconst_1 ?_
    exact mrI S K hr hk hs (hf.trans (congrArg some hres)) dX9_opensPage_9
theorem metX9_opensPage (l : Launch) (D : va_G) (cI : ClassId) (h : Nat) (ad : Nat → Nat) (a0 : Int32) (σ : zSt) (r0 : Int32) (σ0 : zSt) (hf : fX9_opensPage a0 σ = some (r0, σ0)) : Met l yX9_opensPage (Cond.code yX9_opensPage cX9_opensPage 4 (some .int) :: WA) rmX9_opensPage (mPc D cI h ad σ [.ref h, .int a0]) ((mQi D cI h ad r0 σ0)) 0 0 (mA h ad) :=
  mMet (by decide) (Nat.le_of_ble_eq_true rfl) (fun p e s m args below meth c H locs ls S K hr hk hl hs => bdX9_opensPage S K hr hk _ _ _ _ hf hl hs)
set_option maxHeartbeats 4000000 in
set_option maxRecDepth 100000 in
theorem bdX9_toMemory {p : Program} {l : Launch} {e : Env} {s : State} {m : MethodId} {args : Array Value} {below : List Frame} {meth : Method} {c : Code} {H : Heap} {locs : List Loc} {ls : Array Slot} {D : va_G} {cI : ClassId} {h : Nat} {ad : Nat → Nat} (S : CallFix p m c cX9_toMemory 2 s args WA RX9) (K : va_K D vwCl [(cI, .int)] s) (hr : meth.sig.returnType = none) (hk : meth.locks = false) (a0 : Int32) (σ : zSt) (σ0 : zSt) (hf : fX9_toMemory a0 σ = some σ0) (hl : lv_has ls 2 [(0, .ref h), (1, .int a0)]) (hs : mS D cI h ad s σ H locs) : W p l e rmX9_toMemory s m args below meth c H locs 0 0 (MQ below (mQv D cI h ad σ0) args s 0 0 (mA h ad)) (F0 m 0 ls []) := by
  unfold fX9_toMemory at hf
  refine lv_aload_n S.1 S.2.1 dX9_toMemory_0 rfl (lv_at hl 0 rfl) ?_
  refine mg7 S K hs dX9_toMemory_1 ?_
  refine lv_bipush S.1 S.2.1 dX9_toMemory_4 k_bipush_14 ?_
  refine lv_aload_n S.1 S.2.1 dX9_toMemory_6 rfl (lv_at hl 0 rfl) ?_
  refine mg7 S K hs dX9_toMemory_7 ?_
  refine lv_iload_n S.1 S.2.1 dX9_toMemory_10 rfl (lv_at hl 1 rfl) ?_
  refine mld0 S K hs hf dX9_toMemory_11 (fun x1 hf => ?_)
  refine lv_iadd S.1 S.2.1 dX9_toMemory_12 ?_
  refine lv_aload_n S.1 S.2.1 dX9_toMemory_13 rfl (lv_at hl 0 rfl) ?_
  refine mg7 S K hs dX9_toMemory_14 ?_
  refine lv_iload_n S.1 S.2.1 dX9_toMemory_17 rfl (lv_at hl 1 rfl) ?_
  refine lv_iconst S.1 S.2.1 dX9_toMemory_18 k_iconst_2 ?_
  refine lv_iadd S.1 S.2.1 dX9_toMemory_19 ?_
  refine mld0 S K hs hf dX9_toMemory_20 (fun x2 hf => ?_)
  refine mst0 S K hs hf dX9_toMemory_21 (fun σ3 H locs hs hf => ?_)
  refine lv_aload_n S.1 S.2.1 dX9_toMemory_22 rfl (lv_at hl 0 rfl) ?_
  refine mg7 S K hs dX9_toMemory_23 ?_
  refine lv_bipush S.1 S.2.1 dX9_toMemory_26 k_bipush_11 ?_
  refine lv_dup2_11 S.1 S.2.1 dX9_toMemory_28 rfl rfl ?_
  refine mld0 S K hs hf dX9_toMemory_29 (fun x4 hf => ?_)
  refine lv_iconst S.1 S.2.1 dX9_toMemory_30 k_iconst_1 ?_
  refine lv_iadd S.1 S.2.1 dX9_toMemory_31 ?_
  refine mst0 S K hs hf dX9_toMemory_32 (fun σ5 H locs hs hf => ?_)
  exact mrV S K hr hk hs hf dX9_toMemory_33
theorem metX9_toMemory (l : Launch) (D : va_G) (cI : ClassId) (h : Nat) (ad : Nat → Nat) (a0 : Int32) (σ : zSt) (σ0 : zSt) (hf : fX9_toMemory a0 σ = some σ0) : Met l yX9_toMemory (Cond.code yX9_toMemory cX9_toMemory 2 none :: WA) rmX9_toMemory (mPc D cI h ad σ [.ref h, .int a0]) ((mQv D cI h ad σ0)) 0 0 (mA h ad) :=
  mMet (by decide) (Nat.le_of_ble_eq_true rfl) (fun p e s m args below meth c H locs ls S K hr hk hl hs => bdX9_toMemory S K hr hk _ _ _ hf hl hs)
set_option maxHeartbeats 4000000 in
set_option maxRecDepth 100000 in
theorem bdX9_reachesOthers {p : Program} {l : Launch} {e : Env} {s : State} {m : MethodId} {args : Array Value} {below : List Frame} {meth : Method} {c : Code} {H : Heap} {locs : List Loc} {ls : Array Slot} {D : va_G} {cI : ClassId} {h : Nat} {ad : Nat → Nat} (S : CallFix p m c cX9_reachesOthers 7 s args WA RX9) (K : va_K D vwCl [(cI, .int)] s) (hr : meth.sig.returnType = (some .int)) (hk : meth.locks = false) (a0 : Int32) (a1 : Int32) (a2 : Int32) (σ : zSt) (r0 : Int32) (σ0 : zSt) (hf : fX9_reachesOthers a0 a1 a2 σ = some (r0, σ0)) (hl : lv_has ls 7 [(0, .ref h), (1, .int a0), (2, .int a1), (3, .int a2)]) (hs : mS D cI h ad s σ H locs) : W p l e rmX9_reachesOthers s m args below meth c H locs 0 0 (MQ below (mQi D cI h ad r0 σ0) args s 0 0 (mA h ad)) (F0 m 0 ls []) := by
  obtain ⟨res, hres⟩ : ∃ q, q = (r0, σ0) := ⟨_, rfl⟩
  rw [← hres] at hf
  have J108 : ∀ (C6 : Int32 → Int32 → Int32 → Int32 → Int32 → zSt → Option (Int32 × zSt)) (hC6 : ∀ (y1 : Int32) (y2 : Int32) (y3 : Int32) (y4 : Int32) (y5 : Int32) (σ : zSt), C6 y1 y2 y3 y4 y5 σ = some res → mGo p l e rmX9_reachesOthers s m args below meth c (MQ below (mQi D cI h ad r0 σ0) args s 0 0 (mA h ad)) D cI h ad 7 σ [(0, .ref h), (1, .int y1), (2, .int y2), (3, .int y3), (4, .int y4), (5, .int y5)] 6 []) (y1 : Int32) (y2 : Int32) (y3 : Int32) (y4 : Int32) (y5 : Int32) (w0 : Int32) (w1 : Int32) (σ : zSt), fX9_reachesOthers_j108 C6 y1 y2 y3 y4 y5 w0 w1 σ = some res → mGo p l e rmX9_reachesOthers s m args below meth c (MQ below (mQi D cI h ad r0 σ0) args s 0 0 (mA h ad)) D cI h ad 7 σ [(0, .ref h), (1, .int y1), (2, .int y2), (3, .int y3), (4, .int y4), (5, .int y5)] 108 [.int w0, .int w1, .ref (ad 0)] := by
    intro C6 hC6 y1 y2 y3 y4 y5 w0 w1 σ hf H locs ls hl hs
    unfold fX9_reachesOthers_j108 at hf
    refine mst0 S K hs hf dX9_reachesOthers_108 (fun σ4 H locs hs hf => ?_)
    refine lv_iinc (v := y5 + nI 1) (lv' := [(5, .int (y5 + nI 1)), (0, .ref h), (1, .int y1), (2, .int y2), (3, .int y3), (4, .int y4)]) S.1 S.2.1 dX9_reachesOthers_109 hl (k := 5) rfl (by rw [k_iconst_1]) (by decide) rfl (fun ls hl => ?_)
    refine lv_goto (tgt := 6) S.1 S.2.1 dX9_reachesOthers_112 (by decide) ?_
    exact hC6 _ _ _ _ _ _ hf _ _ _ (lv_sub hl [1, 2, 3, 4, 5, 0] rfl) hs
  have J78 : ∀ (C6 : Int32 → Int32 → Int32 → Int32 → Int32 → zSt → Option (Int32 × zSt)) (hC6 : ∀ (y1 : Int32) (y2 : Int32) (y3 : Int32) (y4 : Int32) (y5 : Int32) (σ : zSt), C6 y1 y2 y3 y4 y5 σ = some res → mGo p l e rmX9_reachesOthers s m args below meth c (MQ below (mQi D cI h ad r0 σ0) args s 0 0 (mA h ad)) D cI h ad 7 σ [(0, .ref h), (1, .int y1), (2, .int y2), (3, .int y3), (4, .int y4), (5, .int y5)] 6 []) (y1 : Int32) (y2 : Int32) (y3 : Int32) (y4 : Int32) (y5 : Int32) (y6 : Int32) (σ : zSt), fX9_reachesOthers_j78 C6 y1 y2 y3 y4 y5 y6 σ = some res → mGo p l e rmX9_reachesOthers s m args below meth c (MQ below (mQi D cI h ad r0 σ0) args s 0 0 (mA h ad)) D cI h ad 7 σ [(0, .ref h), (1, .int y1), (2, .int y2), (3, .int y3), (4, .int y4), (5, .int y5), (6, .int y6)] 78 [] := by
    intro C6 hC6 y1 y2 y3 y4 y5 y6 σ hf H locs ls hl hs
    unfold fX9_reachesOthers_j78 at hf
    refine lv_iload S.1 S.2.1 dX9_reachesOthers_78 (lv_at hl 6 rfl) ?_
    refine z_if_lt (tgt := 109) S hf dX9_reachesOthers_80 (by decide) (fun hf => ?_) (fun hf => ?_)
    · refine lv_iinc (v := y5 + nI 1) (lv' := [(5, .int (y5 + nI 1)), (0, .ref h), (1, .int y1), (2, .int y2), (3, .int y3), (4, .int y4), (6, .int y6)]) S.1 S.2.1 dX9_reachesOthers_109 hl (k := 5) rfl (by rw [k_iconst_1]) (by decide) rfl (fun ls hl => ?_)
      refine lv_goto (tgt := 6) S.1 S.2.1 dX9_reachesOthers_112 (by decide) ?_
      exact hC6 _ _ _ _ _ _ hf _ _ _ (lv_sub hl [1, 2, 3, 4, 5, 0] rfl) hs
    · refine lv_aload_n S.1 S.2.1 dX9_reachesOthers_83 rfl (lv_at hl 0 rfl) ?_
      refine mg7 S K hs dX9_reachesOthers_84 ?_
      refine lv_iload S.1 S.2.1 dX9_reachesOthers_87 (lv_at hl 6 rfl) ?_
      refine lv_iconst S.1 S.2.1 dX9_reachesOthers_89 k_iconst_1 ?_
      refine lv_iadd S.1 S.2.1 dX9_reachesOthers_90 ?_
      refine lv_iconst S.1 S.2.1 dX9_reachesOthers_91 k_iconst_1 ?_
      refine mst0 S K hs hf dX9_reachesOthers_92 (fun σ3 H locs hs hf => ?_)
      refine lv_aload_n S.1 S.2.1 dX9_reachesOthers_93 rfl (lv_at hl 0 rfl) ?_
      refine mg7 S K hs dX9_reachesOthers_94 ?_
      refine lv_iload S.1 S.2.1 dX9_reachesOthers_97 (lv_at hl 6 rfl) ?_
      refine lv_iload_n S.1 S.2.1 dX9_reachesOthers_99 rfl (lv_at hl 3 rfl) ?_
      refine z_if_eq (tgt := 107) S hf dX9_reachesOthers_100 (by decide) (fun hf => ?_) (fun hf => ?_)
      · refine lv_iload_n S.1 S.2.1 dX9_reachesOthers_107 rfl (lv_at hl 2 rfl) ?_
        exact J108 _ hC6 _ _ _ _ _ _ _ _ hf _ _ _ (lv_sub hl [0, 1, 2, 3, 4, 5] rfl) hs
      · refine lv_iconst S.1 S.2.1 dX9_reachesOthers_103 k_iconst_m1 ?_
        refine lv_goto (tgt := 108) S.1 S.2.1 dX9_reachesOthers_104 (by decide) ?_
        exact J108 _ hC6 _ _ _ _ _ _ _ _ hf _ _ _ (lv_sub hl [0, 1, 2, 3, 4, 5] rfl) hs
  have J66 : ∀ (C6 : Int32 → Int32 → Int32 → Int32 → Int32 → zSt → Option (Int32 × zSt)) (hC6 : ∀ (y1 : Int32) (y2 : Int32) (y3 : Int32) (y4 : Int32) (y5 : Int32) (σ : zSt), C6 y1 y2 y3 y4 y5 σ = some res → mGo p l e rmX9_reachesOthers s m args below meth c (MQ below (mQi D cI h ad r0 σ0) args s 0 0 (mA h ad)) D cI h ad 7 σ [(0, .ref h), (1, .int y1), (2, .int y2), (3, .int y3), (4, .int y4), (5, .int y5)] 6 []) (y1 : Int32) (y2 : Int32) (y3 : Int32) (y4 : Int32) (y5 : Int32) (y6 : Int32) (σ : zSt), fX9_reachesOthers_j66 C6 y1 y2 y3 y4 y5 y6 σ = some res → mGo p l e rmX9_reachesOthers s m args below meth c (MQ below (mQi D cI h ad r0 σ0) args s 0 0 (mA h ad)) D cI h ad 7 σ [(0, .ref h), (1, .int y1), (2, .int y2), (3, .int y3), (4, .int y4), (5, .int y5), (6, .int y6)] 66 [] := by
    intro C6 hC6 y1 y2 y3 y4 y5 y6 σ hf H locs ls hl hs
    unfold fX9_reachesOthers_j66 at hf
    refine lv_iload S.1 S.2.1 dX9_reachesOthers_66 (lv_at hl 6 rfl) ?_
    refine z_if_lt (tgt := 78) S hf dX9_reachesOthers_68 (by decide) (fun hf => ?_) (fun hf => ?_)
    · exact J78 _ hC6 _ _ _ _ _ _ _ hf _ _ _ (lv_sub hl [0, 1, 2, 3, 4, 5, 6] rfl) hs
    · refine lv_iload_n S.1 S.2.1 dX9_reachesOthers_71 rfl (lv_at hl 3 rfl) ?_
      refine z_if_eq (tgt := 78) S hf dX9_reachesOthers_72 (by decide) (fun hf => ?_) (fun hf => ?_)
      · exact J78 _ hC6 _ _ _ _ _ _ _ hf _ _ _ (lv_sub hl [0, 1, 2, 3, 4, 5, 6] rfl) hs
      · refine lv_iinc (v := y4 + nI 1) (lv' := [(4, .int (y4 + nI 1)), (0, .ref h), (1, .int y1), (2, .int y2), (3, .int y3), (5, .int y5), (6, .int y6)]) S.1 S.2.1 dX9_reachesOthers_75 hl (k := 4) rfl (by rw [k_iconst_1]) (by decide) rfl (fun ls hl => ?_)
        exact J78 _ hC6 _ _ _ _ _ _ _ hf _ _ _ (lv_sub hl [1, 2, 3, 4, 0, 5, 6] rfl) hs
  have J34 : ∀ (C6 : Int32 → Int32 → Int32 → Int32 → Int32 → zSt → Option (Int32 × zSt)) (hC6 : ∀ (y1 : Int32) (y2 : Int32) (y3 : Int32) (y4 : Int32) (y5 : Int32) (σ : zSt), C6 y1 y2 y3 y4 y5 σ = some res → mGo p l e rmX9_reachesOthers s m args below meth c (MQ below (mQi D cI h ad r0 σ0) args s 0 0 (mA h ad)) D cI h ad 7 σ [(0, .ref h), (1, .int y1), (2, .int y2), (3, .int y3), (4, .int y4), (5, .int y5)] 6 []) (y1 : Int32) (y2 : Int32) (y3 : Int32) (y4 : Int32) (y5 : Int32) (w0 : Int32) (σ : zSt), fX9_reachesOthers_j34 C6 y1 y2 y3 y4 y5 w0 σ = some res → mGo p l e rmX9_reachesOthers s m args below meth c (MQ below (mQi D cI h ad r0 σ0) args s 0 0 (mA h ad)) D cI h ad 7 σ [(0, .ref h), (1, .int y1), (2, .int y2), (3, .int y3), (4, .int y4), (5, .int y5)] 34 [.int w0] := by
    intro C6 hC6 y1 y2 y3 y4 y5 w0 σ hf H locs ls hl hs
    unfold fX9_reachesOthers_j34 at hf
    refine lv_istore (lv' := [(6, .int w0), (0, .ref h), (1, .int y1), (2, .int y2), (3, .int y3), (4, .int y4), (5, .int y5)]) S.1 S.2.1 dX9_reachesOthers_34 hl (by decide) rfl (fun ls hl => ?_)
    refine lv_iload S.1 S.2.1 dX9_reachesOthers_36 (lv_at hl 0 rfl) ?_
    refine z_if_lt (tgt := 66) S hf dX9_reachesOthers_38 (by decide) (fun hf => ?_) (fun hf => ?_)
    · exact J66 _ hC6 _ _ _ _ _ _ _ hf _ _ _ (lv_sub hl [1, 2, 3, 4, 5, 6, 0] rfl) hs
    · refine lv_aload_n S.1 S.2.1 dX9_reachesOthers_41 rfl (lv_at hl 1 rfl) ?_
      refine mg7 S K hs dX9_reachesOthers_42 ?_
      refine lv_iload S.1 S.2.1 dX9_reachesOthers_45 (lv_at hl 0 rfl) ?_
      refine lv_iconst S.1 S.2.1 dX9_reachesOthers_47 k_iconst_1 ?_
      refine lv_iadd S.1 S.2.1 dX9_reachesOthers_48 ?_
      refine mld0 S K hs hf dX9_reachesOthers_49 (fun x5 hf => ?_)
      refine lv_iconst S.1 S.2.1 dX9_reachesOthers_50 k_iconst_2 ?_
      refine z_icmp_ne (tgt := 66) S hf dX9_reachesOthers_51 (by decide) (fun hf => ?_) (fun hf => ?_)
      · exact J66 _ hC6 _ _ _ _ _ _ _ hf _ _ _ (lv_sub hl [1, 2, 3, 4, 5, 6, 0] rfl) hs
      · refine lv_aload_n S.1 S.2.1 dX9_reachesOthers_54 rfl (lv_at hl 1 rfl) ?_
        refine lv_iload S.1 S.2.1 dX9_reachesOthers_55 (lv_at hl 0 rfl) ?_
        refine mcU S K hs hl.1 hf (fun _ hX => metX9_toMemory _ _ _ _ _ _ _ _ hX) (cwX9_44 S.2.2.2.2 ⟨Nat.le_of_ble_eq_true rfl, Nat.le_of_ble_eq_true rfl⟩) rfl dX9_reachesOthers_57 rfl (Nat.le_of_ble_eq_true rfl) ⟨Nat.le_refl _, Nat.le_refl _⟩ (fun σ6 H locs hs hf => ?_)
        refine lv_iinc (v := y4 + nI 2) (lv' := [(4, .int (y4 + nI 2)), (6, .int w0), (0, .ref h), (1, .int y1), (2, .int y2), (3, .int y3), (5, .int y5)]) S.1 S.2.1 dX9_reachesOthers_60 hl (k := 5) rfl (by rw [k_iconst_2]) (by decide) rfl (fun ls hl => ?_)
        refine lv_goto (tgt := 78) S.1 S.2.1 dX9_reachesOthers_63 (by decide) ?_
        exact J78 _ hC6 _ _ _ _ _ _ _ hf _ _ _ (lv_sub hl [2, 3, 4, 5, 0, 6, 1] rfl) hs
  have L6 : ∀ (K6 : Int32 → zSt → Option (Int32 × zSt)) (hK6 : ∀ (y4 : Int32) (σ : zSt), K6 y4 σ = some res → mGo p l e rmX9_reachesOthers s m args below meth c (MQ below (mQi D cI h ad r0 σ0) args s 0 0 (mA h ad)) D cI h ad 7 σ [(0, .ref h), (4, .int y4)] 115 []) (n : Nat) (y1 : Int32) (y2 : Int32) (y3 : Int32) (y4 : Int32) (y5 : Int32) (σ : zSt), fX9_reachesOthers_l6 K6 n y1 y2 y3 y4 y5 σ = some res → mGo p l e rmX9_reachesOthers s m args below meth c (MQ below (mQi D cI h ad r0 σ0) args s 0 0 (mA h ad)) D cI h ad 7 σ [(0, .ref h), (1, .int y1), (2, .int y2), (3, .int y3), (4, .int y4), (5, .int y5)] 6 [] := by
    intro K6 hK6 n
    induction n with
    | zero =>
      intro y1 y2 y3 y4 y5 σ hf H locs ls hl hs
      rw [fX9_reachesOthers_l6] at hf
      cases hf
    | succ n ih =>
      intro y1 y2 y3 y4 y5 σ hf H locs ls hl hs
      rw [fX9_reachesOthers_l6] at hf
      refine lv_iload S.1 S.2.1 dX9_reachesOthers_6 (lv_at hl 5 rfl) ?_
      refine lv_aload_n S.1 S.2.1 dX9_reachesOthers_8 rfl (lv_at hl 0 rfl) ?_
      refine mg7 S K hs dX9_reachesOthers_9 ?_
      refine lv_iconst S.1 S.2.1 dX9_reachesOthers_12 k_iconst_0 ?_
      refine mld0 S K hs hf dX9_reachesOthers_13 (fun x1 hf => ?_)
      refine z_icmp_ge (tgt := 115) S hf dX9_reachesOthers_14 (by decide) (fun hf => ?_) (fun hf => ?_)
      · exact hK6 _ _ hf _ _ _ (lv_sub hl [0, 4] rfl) hs
      · refine lv_iload S.1 S.2.1 dX9_reachesOthers_17 (lv_at hl 5 rfl) ?_
        refine lv_iload_n S.1 S.2.1 dX9_reachesOthers_19 rfl (lv_at hl 1 rfl) ?_
        refine z_icmp_ne (tgt := 27) S hf dX9_reachesOthers_20 (by decide) (fun hf => ?_) (fun hf => ?_)
        · refine lv_aload_n S.1 S.2.1 dX9_reachesOthers_27 rfl (lv_at hl 0 rfl) ?_
          refine lv_iload S.1 S.2.1 dX9_reachesOthers_28 (lv_at hl 5 rfl) ?_
          refine lv_iload_n S.1 S.2.1 dX9_reachesOthers_30 rfl (lv_at hl 2 rfl) ?_
          refine mcP S K hs hl.1 hf (fun _ hX => metX9_copyOf _ _ _ _ _ _ _ _ _ hX) (cwX9_52 S.2.2.2.2 ⟨Nat.le_of_ble_eq_true rfl, Nat.le_of_ble_eq_true rfl⟩) rfl dX9_reachesOthers_31 rfl (Nat.le_of_ble_eq_true rfl) ⟨Nat.le_refl _, Nat.le_refl _⟩ (fun x2 H locs hs hf => ?_)
          exact J34 _ ih _ _ _ _ _ _ _ hf _ _ _ (lv_sub hl [0, 1, 2, 3, 4, 5] rfl) hs
        · refine lv_iconst S.1 S.2.1 dX9_reachesOthers_23 k_iconst_m1 ?_
          refine lv_goto (tgt := 34) S.1 S.2.1 dX9_reachesOthers_24 (by decide) ?_
          exact J34 _ ih _ _ _ _ _ _ _ hf _ _ _ (lv_sub hl [0, 1, 2, 3, 4, 5] rfl) hs
  unfold fX9_reachesOthers at hf
  refine lv_iconst S.1 S.2.1 dX9_reachesOthers_0 k_iconst_0 ?_
  refine lv_istore (lv' := [(4, .int (nI 0)), (0, .ref h), (1, .int a0), (2, .int a1), (3, .int a2)]) S.1 S.2.1 dX9_reachesOthers_1 hl (by decide) rfl (fun ls hl => ?_)
  refine lv_iconst S.1 S.2.1 dX9_reachesOthers_3 k_iconst_0 ?_
  refine lv_istore (lv' := [(5, .int (nI 0)), (4, .int (nI 0)), (0, .ref h), (1, .int a0), (2, .int a1), (3, .int a2)]) S.1 S.2.1 dX9_reachesOthers_4 hl (by decide) rfl (fun ls hl => ?_)
  refine L6 _ (fun x7 σ8 hf H locs ls hl hs => ?_) _ _ _ _ _ _ _ hf _ _ _ (lv_sub hl [2, 3, 4, 5, 1, 0] rfl) hs
  refine lv_iload S.1 S.2.1 dX9_reachesOthers_115 (lv_at hl 1 rfl) ?_
  exact mrI S K hr hk hs (hf.trans (congrArg some hres)) dX9_reachesOthers_117
theorem metX9_reachesOthers (l : Launch) (D : va_G) (cI : ClassId) (h : Nat) (ad : Nat → Nat) (a0 : Int32) (a1 : Int32) (a2 : Int32) (σ : zSt) (r0 : Int32) (σ0 : zSt) (hf : fX9_reachesOthers a0 a1 a2 σ = some (r0, σ0)) : Met l yX9_reachesOthers (Cond.code yX9_reachesOthers cX9_reachesOthers 7 (some .int) :: WA) rmX9_reachesOthers (mPc D cI h ad σ [.ref h, .int a0, .int a1, .int a2]) ((mQi D cI h ad r0 σ0)) 0 0 (mA h ad) :=
  mMet (by decide) (Nat.le_of_ble_eq_true rfl) (fun p e s m args below meth c H locs ls S K hr hk hl hs => bdX9_reachesOthers S K hr hk _ _ _ _ _ _ hf hl hs)
