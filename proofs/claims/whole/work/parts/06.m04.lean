/-! the reference: contracts (by wip/tools/walk.py) -/
set_option maxHeartbeats 4000000 in
set_option maxRecDepth 100000 in
theorem bdX9_tick {p : Program} {l : Launch} {e : Env} {s : State} {m : MethodId} {args : Array Value} {below : List Frame} {meth : Method} {c : Code} {H : Heap} {locs : List Loc} {ls : Array Slot} {D : va_G} {cI : ClassId} {h : Nat} {ad : Nat → Nat} (S : CallFix p m c cX9_tick 8 s args WA RX9) (K : va_K D vwCl [(cI, .int)] s) (hr : meth.sig.returnType = (some .int)) (hk : meth.locks = false) (σ : zSt) (r0 : Int32) (σ0 : zSt) (hf : fX9_tick σ = some (r0, σ0)) (hl : lv_has ls 8 [(0, .ref h)]) (hs : mS D cI h ad s σ H locs) : W p l e rmX9_tick s m args below meth c H locs 0 0 (MQ below (mQi D cI h ad r0 σ0) args s 0 0 (mA h ad)) (F0 m 0 ls []) := by
  obtain ⟨res, hres⟩ : ∃ q, q = (r0, σ0) := ⟨_, rfl⟩
  rw [← hres] at hf
  have J112 : ∀ (C6 : Int32 → Int32 → Int32 → zSt → Option (Int32 × zSt)) (hC6 : ∀ (y1 : Int32) (y2 : Int32) (y3 : Int32) (σ : zSt), C6 y1 y2 y3 σ = some res → mGo p l e rmX9_tick s m args below meth c (MQ below (mQi D cI h ad r0 σ0) args s 0 0 (mA h ad)) D cI h ad 8 σ [(0, .ref h), (1, .int y1), (2, .int y2), (3, .int y3)] 6 []) (y2 : Int32) (y3 : Int32) (y4 : Int32) (y5 : Int32) (y6 : Int32) (w0 : Int32) (w1 : Int32) (σ : zSt), fX9_tick_j112 C6 y2 y3 y4 y5 y6 w0 w1 σ = some res → mGo p l e rmX9_tick s m args below meth c (MQ below (mQi D cI h ad r0 σ0) args s 0 0 (mA h ad)) D cI h ad 8 σ [(0, .ref h), (2, .int y2), (3, .int y3), (4, .int y4), (5, .int y5), (6, .int y6)] 112 [.int w0, .int w1] := by
    intro C6 hC6 y2 y3 y4 y5 y6 w0 w1 σ hf H locs ls hl hs
    unfold fX9_tick_j112 at hf
    refine lv_ior S.1 S.2.1 dX9_tick_112 ?_
    refine lv_istore_n (lv' := [(1, .int (w1 ||| w0)), (0, .ref h), (2, .int y2), (3, .int y3), (4, .int y4), (5, .int y5), (6, .int y6)]) S.1 S.2.1 dX9_tick_113 rfl hl (by decide) rfl (fun ls hl => ?_)
    refine lv_aload_n S.1 S.2.1 dX9_tick_114 rfl (lv_at hl 1 rfl) ?_
    refine lv_iload S.1 S.2.1 dX9_tick_115 (lv_at hl 4 rfl) ?_
    refine lv_iload S.1 S.2.1 dX9_tick_117 (lv_at hl 6 rfl) ?_
    refine lv_aload_n S.1 S.2.1 dX9_tick_119 rfl (lv_at hl 1 rfl) ?_
    refine mg7 S K hs dX9_tick_120 ?_
    refine lv_iload S.1 S.2.1 dX9_tick_123 (lv_at hl 5 rfl) ?_
    refine lv_iconst S.1 S.2.1 dX9_tick_125 k_iconst_1 ?_
    refine lv_iadd S.1 S.2.1 dX9_tick_126 ?_
    refine mld0 S K hs hf dX9_tick_127 (fun x8 hf => ?_)
    refine mcV S K hs hl.1 hf (fun _ _ hX => metX9_serves _ _ _ _ _ _ _ _ _ _ _ hX) (cwX9_89 S.2.2.2.2 ⟨Nat.le_of_ble_eq_true rfl, Nat.le_of_ble_eq_true rfl⟩) rfl dX9_tick_128 rfl (Nat.le_of_ble_eq_true rfl) ⟨Nat.le_refl _, Nat.le_refl _⟩ (fun x9 σ10 H locs hs hf => ?_)
    refine lv_pop S.1 S.2.1 dX9_tick_131 rfl ?_
    refine lv_aload_n S.1 S.2.1 dX9_tick_132 rfl (lv_at hl 1 rfl) ?_
    refine mg7 S K hs dX9_tick_133 ?_
    refine lv_iload S.1 S.2.1 dX9_tick_136 (lv_at hl 5 rfl) ?_
    refine lv_iconst S.1 S.2.1 dX9_tick_138 k_iconst_m1 ?_
    refine mst0 S K hs hf dX9_tick_139 (fun σ11 H locs hs hf => ?_)
    refine lv_iinc (v := y2 + nI 1) (lv' := [(2, .int (y2 + nI 1)), (1, .int (w1 ||| w0)), (0, .ref h), (3, .int y3), (4, .int y4), (5, .int y5), (6, .int y6)]) S.1 S.2.1 dX9_tick_140 hl (k := 2) rfl (by rw [k_iconst_1]) (by decide) rfl (fun ls hl => ?_)
    refine lv_goto (tgt := 170) S.1 S.2.1 dX9_tick_143 (by decide) ?_
    refine lv_iinc (v := y3 + nI 1) (lv' := [(3, .int (y3 + nI 1)), (2, .int (y2 + nI 1)), (1, .int (w1 ||| w0)), (0, .ref h), (4, .int y4), (5, .int y5), (6, .int y6)]) S.1 S.2.1 dX9_tick_170 hl (k := 3) rfl (by rw [k_iconst_1]) (by decide) rfl (fun ls hl => ?_)
    refine lv_goto (tgt := 6) S.1 S.2.1 dX9_tick_173 (by decide) ?_
    exact hC6 _ _ _ _ hf _ _ _ (lv_sub hl [3, 2, 1, 0] rfl) hs
  have J98 : ∀ (C6 : Int32 → Int32 → Int32 → zSt → Option (Int32 × zSt)) (hC6 : ∀ (y1 : Int32) (y2 : Int32) (y3 : Int32) (σ : zSt), C6 y1 y2 y3 σ = some res → mGo p l e rmX9_tick s m args below meth c (MQ below (mQi D cI h ad r0 σ0) args s 0 0 (mA h ad)) D cI h ad 8 σ [(0, .ref h), (1, .int y1), (2, .int y2), (3, .int y3)] 6 []) (y1 : Int32) (y2 : Int32) (y3 : Int32) (y4 : Int32) (y5 : Int32) (y6 : Int32) (y7 : Int32) (σ : zSt), fX9_tick_j98 C6 y1 y2 y3 y4 y5 y6 y7 σ = some res → mGo p l e rmX9_tick s m args below meth c (MQ below (mQi D cI h ad r0 σ0) args s 0 0 (mA h ad)) D cI h ad 8 σ [(0, .ref h), (1, .int y1), (2, .int y2), (3, .int y3), (4, .int y4), (5, .int y5), (6, .int y6), (7, .int y7)] 98 [] := by
    intro C6 hC6 y1 y2 y3 y4 y5 y6 y7 σ hf H locs ls hl hs
    unfold fX9_tick_j98 at hf
    refine lv_iload_n S.1 S.2.1 dX9_tick_98 rfl (lv_at hl 1 rfl) ?_
    refine lv_iload S.1 S.2.1 dX9_tick_99 (lv_at hl 7 rfl) ?_
    refine z_if_eq (tgt := 108) S hf dX9_tick_101 (by decide) (fun hf => ?_) (fun hf => ?_)
    · refine lv_iconst S.1 S.2.1 dX9_tick_108 k_iconst_1 ?_
      refine lv_iload S.1 S.2.1 dX9_tick_109 (lv_at hl 6 rfl) ?_
      refine lv_ishl S.1 S.2.1 dX9_tick_111 ?_
      exact J112 _ hC6 _ _ _ _ _ _ _ _ hf _ _ _ (lv_sub hl [0, 2, 3, 4, 5, 6] rfl) hs
    · refine lv_iconst S.1 S.2.1 dX9_tick_104 k_iconst_0 ?_
      refine lv_goto (tgt := 112) S.1 S.2.1 dX9_tick_105 (by decide) ?_
      exact J112 _ hC6 _ _ _ _ _ _ _ _ hf _ _ _ (lv_sub hl [0, 2, 3, 4, 5, 6] rfl) hs
  have J79 : ∀ (C6 : Int32 → Int32 → Int32 → zSt → Option (Int32 × zSt)) (hC6 : ∀ (y1 : Int32) (y2 : Int32) (y3 : Int32) (σ : zSt), C6 y1 y2 y3 σ = some res → mGo p l e rmX9_tick s m args below meth c (MQ below (mQi D cI h ad r0 σ0) args s 0 0 (mA h ad)) D cI h ad 8 σ [(0, .ref h), (1, .int y1), (2, .int y2), (3, .int y3)] 6 []) (y1 : Int32) (y2 : Int32) (y3 : Int32) (y4 : Int32) (y5 : Int32) (y6 : Int32) (w0 : Int32) (w1 : Int32) (w2 : Int32) (σ : zSt), fX9_tick_j79 C6 y1 y2 y3 y4 y5 y6 w0 w1 w2 σ = some res → mGo p l e rmX9_tick s m args below meth c (MQ below (mQi D cI h ad r0 σ0) args s 0 0 (mA h ad)) D cI h ad 8 σ [(0, .ref h), (1, .int y1), (2, .int y2), (3, .int y3), (4, .int y4), (5, .int y5), (6, .int y6)] 79 [.int w0, .int w1, .int w2, .ref h] := by
    intro C6 hC6 y1 y2 y3 y4 y5 y6 w0 w1 w2 σ hf H locs ls hl hs
    unfold fX9_tick_j79 at hf
    refine mcP S K hs hl.1 hf (fun _ hX => metX9_isHit _ _ _ _ _ _ _ _ _ _ hX) (cwX9_81 S.2.2.2.2 ⟨Nat.le_of_ble_eq_true rfl, Nat.le_of_ble_eq_true rfl⟩) rfl dX9_tick_79 rfl (Nat.le_of_ble_eq_true rfl) ⟨Nat.le_refl _, Nat.le_refl _⟩ (fun x7 H locs hs hf => ?_)
    refine lv_istore (lv' := [(7, .int x7), (0, .ref h), (1, .int y1), (2, .int y2), (3, .int y3), (4, .int y4), (5, .int y5), (6, .int y6)]) S.1 S.2.1 dX9_tick_82 hl (by decide) rfl (fun ls hl => ?_)
    refine lv_iload S.1 S.2.1 dX9_tick_84 (lv_at hl 0 rfl) ?_
    refine z_if_ne (tgt := 98) S hf dX9_tick_86 (by decide) (fun hf => ?_) (fun hf => ?_)
    · exact J98 _ hC6 _ _ _ _ _ _ _ _ hf _ _ _ (lv_sub hl [1, 2, 3, 4, 5, 6, 7, 0] rfl) hs
    · refine lv_iload_n S.1 S.2.1 dX9_tick_89 rfl (lv_at hl 2 rfl) ?_
      refine lv_iload S.1 S.2.1 dX9_tick_90 (lv_at hl 7 rfl) ?_
      refine lv_iushr S.1 S.2.1 dX9_tick_92 rfl ?_
      refine lv_iconst S.1 S.2.1 dX9_tick_93 k_iconst_1 ?_
      refine lv_iand S.1 S.2.1 dX9_tick_94 ?_
      refine z_if_ne (tgt := 146) S hf dX9_tick_95 (by decide) (fun hf => ?_) (fun hf => ?_)
      · refine lv_aload_n S.1 S.2.1 dX9_tick_146 rfl (lv_at hl 1 rfl) ?_
        refine mg7 S K hs dX9_tick_147 ?_
        refine lv_iload S.1 S.2.1 dX9_tick_150 (lv_at hl 6 rfl) ?_
        refine lv_iconst S.1 S.2.1 dX9_tick_152 k_iconst_2 ?_
        refine lv_iadd S.1 S.2.1 dX9_tick_153 ?_
        refine lv_dup2_11 S.1 S.2.1 dX9_tick_154 rfl rfl ?_
        refine mld0 S K hs hf dX9_tick_155 (fun x12 hf => ?_)
        refine lv_iconst S.1 S.2.1 dX9_tick_156 k_iconst_1 ?_
        refine lv_iadd S.1 S.2.1 dX9_tick_157 ?_
        refine mst0 S K hs hf dX9_tick_158 (fun σ13 H locs hs hf => ?_)
        refine lv_aload_n S.1 S.2.1 dX9_tick_159 rfl (lv_at hl 1 rfl) ?_
        refine mg7 S K hs dX9_tick_160 ?_
        refine lv_bipush S.1 S.2.1 dX9_tick_163 k_bipush_8 ?_
        refine lv_dup2_11 S.1 S.2.1 dX9_tick_165 rfl rfl ?_
        refine mld0 S K hs hf dX9_tick_166 (fun x14 hf => ?_)
        refine lv_iconst S.1 S.2.1 dX9_tick_167 k_iconst_1 ?_
        refine lv_iadd S.1 S.2.1 dX9_tick_168 ?_
        refine mst0 S K hs hf dX9_tick_169 (fun σ15 H locs hs hf => ?_)
        refine lv_iinc (v := y3 + nI 1) (lv' := [(3, .int (y3 + nI 1)), (7, .int x7), (0, .ref h), (1, .int y1), (2, .int y2), (4, .int y4), (5, .int y5), (6, .int y6)]) S.1 S.2.1 dX9_tick_170 hl (k := 4) rfl (by rw [k_iconst_1]) (by decide) rfl (fun ls hl => ?_)
        refine lv_goto (tgt := 6) S.1 S.2.1 dX9_tick_173 (by decide) ?_
        exact hC6 _ _ _ _ hf _ _ _ (lv_sub hl [2, 3, 4, 0] rfl) hs
      · exact J98 _ hC6 _ _ _ _ _ _ _ _ hf _ _ _ (lv_sub hl [1, 2, 3, 4, 5, 6, 7, 0] rfl) hs
  have L6 : ∀ (K6 : Int32 → zSt → Option (Int32 × zSt)) (hK6 : ∀ (y2 : Int32) (σ : zSt), K6 y2 σ = some res → mGo p l e rmX9_tick s m args below meth c (MQ below (mQi D cI h ad r0 σ0) args s 0 0 (mA h ad)) D cI h ad 8 σ [(0, .ref h), (2, .int y2)] 176 []) (n : Nat) (y1 : Int32) (y2 : Int32) (y3 : Int32) (σ : zSt), fX9_tick_l6 K6 n y1 y2 y3 σ = some res → mGo p l e rmX9_tick s m args below meth c (MQ below (mQi D cI h ad r0 σ0) args s 0 0 (mA h ad)) D cI h ad 8 σ [(0, .ref h), (1, .int y1), (2, .int y2), (3, .int y3)] 6 [] := by
    intro K6 hK6 n
    induction n with
    | zero =>
      intro y1 y2 y3 σ hf H locs ls hl hs
      rw [fX9_tick_l6] at hf
      cases hf
    | succ n ih =>
      intro y1 y2 y3 σ hf H locs ls hl hs
      rw [fX9_tick_l6] at hf
      refine lv_iload_n S.1 S.2.1 dX9_tick_6 rfl (lv_at hl 3 rfl) ?_
      refine lv_aload_n S.1 S.2.1 dX9_tick_7 rfl (lv_at hl 0 rfl) ?_
      refine mg7 S K hs dX9_tick_8 ?_
      refine lv_iconst S.1 S.2.1 dX9_tick_11 k_iconst_0 ?_
      refine mld0 S K hs hf dX9_tick_12 (fun x1 hf => ?_)
      refine z_icmp_ge (tgt := 176) S hf dX9_tick_13 (by decide) (fun hf => ?_) (fun hf => ?_)
      · exact hK6 _ _ hf _ _ _ (lv_sub hl [0, 2] rfl) hs
      · refine lv_aload_n S.1 S.2.1 dX9_tick_16 rfl (lv_at hl 0 rfl) ?_
        refine mg7 S K hs dX9_tick_17 ?_
        refine lv_iconst S.1 S.2.1 dX9_tick_20 k_iconst_4 ?_
        refine mld0 S K hs hf dX9_tick_21 (fun x2 hf => ?_)
        refine lv_iload_n S.1 S.2.1 dX9_tick_22 rfl (lv_at hl 3 rfl) ?_
        refine lv_iadd S.1 S.2.1 dX9_tick_23 ?_
        refine lv_aload_n S.1 S.2.1 dX9_tick_24 rfl (lv_at hl 0 rfl) ?_
        refine mg7 S K hs dX9_tick_25 ?_
        refine lv_iconst S.1 S.2.1 dX9_tick_28 k_iconst_0 ?_
        refine mld0 S K hs hf dX9_tick_29 (fun x3 hf => ?_)
        refine z_irem S hf dX9_tick_30 (fun x4 hf => ?_)
        refine lv_istore (lv' := [(4, .int x4), (0, .ref h), (1, .int y1), (2, .int y2), (3, .int y3)]) S.1 S.2.1 dX9_tick_31 hl (by decide) rfl (fun ls hl => ?_)
        refine lv_sipush S.1 S.2.1 dX9_tick_33 k_sipush_366 ?_
        refine lv_iconst S.1 S.2.1 dX9_tick_36 k_iconst_3 ?_
        refine lv_iload S.1 S.2.1 dX9_tick_37 (lv_at hl 0 rfl) ?_
        refine lv_imul S.1 S.2.1 dX9_tick_39 ?_
        refine lv_iadd S.1 S.2.1 dX9_tick_40 ?_
        refine lv_istore (lv' := [(5, .int ((nI 366) + ((nI 3) * x4))), (4, .int x4), (0, .ref h), (1, .int y1), (2, .int y2), (3, .int y3)]) S.1 S.2.1 dX9_tick_41 hl (by decide) rfl (fun ls hl => ?_)
        refine lv_aload_n S.1 S.2.1 dX9_tick_43 rfl (lv_at hl 2 rfl) ?_
        refine mg7 S K hs dX9_tick_44 ?_
        refine lv_iload S.1 S.2.1 dX9_tick_47 (lv_at hl 0 rfl) ?_
        refine mld0 S K hs hf dX9_tick_49 (fun x5 hf => ?_)
        refine lv_istore (lv' := [(6, .int x5), (5, .int ((nI 366) + ((nI 3) * x4))), (4, .int x4), (0, .ref h), (1, .int y1), (2, .int y2), (3, .int y3)]) S.1 S.2.1 dX9_tick_50 hl (by decide) rfl (fun ls hl => ?_)
        refine lv_iload S.1 S.2.1 dX9_tick_52 (lv_at hl 0 rfl) ?_
        refine z_if_lt (tgt := 170) S hf dX9_tick_54 (by decide) (fun hf => ?_) (fun hf => ?_)
        · refine lv_iinc (v := y3 + nI 1) (lv' := [(3, .int (y3 + nI 1)), (6, .int x5), (5, .int ((nI 366) + ((nI 3) * x4))), (4, .int x4), (0, .ref h), (1, .int y1), (2, .int y2)]) S.1 S.2.1 dX9_tick_170 hl (k := 6) rfl (by rw [k_iconst_1]) (by decide) rfl (fun ls hl => ?_)
          refine lv_goto (tgt := 6) S.1 S.2.1 dX9_tick_173 (by decide) ?_
          exact ih _ _ _ _ hf _ _ _ (lv_sub hl [4, 5, 6, 0] rfl) hs
        · refine lv_aload_n S.1 S.2.1 dX9_tick_57 rfl (lv_at hl 3 rfl) ?_
          refine lv_iload S.1 S.2.1 dX9_tick_58 (lv_at hl 2 rfl) ?_
          refine lv_iload S.1 S.2.1 dX9_tick_60 (lv_at hl 0 rfl) ?_
          refine lv_aload_n S.1 S.2.1 dX9_tick_62 rfl (lv_at hl 3 rfl) ?_
          refine mg7 S K hs dX9_tick_63 ?_
          refine lv_iload S.1 S.2.1 dX9_tick_66 (lv_at hl 1 rfl) ?_
          refine lv_iconst S.1 S.2.1 dX9_tick_68 k_iconst_1 ?_
          refine lv_iadd S.1 S.2.1 dX9_tick_69 ?_
          refine mld0 S K hs hf dX9_tick_70 (fun x6 hf => ?_)
          refine z_if_lt (tgt := 78) S hf dX9_tick_71 (by decide) (fun hf => ?_) (fun hf => ?_)
          · refine lv_iconst S.1 S.2.1 dX9_tick_78 k_iconst_0 ?_
            exact J79 _ ih _ _ _ _ _ _ _ _ _ _ hf _ _ _ (lv_sub hl [3, 4, 5, 6, 2, 1, 0] rfl) hs
          · refine lv_iconst S.1 S.2.1 dX9_tick_74 k_iconst_1 ?_
            refine lv_goto (tgt := 79) S.1 S.2.1 dX9_tick_75 (by decide) ?_
            exact J79 _ ih _ _ _ _ _ _ _ _ _ _ hf _ _ _ (lv_sub hl [3, 4, 5, 6, 2, 1, 0] rfl) hs
  unfold fX9_tick at hf
  refine lv_iconst S.1 S.2.1 dX9_tick_0 k_iconst_0 ?_
  refine lv_istore_n (lv' := [(1, .int (nI 0)), (0, .ref h)]) S.1 S.2.1 dX9_tick_1 rfl hl (by decide) rfl (fun ls hl => ?_)
  refine lv_iconst S.1 S.2.1 dX9_tick_2 k_iconst_0 ?_
  refine lv_istore_n (lv' := [(2, .int (nI 0)), (1, .int (nI 0)), (0, .ref h)]) S.1 S.2.1 dX9_tick_3 rfl hl (by decide) rfl (fun ls hl => ?_)
  refine lv_iconst S.1 S.2.1 dX9_tick_4 k_iconst_0 ?_
  refine lv_istore_n (lv' := [(3, .int (nI 0)), (2, .int (nI 0)), (1, .int (nI 0)), (0, .ref h)]) S.1 S.2.1 dX9_tick_5 rfl hl (by decide) rfl (fun ls hl => ?_)
  refine L6 _ (fun x16 σ17 hf H locs ls hl hs => ?_) _ _ _ _ _ hf _ _ _ (lv_sub hl [3, 2, 1, 0] rfl) hs
  refine lv_aload_n S.1 S.2.1 dX9_tick_176 rfl (lv_at hl 0 rfl) ?_
  refine mg7 S K hs dX9_tick_177 ?_
  refine lv_iconst S.1 S.2.1 dX9_tick_180 k_iconst_4 ?_
  refine lv_dup2_11 S.1 S.2.1 dX9_tick_181 rfl rfl ?_
  refine mld0 S K hs hf dX9_tick_182 (fun x18 hf => ?_)
  refine lv_iconst S.1 S.2.1 dX9_tick_183 k_iconst_1 ?_
  refine lv_iadd S.1 S.2.1 dX9_tick_184 ?_
  refine mst0 S K hs hf dX9_tick_185 (fun σ19 H locs hs hf => ?_)
  refine lv_iload_n S.1 S.2.1 dX9_tick_186 rfl (lv_at hl 1 rfl) ?_
  exact mrI S K hr hk hs (hf.trans (congrArg some hres)) dX9_tick_187
theorem metX9_tick (l : Launch) (D : va_G) (cI : ClassId) (h : Nat) (ad : Nat → Nat) (σ : zSt) (r0 : Int32) (σ0 : zSt) (hf : fX9_tick σ = some (r0, σ0)) : Met l yX9_tick (Cond.code yX9_tick cX9_tick 8 (some .int) :: WA) rmX9_tick (mPc D cI h ad σ [.ref h]) ((mQi D cI h ad r0 σ0)) 0 0 (mA h ad) :=
  mMet (by decide) (Nat.le_of_ble_eq_true rfl) (fun p e s m args below meth c H locs ls S K hr hk hl hs => bdX9_tick S K hr hk  _ _ _ hf hl hs)
set_option maxHeartbeats 4000000 in
set_option maxRecDepth 100000 in
theorem bdX9_ticks {p : Program} {l : Launch} {e : Env} {s : State} {m : MethodId} {args : Array Value} {below : List Frame} {meth : Method} {c : Code} {H : Heap} {locs : List Loc} {ls : Array Slot} {D : va_G} {cI : ClassId} {h : Nat} {ad : Nat → Nat} (S : CallFix p m c cX9_ticks 4 s args WA RX9) (K : va_K D vwCl [(cI, .int)] s) (hr : meth.sig.returnType = (some .int)) (hk : meth.locks = false) (a0 : Int32) (σ : zSt) (r0 : Int32) (σ0 : zSt) (hf : fX9_ticks a0 σ = some (r0, σ0)) (hl : lv_has ls 4 [(0, .ref h), (1, .int a0)]) (hs : mS D cI h ad s σ H locs) : W p l e rmX9_ticks s m args below meth c H locs 0 0 (MQ below (mQi D cI h ad r0 σ0) args s 0 0 (mA h ad)) (F0 m 0 ls []) := by
  obtain ⟨res, hres⟩ : ∃ q, q = (r0, σ0) := ⟨_, rfl⟩
  rw [← hres] at hf
  have L4 : ∀ (K4 : Int32 → zSt → Option (Int32 × zSt)) (hK4 : ∀ (y2 : Int32) (σ : zSt), K4 y2 σ = some res → mGo p l e rmX9_ticks s m args below meth c (MQ below (mQi D cI h ad r0 σ0) args s 0 0 (mA h ad)) D cI h ad 4 σ [(0, .ref h), (2, .int y2)] 22 []) (n : Nat) (y1 : Int32) (y2 : Int32) (y3 : Int32) (σ : zSt), fX9_ticks_l4 K4 n y1 y2 y3 σ = some res → mGo p l e rmX9_ticks s m args below meth c (MQ below (mQi D cI h ad r0 σ0) args s 0 0 (mA h ad)) D cI h ad 4 σ [(0, .ref h), (1, .int y1), (2, .int y2), (3, .int y3)] 4 [] := by
    intro K4 hK4 n
    induction n with
    | zero =>
      intro y1 y2 y3 σ hf H locs ls hl hs
      rw [fX9_ticks_l4] at hf
      cases hf
    | succ n ih =>
      intro y1 y2 y3 σ hf H locs ls hl hs
      rw [fX9_ticks_l4] at hf
      refine lv_iload_n S.1 S.2.1 dX9_ticks_4 rfl (lv_at hl 3 rfl) ?_
      refine lv_iload_n S.1 S.2.1 dX9_ticks_5 rfl (lv_at hl 1 rfl) ?_
      refine z_icmp_ge (tgt := 22) S hf dX9_ticks_6 (by decide) (fun hf => ?_) (fun hf => ?_)
      · exact hK4 _ _ hf _ _ _ (lv_sub hl [0, 2] rfl) hs
      · refine lv_iload_n S.1 S.2.1 dX9_ticks_9 rfl (lv_at hl 2 rfl) ?_
        refine lv_aload_n S.1 S.2.1 dX9_ticks_10 rfl (lv_at hl 0 rfl) ?_
        refine mcV S K hs hl.1 hf (fun _ _ hX => metX9_tick _ _ _ _ _ _ _ _ hX) (cwX9_92 S.2.2.2.2 ⟨Nat.le_of_ble_eq_true rfl, Nat.le_of_ble_eq_true rfl⟩) rfl dX9_ticks_11 rfl (Nat.le_of_ble_eq_true rfl) ⟨Nat.le_refl _, Nat.le_refl _⟩ (fun x1 σ2 H locs hs hf => ?_)
        refine lv_iadd S.1 S.2.1 dX9_ticks_14 ?_
        refine lv_istore_n (lv' := [(2, .int (y2 + x1)), (0, .ref h), (1, .int y1), (3, .int y3)]) S.1 S.2.1 dX9_ticks_15 rfl hl (by decide) rfl (fun ls hl => ?_)
        refine lv_iinc (v := y3 + nI 1) (lv' := [(3, .int (y3 + nI 1)), (2, .int (y2 + x1)), (0, .ref h), (1, .int y1)]) S.1 S.2.1 dX9_ticks_16 hl (k := 3) rfl (by rw [k_iconst_1]) (by decide) rfl (fun ls hl => ?_)
        refine lv_goto (tgt := 4) S.1 S.2.1 dX9_ticks_19 (by decide) ?_
        exact ih _ _ _ _ hf _ _ _ (lv_sub hl [2, 3, 1, 0] rfl) hs
  unfold fX9_ticks at hf
  refine lv_iconst S.1 S.2.1 dX9_ticks_0 k_iconst_0 ?_
  refine lv_istore_n (lv' := [(2, .int (nI 0)), (0, .ref h), (1, .int a0)]) S.1 S.2.1 dX9_ticks_1 rfl hl (by decide) rfl (fun ls hl => ?_)
  refine lv_iconst S.1 S.2.1 dX9_ticks_2 k_iconst_0 ?_
  refine lv_istore_n (lv' := [(3, .int (nI 0)), (2, .int (nI 0)), (0, .ref h), (1, .int a0)]) S.1 S.2.1 dX9_ticks_3 rfl hl (by decide) rfl (fun ls hl => ?_)
  refine L4 _ (fun x3 σ4 hf H locs ls hl hs => ?_) _ _ _ _ _ hf _ _ _ (lv_sub hl [2, 3, 1, 0] rfl) hs
  refine lv_iload_n S.1 S.2.1 dX9_ticks_22 rfl (lv_at hl 1 rfl) ?_
  exact mrI S K hr hk hs (hf.trans (congrArg some hres)) dX9_ticks_23
theorem metX9_ticks (l : Launch) (D : va_G) (cI : ClassId) (h : Nat) (ad : Nat → Nat) (a0 : Int32) (σ : zSt) (r0 : Int32) (σ0 : zSt) (hf : fX9_ticks a0 σ = some (r0, σ0)) : Met l yX9_ticks (Cond.code yX9_ticks cX9_ticks 4 (some .int) :: WA) rmX9_ticks (mPc D cI h ad σ [.ref h, .int a0]) ((mQi D cI h ad r0 σ0)) 0 0 (mA h ad) :=
  mMet (by decide) (Nat.le_of_ble_eq_true rfl) (fun p e s m args below meth c H locs ls S K hr hk hl hs => bdX9_ticks S K hr hk _ _ _ _ hf hl hs)
set_option maxHeartbeats 4000000 in
set_option maxRecDepth 100000 in
theorem bdX9_isCache {p : Program} {l : Launch} {e : Env} {s : State} {m : MethodId} {args : Array Value} {below : List Frame} {meth : Method} {c : Code} {H : Heap} {locs : List Loc} {ls : Array Slot} {D : va_G} {cI : ClassId} {h : Nat} {ad : Nat → Nat} (S : CallFix p m c cX9_isCache 2 s args WA RX9) (K : va_K D vwCl [(cI, .int)] s) (hr : meth.sig.returnType = (some .boolean)) (hk : meth.locks = false) (a0 : Int32) (σ : zSt) (r0 : Int32) (hf : fX9_isCache a0 σ = some r0) (hl : lv_has ls 2 [(0, .ref h), (1, .int a0)]) (hs : mS D cI h ad s σ H locs) : W p l e rmX9_isCache s m args below meth c H locs 0 0 (MQ below (mQi D cI h ad r0 σ) args s 0 0 (mA h ad)) (F0 m 0 ls []) := by
  unfold fX9_isCache at hf
  refine lv_iload_n S.1 S.2.1 dX9_isCache_0 rfl (lv_at hl 1 rfl) ?_
  refine lv_iconst S.1 S.2.1 dX9_isCache_1 k_iconst_0 ?_
  refine lv_aload_n S.1 S.2.1 dX9_isCache_2 rfl (lv_at hl 0 rfl) ?_
  refine mg7 S K hs dX9_isCache_3 ?_
  refine lv_iconst S.1 S.2.1 dX9_isCache_6 k_iconst_0 ?_
  refine mld0 S K hs hf dX9_isCache_7 (fun x1 hf => ?_)
  refine lv_iconst S.1 S.2.1 dX9_isCache_8 k_iconst_1 ?_
  refine lv_isub S.1 S.2.1 dX9_isCache_9 ?_
  refine mcT S K hs hl.1 hf (fun _ hX => metX9_in _ _ _ _ _ _ _ _ _ _ hX) (cwX9_36 S.2.2.2.2 ⟨Nat.le_of_ble_eq_true rfl, Nat.le_of_ble_eq_true rfl⟩) rfl dX9_isCache_10 rfl (Nat.le_of_ble_eq_true rfl) ⟨Nat.le_refl _, Nat.le_refl _⟩ (fun x2 H locs hs hf => ?_)
  exact mrB S K hr hk hs hf dX9_isCache_13
theorem metX9_isCache (l : Launch) (D : va_G) (cI : ClassId) (h : Nat) (ad : Nat → Nat) (a0 : Int32) (σ : zSt) (r0 : Int32) (hf : fX9_isCache a0 σ = some r0) : Met l yX9_isCache (Cond.code yX9_isCache cX9_isCache 2 (some .boolean) :: WA) rmX9_isCache (mPc D cI h ad σ [.ref h, .int a0]) ((mQi D cI h ad r0 σ)) 0 0 (mA h ad) :=
  mMet (by decide) (Nat.le_of_ble_eq_true rfl) (fun p e s m args below meth c H locs ls S K hr hk hl hs => bdX9_isCache S K hr hk _ _ _ hf hl hs)
set_option maxHeartbeats 4000000 in
set_option maxRecDepth 100000 in
theorem bdX9_doOrder {p : Program} {l : Launch} {e : Env} {s : State} {m : MethodId} {args : Array Value} {below : List Frame} {meth : Method} {c : Code} {H : Heap} {locs : List Loc} {ls : Array Slot} {D : va_G} {cI : ClassId} {h : Nat} {ad : Nat → Nat} (S : CallFix p m c cX9_doOrder 2 s args WA RX9) (K : va_K D vwCl [(cI, .int)] s) (hr : meth.sig.returnType = (some .boolean)) (hk : meth.locks = false) (σ : zSt) (r0 : Int32) (σ0 : zSt) (hf : fX9_doOrder σ = some (r0, σ0)) (hl : lv_has ls 2 [(0, .ref h)]) (hs : mS D cI h ad s σ H locs) : W p l e rmX9_doOrder s m args below meth c H locs 0 0 (MQ below (mQi D cI h ad r0 σ0) args s 0 0 (mA h ad)) (F0 m 0 ls []) := by
  obtain ⟨res, hres⟩ : ∃ q, q = (r0, σ0) := ⟨_, rfl⟩
  rw [← hres] at hf
  have J86 : ∀ (w0 : Int32) (σ : zSt), fX9_doOrder_j86 w0 σ = some res → mGo p l e rmX9_doOrder s m args below meth c (MQ below (mQi D cI h ad r0 σ0) args s 0 0 (mA h ad)) D cI h ad 2 σ [(0, .ref h)] 86 [.int w0] := by
    intro w0 σ hf H locs ls hl hs
    unfold fX9_doOrder_j86 at hf
    refine lv_istore_n (lv' := [(1, .int w0), (0, .ref h)]) S.1 S.2.1 dX9_doOrder_86 rfl hl (by decide) rfl (fun ls hl => ?_)
    refine lv_iload_n S.1 S.2.1 dX9_doOrder_87 rfl (lv_at hl 0 rfl) ?_
    refine z_if_eq (tgt := 114) S hf dX9_doOrder_88 (by decide) (fun hf => ?_) (fun hf => ?_)
    · refine lv_iload_n S.1 S.2.1 dX9_doOrder_114 rfl (lv_at hl 0 rfl) ?_
      exact mrZ S K hr hk hs (hf.trans (congrArg some hres)) dX9_doOrder_115
    · refine lv_aload_n S.1 S.2.1 dX9_doOrder_91 rfl (lv_at hl 1 rfl) ?_
      refine lv_aload_n S.1 S.2.1 dX9_doOrder_92 rfl (lv_at hl 1 rfl) ?_
      refine mg22 S K hs dX9_doOrder_93 ?_
      refine lv_iconst S.1 S.2.1 dX9_doOrder_96 k_iconst_1 ?_
      refine mld4 S K hs hf dX9_doOrder_97 (fun x4 hf => ?_)
      refine lv_aload_n S.1 S.2.1 dX9_doOrder_98 rfl (lv_at hl 1 rfl) ?_
      refine mg22 S K hs dX9_doOrder_99 ?_
      refine lv_iconst S.1 S.2.1 dX9_doOrder_102 k_iconst_2 ?_
      refine mld4 S K hs hf dX9_doOrder_103 (fun x5 hf => ?_)
      refine lv_aload_n S.1 S.2.1 dX9_doOrder_104 rfl (lv_at hl 1 rfl) ?_
      refine mg22 S K hs dX9_doOrder_105 ?_
      refine lv_iconst S.1 S.2.1 dX9_doOrder_108 k_iconst_3 ?_
      refine mld4 S K hs hf dX9_doOrder_109 (fun x6 hf => ?_)
      refine mcV S K hs hl.1 hf (fun _ _ hX => metX9_asks _ _ _ _ _ _ _ _ _ _ _ hX) (cwX9_111 S.2.2.2.2 ⟨Nat.le_of_ble_eq_true rfl, Nat.le_of_ble_eq_true rfl⟩) rfl dX9_doOrder_110 rfl (Nat.le_of_ble_eq_true rfl) ⟨Nat.le_refl _, Nat.le_refl _⟩ (fun x7 σ8 H locs hs hf => ?_)
      refine lv_pop S.1 S.2.1 dX9_doOrder_113 rfl ?_
      refine lv_iload_n S.1 S.2.1 dX9_doOrder_114 rfl (lv_at hl 0 rfl) ?_
      exact mrZ S K hr hk hs (hf.trans (congrArg some hres)) dX9_doOrder_115
  have J85 : ∀ (σ : zSt), fX9_doOrder_j85 σ = some res → mGo p l e rmX9_doOrder s m args below meth c (MQ below (mQi D cI h ad r0 σ0) args s 0 0 (mA h ad)) D cI h ad 2 σ [(0, .ref h)] 85 [] := by
    intro σ hf H locs ls hl hs
    unfold fX9_doOrder_j85 at hf
    refine lv_iconst S.1 S.2.1 dX9_doOrder_85 k_iconst_0 ?_
    exact J86 _ _ hf _ _ _ (lv_sub hl [0] rfl) hs
  have J49 : ∀ (y1 : Int32) (w0 : Int32) (σ : zSt), fX9_doOrder_j49 y1 w0 σ = some res → mGo p l e rmX9_doOrder s m args below meth c (MQ below (mQi D cI h ad r0 σ0) args s 0 0 (mA h ad)) D cI h ad 2 σ [(0, .ref h), (1, .int y1)] 49 [.int w0, .ref h] := by
    intro y1 w0 σ hf H locs ls hl hs
    unfold fX9_doOrder_j49 at hf
    refine mcV S K hs hl.1 hf (fun _ _ hX => metX9_ticks _ _ _ _ _ _ _ _ _ hX) (cwX9_115 S.2.2.2.2 ⟨Nat.le_of_ble_eq_true rfl, Nat.le_of_ble_eq_true rfl⟩) rfl dX9_doOrder_49 rfl (Nat.le_of_ble_eq_true rfl) ⟨Nat.le_refl _, Nat.le_refl _⟩ (fun x13 σ14 H locs hs hf => ?_)
    refine lv_pop S.1 S.2.1 dX9_doOrder_52 rfl ?_
    refine lv_iload_n S.1 S.2.1 dX9_doOrder_53 rfl (lv_at hl 1 rfl) ?_
    exact mrZ S K hr hk hs (hf.trans (congrArg some hres)) dX9_doOrder_54
  have J33 : ∀ (w0 : Int32) (σ : zSt), fX9_doOrder_j33 w0 σ = some res → mGo p l e rmX9_doOrder s m args below meth c (MQ below (mQi D cI h ad r0 σ0) args s 0 0 (mA h ad)) D cI h ad 2 σ [(0, .ref h)] 33 [.int w0] := by
    intro w0 σ hf H locs ls hl hs
    unfold fX9_doOrder_j33 at hf
    refine lv_istore_n (lv' := [(1, .int w0), (0, .ref h)]) S.1 S.2.1 dX9_doOrder_33 rfl hl (by decide) rfl (fun ls hl => ?_)
    refine lv_aload_n S.1 S.2.1 dX9_doOrder_34 rfl (lv_at hl 1 rfl) ?_
    refine lv_iload_n S.1 S.2.1 dX9_doOrder_35 rfl (lv_at hl 0 rfl) ?_
    refine z_if_eq (tgt := 48) S hf dX9_doOrder_36 (by decide) (fun hf => ?_) (fun hf => ?_)
    · refine lv_iconst S.1 S.2.1 dX9_doOrder_48 k_iconst_0 ?_
      exact J49 _ _ _ hf _ _ _ (lv_sub hl [1, 0] rfl) hs
    · refine lv_aload_n S.1 S.2.1 dX9_doOrder_39 rfl (lv_at hl 1 rfl) ?_
      refine mg22 S K hs dX9_doOrder_40 ?_
      refine lv_iconst S.1 S.2.1 dX9_doOrder_43 k_iconst_3 ?_
      refine mld4 S K hs hf dX9_doOrder_44 (fun x15 hf => ?_)
      refine lv_goto (tgt := 49) S.1 S.2.1 dX9_doOrder_45 (by decide) ?_
      exact J49 _ _ _ hf _ _ _ (lv_sub hl [1, 0] rfl) hs
  unfold fX9_doOrder at hf
  refine lv_aload_n S.1 S.2.1 dX9_doOrder_0 rfl (lv_at hl 0 rfl) ?_
  refine mg22 S K hs dX9_doOrder_1 ?_
  refine lv_iconst S.1 S.2.1 dX9_doOrder_4 k_iconst_0 ?_
  refine mld4 S K hs hf dX9_doOrder_5 (fun x1 hf => ?_)
  refine lv_iconst S.1 S.2.1 dX9_doOrder_6 k_iconst_2 ?_
  refine z_icmp_ne (tgt := 55) S hf dX9_doOrder_7 (by decide) (fun hf => ?_) (fun hf => ?_)
  · refine lv_aload_n S.1 S.2.1 dX9_doOrder_55 rfl (lv_at hl 0 rfl) ?_
    refine lv_aload_n S.1 S.2.1 dX9_doOrder_56 rfl (lv_at hl 0 rfl) ?_
    refine mg22 S K hs dX9_doOrder_57 ?_
    refine lv_iconst S.1 S.2.1 dX9_doOrder_60 k_iconst_1 ?_
    refine mld4 S K hs hf dX9_doOrder_61 (fun x2 hf => ?_)
    refine mcP S K hs hl.1 hf (fun _ hX => metX9_isCache _ _ _ _ _ _ _ _ hX) (cwX9_105 S.2.2.2.2 ⟨Nat.le_of_ble_eq_true rfl, Nat.le_of_ble_eq_true rfl⟩) rfl dX9_doOrder_62 rfl (Nat.le_of_ble_eq_true rfl) ⟨Nat.le_refl _, Nat.le_refl _⟩ (fun x3 H locs hs hf => ?_)
    refine z_if_eq (tgt := 85) S hf dX9_doOrder_65 (by decide) (fun hf => ?_) (fun hf => ?_)
    · exact J85 _ hf _ _ _ (lv_sub hl [0] rfl) hs
    · refine lv_aload_n S.1 S.2.1 dX9_doOrder_68 rfl (lv_at hl 0 rfl) ?_
      refine lv_aload_n S.1 S.2.1 dX9_doOrder_69 rfl (lv_at hl 0 rfl) ?_
      refine mg22 S K hs dX9_doOrder_70 ?_
      refine lv_iconst S.1 S.2.1 dX9_doOrder_73 k_iconst_1 ?_
      refine mld4 S K hs hf dX9_doOrder_74 (fun x9 hf => ?_)
      refine mcP S K hs hl.1 hf (fun _ hX => metX9_isAsking _ _ _ _ _ _ _ _ hX) (cwX9_95 S.2.2.2.2 ⟨Nat.le_of_ble_eq_true rfl, Nat.le_of_ble_eq_true rfl⟩) rfl dX9_doOrder_75 rfl (Nat.le_of_ble_eq_true rfl) ⟨Nat.le_refl _, Nat.le_refl _⟩ (fun x10 H locs hs hf => ?_)
      refine z_if_ne (tgt := 85) S hf dX9_doOrder_78 (by decide) (fun hf => ?_) (fun hf => ?_)
      · exact J85 _ hf _ _ _ (lv_sub hl [0] rfl) hs
      · refine lv_iconst S.1 S.2.1 dX9_doOrder_81 k_iconst_1 ?_
        refine lv_goto (tgt := 86) S.1 S.2.1 dX9_doOrder_82 (by decide) ?_
        exact J86 _ _ hf _ _ _ (lv_sub hl [0] rfl) hs
  · refine lv_aload_n S.1 S.2.1 dX9_doOrder_10 rfl (lv_at hl 0 rfl) ?_
    refine mg7 S K hs dX9_doOrder_11 ?_
    refine lv_iconst S.1 S.2.1 dX9_doOrder_14 k_iconst_4 ?_
    refine mld0 S K hs hf dX9_doOrder_15 (fun x11 hf => ?_)
    refine lv_aload_n S.1 S.2.1 dX9_doOrder_16 rfl (lv_at hl 0 rfl) ?_
    refine mg22 S K hs dX9_doOrder_17 ?_
    refine lv_iconst S.1 S.2.1 dX9_doOrder_20 k_iconst_3 ?_
    refine mld4 S K hs hf dX9_doOrder_21 (fun x12 hf => ?_)
    refine lv_iadd S.1 S.2.1 dX9_doOrder_22 ?_
    refine lv_ldc (v := nI 100000) S.1 S.2.1 S.2.2.2.1 (S.2.2.2.2 _ (z_in0 _ (List.mem_of_getElem? (i := 457) (by decide +kernel)))) dX9_doOrder_23 ?_
    refine z_icmp_gt (tgt := 32) S hf dX9_doOrder_25 (by decide) (fun hf => ?_) (fun hf => ?_)
    · refine lv_iconst S.1 S.2.1 dX9_doOrder_32 k_iconst_0 ?_
      exact J33 _ _ hf _ _ _ (lv_sub hl [0] rfl) hs
    · refine lv_iconst S.1 S.2.1 dX9_doOrder_28 k_iconst_1 ?_
      refine lv_goto (tgt := 33) S.1 S.2.1 dX9_doOrder_29 (by decide) ?_
      exact J33 _ _ hf _ _ _ (lv_sub hl [0] rfl) hs
theorem metX9_doOrder (l : Launch) (D : va_G) (cI : ClassId) (h : Nat) (ad : Nat → Nat) (σ : zSt) (r0 : Int32) (σ0 : zSt) (hf : fX9_doOrder σ = some (r0, σ0)) : Met l yX9_doOrder (Cond.code yX9_doOrder cX9_doOrder 2 (some .boolean) :: WA) rmX9_doOrder (mPc D cI h ad σ [.ref h]) ((mQi D cI h ad r0 σ0)) 0 0 (mA h ad) :=
  mMet (by decide) (Nat.le_of_ble_eq_true rfl) (fun p e s m args below meth c H locs ls S K hr hk hl hs => bdX9_doOrder S K hr hk  _ _ _ hf hl hs)
set_option maxHeartbeats 4000000 in
set_option maxRecDepth 100000 in
theorem bdX9_carryOut {p : Program} {l : Launch} {e : Env} {s : State} {m : MethodId} {args : Array Value} {below : List Frame} {meth : Method} {c : Code} {H : Heap} {locs : List Loc} {ls : Array Slot} {D : va_G} {cI : ClassId} {h : Nat} {ad : Nat → Nat} (S : CallFix p m c cX9_carryOut 3 s args WA RX9) (K : va_K D vwCl [(cI, .int)] s) (hr : meth.sig.returnType = (some .int)) (hk : meth.locks = false) (σ : zSt) (r0 : Int32) (σ0 : zSt) (hf : fX9_carryOut σ = some (r0, σ0)) (hl : lv_has ls 3 [(0, .ref h)]) (hs : mS D cI h ad s σ H locs) : W p l e rmX9_carryOut s m args below meth c H locs 0 0 (MQ below (mQi D cI h ad r0 σ0) args s 0 0 (mA h ad)) (F0 m 0 ls []) := by
  obtain ⟨res, hres⟩ : ∃ q, q = (r0, σ0) := ⟨_, rfl⟩
  rw [← hres] at hf
  have L12 : ∀ (K12 : Int32 → zSt → Option (Int32 × zSt)) (hK12 : ∀ (y1 : Int32) (σ : zSt), K12 y1 σ = some res → mGo p l e rmX9_carryOut s m args below meth c (MQ below (mQi D cI h ad r0 σ0) args s 0 0 (mA h ad)) D cI h ad 3 σ [(0, .ref h), (1, .int y1)] 35 []) (n : Nat) (y1 : Int32) (σ : zSt), fX9_carryOut_l12 K12 n y1 σ = some res → mGo p l e rmX9_carryOut s m args below meth c (MQ below (mQi D cI h ad r0 σ0) args s 0 0 (mA h ad)) D cI h ad 3 σ [(0, .ref h), (1, .int y1)] 12 [] := by
    intro K12 hK12 n
    induction n with
    | zero =>
      intro y1 σ hf H locs ls hl hs
      rw [fX9_carryOut_l12] at hf
      cases hf
    | succ n ih =>
      intro y1 σ hf H locs ls hl hs
      rw [fX9_carryOut_l12] at hf
      refine lv_iload_n S.1 S.2.1 dX9_carryOut_12 rfl (lv_at hl 1 rfl) ?_
      refine z_if_eq (tgt := 35) S hf dX9_carryOut_13 (by decide) (fun hf => ?_) (fun hf => ?_)
      · exact hK12 _ _ hf _ _ _ (lv_sub hl [0, 1] rfl) hs
      · refine lv_aload_n S.1 S.2.1 dX9_carryOut_16 rfl (lv_at hl 0 rfl) ?_
        refine mg148 S K hs dX9_carryOut_17 ?_
        refine lv_aload_n S.1 S.2.1 dX9_carryOut_20 rfl (lv_at hl 0 rfl) ?_
        refine mg145 S K hs dX9_carryOut_21 ?_
        refine z_icmp_ge (tgt := 35) S hf dX9_carryOut_24 (by decide) (fun hf => ?_) (fun hf => ?_)
        · exact hK12 _ _ hf _ _ _ (lv_sub hl [0, 1] rfl) hs
        · refine lv_aload_n S.1 S.2.1 dX9_carryOut_27 rfl (lv_at hl 0 rfl) ?_
          refine mcV S K hs hl.1 hf (fun _ _ hX => metX9_readOrder _ _ _ _ _ _ _ _ hX) (cwX9_161 S.2.2.2.2 ⟨Nat.le_of_ble_eq_true rfl, Nat.le_of_ble_eq_true rfl⟩) rfl dX9_carryOut_28 rfl (Nat.le_of_ble_eq_true rfl) ⟨Nat.le_refl _, Nat.le_refl _⟩ (fun x3 σ4 H locs hs hf => ?_)
          refine lv_istore_n (lv' := [(1, .int x3), (0, .ref h)]) S.1 S.2.1 dX9_carryOut_31 rfl hl (by decide) rfl (fun ls hl => ?_)
          refine lv_goto (tgt := 12) S.1 S.2.1 dX9_carryOut_32 (by decide) ?_
          exact ih _ _ hf _ _ _ (lv_sub hl [1, 0] rfl) hs
  have J93 : ∀ (C58 : Int32 → Int32 → zSt → Option (Int32 × zSt)) (hC58 : ∀ (y1 : Int32) (y2 : Int32) (σ : zSt), C58 y1 y2 σ = some res → mGo p l e rmX9_carryOut s m args below meth c (MQ below (mQi D cI h ad r0 σ0) args s 0 0 (mA h ad)) D cI h ad 3 σ [(0, .ref h), (1, .int y1), (2, .int y2)] 58 []) (y1 : Int32) (w0 : Int32) (w1 : Int32) (σ : zSt), fX9_carryOut_j93 C58 y1 w0 w1 σ = some res → mGo p l e rmX9_carryOut s m args below meth c (MQ below (mQi D cI h ad r0 σ0) args s 0 0 (mA h ad)) D cI h ad 3 σ [(0, .ref h), (1, .int y1)] 93 [.int w0, .int w1] := by
    intro C58 hC58 y1 w0 w1 σ hf H locs ls hl hs
    unfold fX9_carryOut_j93 at hf
    refine lv_iadd S.1 S.2.1 dX9_carryOut_93 ?_
    refine lv_istore_n (lv' := [(2, .int (w1 + w0)), (0, .ref h), (1, .int y1)]) S.1 S.2.1 dX9_carryOut_94 rfl hl (by decide) rfl (fun ls hl => ?_)
    refine lv_goto (tgt := 58) S.1 S.2.1 dX9_carryOut_95 (by decide) ?_
    exact hC58 _ _ _ hf _ _ _ (lv_sub hl [1, 2, 0] rfl) hs
  have L58 : ∀ (K58 : Int32 → zSt → Option (Int32 × zSt)) (hK58 : ∀ (y2 : Int32) (σ : zSt), K58 y2 σ = some res → mGo p l e rmX9_carryOut s m args below meth c (MQ below (mQi D cI h ad r0 σ0) args s 0 0 (mA h ad)) D cI h ad 3 σ [(0, .ref h), (2, .int y2)] 98 []) (n : Nat) (y1 : Int32) (y2 : Int32) (σ : zSt), fX9_carryOut_l58 K58 n y1 y2 σ = some res → mGo p l e rmX9_carryOut s m args below meth c (MQ below (mQi D cI h ad r0 σ0) args s 0 0 (mA h ad)) D cI h ad 3 σ [(0, .ref h), (1, .int y1), (2, .int y2)] 58 [] := by
    intro K58 hK58 n
    induction n with
    | zero =>
      intro y1 y2 σ hf H locs ls hl hs
      rw [fX9_carryOut_l58] at hf
      cases hf
    | succ n ih =>
      intro y1 y2 σ hf H locs ls hl hs
      rw [fX9_carryOut_l58] at hf
      refine lv_iload_n S.1 S.2.1 dX9_carryOut_58 rfl (lv_at hl 1 rfl) ?_
      refine z_if_eq (tgt := 98) S hf dX9_carryOut_59 (by decide) (fun hf => ?_) (fun hf => ?_)
      · exact hK58 _ _ hf _ _ _ (lv_sub hl [0, 2] rfl) hs
      · refine lv_aload_n S.1 S.2.1 dX9_carryOut_62 rfl (lv_at hl 0 rfl) ?_
        refine mg148 S K hs dX9_carryOut_63 ?_
        refine lv_aload_n S.1 S.2.1 dX9_carryOut_66 rfl (lv_at hl 0 rfl) ?_
        refine mg145 S K hs dX9_carryOut_67 ?_
        refine z_icmp_ge (tgt := 98) S hf dX9_carryOut_70 (by decide) (fun hf => ?_) (fun hf => ?_)
        · exact hK58 _ _ hf _ _ _ (lv_sub hl [0, 2] rfl) hs
        · refine lv_aload_n S.1 S.2.1 dX9_carryOut_73 rfl (lv_at hl 0 rfl) ?_
          refine mcV S K hs hl.1 hf (fun _ _ hX => metX9_readOrder _ _ _ _ _ _ _ _ hX) (cwX9_161 S.2.2.2.2 ⟨Nat.le_of_ble_eq_true rfl, Nat.le_of_ble_eq_true rfl⟩) rfl dX9_carryOut_74 rfl (Nat.le_of_ble_eq_true rfl) ⟨Nat.le_refl _, Nat.le_refl _⟩ (fun x9 σ10 H locs hs hf => ?_)
          refine lv_pop S.1 S.2.1 dX9_carryOut_77 rfl ?_
          refine lv_aload_n S.1 S.2.1 dX9_carryOut_78 rfl (lv_at hl 0 rfl) ?_
          refine mcV S K hs hl.1 hf (fun _ _ hX => metX9_doOrder _ _ _ _ _ _ _ _ hX) (cwX9_165 S.2.2.2.2 ⟨Nat.le_of_ble_eq_true rfl, Nat.le_of_ble_eq_true rfl⟩) rfl dX9_carryOut_79 rfl (Nat.le_of_ble_eq_true rfl) ⟨Nat.le_refl _, Nat.le_refl _⟩ (fun x11 σ12 H locs hs hf => ?_)
          refine lv_istore_n (lv' := [(1, .int x11), (0, .ref h), (2, .int y2)]) S.1 S.2.1 dX9_carryOut_82 rfl hl (by decide) rfl (fun ls hl => ?_)
          refine lv_iload_n S.1 S.2.1 dX9_carryOut_83 rfl (lv_at hl 2 rfl) ?_
          refine lv_iload_n S.1 S.2.1 dX9_carryOut_84 rfl (lv_at hl 0 rfl) ?_
          refine z_if_eq (tgt := 92) S hf dX9_carryOut_85 (by decide) (fun hf => ?_) (fun hf => ?_)
          · refine lv_iconst S.1 S.2.1 dX9_carryOut_92 k_iconst_0 ?_
            exact J93 _ ih _ _ _ _ hf _ _ _ (lv_sub hl [1, 0] rfl) hs
          · refine lv_iconst S.1 S.2.1 dX9_carryOut_88 k_iconst_1 ?_
            refine lv_goto (tgt := 93) S.1 S.2.1 dX9_carryOut_89 (by decide) ?_
            exact J93 _ ih _ _ _ _ hf _ _ _ (lv_sub hl [1, 0] rfl) hs
  unfold fX9_carryOut at hf
  refine lv_aload_n S.1 S.2.1 dX9_carryOut_0 rfl (lv_at hl 0 rfl) ?_
  refine lv_iconst S.1 S.2.1 dX9_carryOut_1 k_iconst_0 ?_
  refine mp29 S K hs hf dX9_carryOut_2 (fun σ1 H locs hs hf => ?_)
  refine lv_aload_n S.1 S.2.1 dX9_carryOut_5 rfl (lv_at hl 0 rfl) ?_
  refine lv_iconst S.1 S.2.1 dX9_carryOut_6 k_iconst_0 ?_
  refine mp148 S K hs hf dX9_carryOut_7 (fun σ2 H locs hs hf => ?_)
  refine lv_iconst S.1 S.2.1 dX9_carryOut_10 k_iconst_1 ?_
  refine lv_istore_n (lv' := [(1, .int (nI 1)), (0, .ref h)]) S.1 S.2.1 dX9_carryOut_11 rfl hl (by decide) rfl (fun ls hl => ?_)
  refine L12 _ (fun x5 σ6 hf H locs ls hl hs => ?_) _ _ _ hf _ _ _ (lv_sub hl [1, 0] rfl) hs
  refine lv_iload_n S.1 S.2.1 dX9_carryOut_35 rfl (lv_at hl 1 rfl) ?_
  refine z_if_ne (tgt := 47) S hf dX9_carryOut_36 (by decide) (fun hf => ?_) (fun hf => ?_)
  · refine lv_aload_n S.1 S.2.1 dX9_carryOut_47 rfl (lv_at hl 0 rfl) ?_
    refine mcU S K hs hl.1 hf (fun _ hX => metX9_save _ _ _ _ _ _ _ hX) (cwX9_102 S.2.2.2.2 ⟨Nat.le_of_ble_eq_true rfl, Nat.le_of_ble_eq_true rfl⟩) rfl dX9_carryOut_48 rfl (Nat.le_of_ble_eq_true rfl) ⟨Nat.le_refl _, Nat.le_refl _⟩ (fun σ7 H locs hs hf => ?_)
    refine lv_aload_n S.1 S.2.1 dX9_carryOut_51 rfl (lv_at hl 0 rfl) ?_
    refine lv_iconst S.1 S.2.1 dX9_carryOut_52 k_iconst_0 ?_
    refine mp148 S K hs hf dX9_carryOut_53 (fun σ8 H locs hs hf => ?_)
    refine lv_iconst S.1 S.2.1 dX9_carryOut_56 k_iconst_0 ?_
    refine lv_istore_n (lv' := [(2, .int (nI 0)), (0, .ref h), (1, .int x5)]) S.1 S.2.1 dX9_carryOut_57 rfl hl (by decide) rfl (fun ls hl => ?_)
    refine L58 _ (fun x13 σ14 hf H locs ls hl hs => ?_) _ _ _ _ hf _ _ _ (lv_sub hl [1, 2, 0] rfl) hs
    refine lv_iload_n S.1 S.2.1 dX9_carryOut_98 rfl (lv_at hl 1 rfl) ?_
    exact mrI S K hr hk hs (hf.trans (congrArg some hres)) dX9_carryOut_99
  · refine lv_bipush S.1 S.2.1 dX9_carryOut_39 k_bipush_m10 ?_
    refine lv_aload_n S.1 S.2.1 dX9_carryOut_41 rfl (lv_at hl 0 rfl) ?_
    refine mg148 S K hs dX9_carryOut_42 ?_
    refine lv_isub S.1 S.2.1 dX9_carryOut_45 ?_
    exact mrI S K hr hk hs (hf.trans (congrArg some hres)) dX9_carryOut_46
theorem metX9_carryOut (l : Launch) (D : va_G) (cI : ClassId) (h : Nat) (ad : Nat → Nat) (σ : zSt) (r0 : Int32) (σ0 : zSt) (hf : fX9_carryOut σ = some (r0, σ0)) : Met l yX9_carryOut (Cond.code yX9_carryOut cX9_carryOut 3 (some .int) :: WA) rmX9_carryOut (mPc D cI h ad σ [.ref h]) ((mQi D cI h ad r0 σ0)) 0 0 (mA h ad) :=
  mMet (by decide) (Nat.le_of_ble_eq_true rfl) (fun p e s m args below meth c H locs ls S K hr hk hl hs => bdX9_carryOut S K hr hk  _ _ _ hf hl hs)
set_option maxHeartbeats 4000000 in
set_option maxRecDepth 100000 in
theorem bdX9_isLine {p : Program} {l : Launch} {e : Env} {s : State} {m : MethodId} {args : Array Value} {below : List Frame} {meth : Method} {c : Code} {H : Heap} {locs : List Loc} {ls : Array Slot} {D : va_G} {cI : ClassId} {h : Nat} {ad : Nat → Nat} (S : CallFix p m c cX9_isLine 1 s args WA RX9) (K : va_K D vwCl [(cI, .int)] s) (hr : meth.sig.returnType = (some .boolean)) (hk : meth.locks = false) (a0 : Int32) (σ : zSt) (r0 : Int32) (hf : fX9_isLine a0 σ = some r0) (hl : lv_has ls 1 [(0, .int a0)]) (hs : mS D cI h ad s σ H locs) : W p l e rmX9_isLine s m args below meth c H locs 0 0 (MQ below (mQi D cI h ad r0 σ) args s 0 0 (mA h ad)) (F0 m 0 ls []) := by
  unfold fX9_isLine at hf
  refine lv_iload_n S.1 S.2.1 dX9_isLine_0 rfl (lv_at hl 0 rfl) ?_
  refine lv_iconst S.1 S.2.1 dX9_isLine_1 k_iconst_0 ?_
  refine lv_bipush S.1 S.2.1 dX9_isLine_2 k_bipush_31 ?_
  refine mcT S K hs hl.1 hf (fun _ hX => metX9_in _ _ _ _ _ _ _ _ _ _ hX) (cwX9_36 S.2.2.2.2 ⟨Nat.le_of_ble_eq_true rfl, Nat.le_of_ble_eq_true rfl⟩) rfl dX9_isLine_4 rfl (Nat.le_of_ble_eq_true rfl) ⟨Nat.le_refl _, Nat.le_refl _⟩ (fun x1 H locs hs hf => ?_)
  exact mrB S K hr hk hs hf dX9_isLine_7
theorem metX9_isLine (l : Launch) (D : va_G) (cI : ClassId) (h : Nat) (ad : Nat → Nat) (a0 : Int32) (σ : zSt) (r0 : Int32) (hf : fX9_isLine a0 σ = some r0) : Met l yX9_isLine (Cond.code yX9_isLine cX9_isLine 1 (some .boolean) :: WA) rmX9_isLine (mPc D cI h ad σ [.int a0]) ((mQi D cI h ad r0 σ)) 0 0 (mA h ad) :=
  mMet (by decide) (Nat.le_of_ble_eq_true rfl) (fun p e s m args below meth c H locs ls S K hr hk hl hs => bdX9_isLine S K hr hk _ _ _ hf hl hs)
set_option maxHeartbeats 4000000 in
set_option maxRecDepth 100000 in
theorem bdX9_keep {p : Program} {l : Launch} {e : Env} {s : State} {m : MethodId} {args : Array Value} {below : List Frame} {meth : Method} {c : Code} {H : Heap} {locs : List Loc} {ls : Array Slot} {D : va_G} {cI : ClassId} {h : Nat} {ad : Nat → Nat} (S : CallFix p m c cX9_keep 2 s args WA RX9) (K : va_K D vwCl [(cI, .int)] s) (hr : meth.sig.returnType = none) (hk : meth.locks = false) (σ : zSt) (σ0 : zSt) (hf : fX9_keep σ = some σ0) (hl : lv_has ls 2 [(0, .ref h)]) (hs : mS D cI h ad s σ H locs) : W p l e rmX9_keep s m args below meth c H locs 0 0 (MQ below (mQv D cI h ad σ0) args s 0 0 (mA h ad)) (F0 m 0 ls []) := by
  obtain ⟨res, hres⟩ : ∃ q, q = σ0 := ⟨_, rfl⟩
  rw [← hres] at hf
  have L2 : ∀ (K2 : zSt → Option (zSt)) (hK2 : ∀ (σ : zSt), K2 σ = some res → mGo p l e rmX9_keep s m args below meth c (MQ below (mQv D cI h ad σ0) args s 0 0 (mA h ad)) D cI h ad 2 σ [(0, .ref h)] 27 []) (n : Nat) (y1 : Int32) (σ : zSt), fX9_keep_l2 K2 n y1 σ = some res → mGo p l e rmX9_keep s m args below meth c (MQ below (mQv D cI h ad σ0) args s 0 0 (mA h ad)) D cI h ad 2 σ [(0, .ref h), (1, .int y1)] 2 [] := by
    intro K2 hK2 n
    induction n with
    | zero =>
      intro y1 σ hf H locs ls hl hs
      rw [fX9_keep_l2] at hf
      cases hf
    | succ n ih =>
      intro y1 σ hf H locs ls hl hs
      rw [fX9_keep_l2] at hf
      refine lv_iload_n S.1 S.2.1 dX9_keep_2 rfl (lv_at hl 1 rfl) ?_
      refine lv_sipush S.1 S.2.1 dX9_keep_3 k_sipush_456 ?_
      refine z_icmp_ge (tgt := 27) S hf dX9_keep_6 (by decide) (fun hf => ?_) (fun hf => ?_)
      · exact hK2 _ hf _ _ _ (lv_sub hl [0] rfl) hs
      · refine lv_aload_n S.1 S.2.1 dX9_keep_9 rfl (lv_at hl 0 rfl) ?_
        refine mg13 S K hs dX9_keep_10 ?_
        refine lv_iload_n S.1 S.2.1 dX9_keep_13 rfl (lv_at hl 1 rfl) ?_
        refine lv_aload_n S.1 S.2.1 dX9_keep_14 rfl (lv_at hl 0 rfl) ?_
        refine mg7 S K hs dX9_keep_15 ?_
        refine lv_iload_n S.1 S.2.1 dX9_keep_18 rfl (lv_at hl 1 rfl) ?_
        refine mld0 S K hs hf dX9_keep_19 (fun x1 hf => ?_)
        refine mst1 S K hs hf dX9_keep_20 (fun σ2 H locs hs hf => ?_)
        refine lv_iinc (v := y1 + nI 1) (lv' := [(1, .int (y1 + nI 1)), (0, .ref h)]) S.1 S.2.1 dX9_keep_21 hl (k := 1) rfl (by rw [k_iconst_1]) (by decide) rfl (fun ls hl => ?_)
        refine lv_goto (tgt := 2) S.1 S.2.1 dX9_keep_24 (by decide) ?_
        exact ih _ _ hf _ _ _ (lv_sub hl [1, 0] rfl) hs
  unfold fX9_keep at hf
  refine lv_iconst S.1 S.2.1 dX9_keep_0 k_iconst_0 ?_
  refine lv_istore_n (lv' := [(1, .int (nI 0)), (0, .ref h)]) S.1 S.2.1 dX9_keep_1 rfl hl (by decide) rfl (fun ls hl => ?_)
  refine L2 _ (fun σ3 hf H locs ls hl hs => ?_) _ _ _ hf _ _ _ (lv_sub hl [1, 0] rfl) hs
  exact mrV S K hr hk hs (hf.trans (congrArg some hres)) dX9_keep_27
theorem metX9_keep (l : Launch) (D : va_G) (cI : ClassId) (h : Nat) (ad : Nat → Nat) (σ : zSt) (σ0 : zSt) (hf : fX9_keep σ = some σ0) : Met l yX9_keep (Cond.code yX9_keep cX9_keep 2 none :: WA) rmX9_keep (mPc D cI h ad σ [.ref h]) ((mQv D cI h ad σ0)) 0 0 (mA h ad) :=
  mMet (by decide) (Nat.le_of_ble_eq_true rfl) (fun p e s m args below meth c H locs ls S K hr hk hl hs => bdX9_keep S K hr hk  _ _ hf hl hs)
set_option maxHeartbeats 4000000 in
set_option maxRecDepth 100000 in
theorem bdX9_costOf {p : Program} {l : Launch} {e : Env} {s : State} {m : MethodId} {args : Array Value} {below : List Frame} {meth : Method} {c : Code} {H : Heap} {locs : List Loc} {ls : Array Slot} {D : va_G} {cI : ClassId} {h : Nat} {ad : Nat → Nat} (S : CallFix p m c cX9_costOf 5 s args WA RX9) (K : va_K D vwCl [(cI, .int)] s) (hr : meth.sig.returnType = (some .int)) (hk : meth.locks = false) (a0 : Int32) (a1 : Int32) (a2 : Int32) (σ : zSt) (r0 : Int32) (σ0 : zSt) (hf : fX9_costOf a0 a1 a2 σ = some (r0, σ0)) (hl : lv_has ls 5 [(0, .ref h), (1, .int a0), (2, .int a1), (3, .int a2)]) (hs : mS D cI h ad s σ H locs) : W p l e rmX9_costOf s m args below meth c H locs 0 0 (MQ below (mQi D cI h ad r0 σ0) args s 0 0 (mA h ad)) (F0 m 0 ls []) := by
  obtain ⟨res, hres⟩ : ∃ q, q = (r0, σ0) := ⟨_, rfl⟩
  rw [← hres] at hf
  have J16 : ∀ (w0 : Int32) (w1 : Int32) (w2 : Int32) (σ : zSt), fX9_costOf_j16 w0 w1 w2 σ = some res → mGo p l e rmX9_costOf s m args below meth c (MQ below (mQi D cI h ad r0 σ0) args s 0 0 (mA h ad)) D cI h ad 5 σ [(0, .ref h)] 16 [.int w0, .int w1, .int w2, .ref h] := by
    intro w0 w1 w2 σ hf H locs ls hl hs
    unfold fX9_costOf_j16 at hf
    refine mcV S K hs hl.1 hf (fun _ _ hX => metX9_serves _ _ _ _ _ _ _ _ _ _ _ hX) (cwX9_89 S.2.2.2.2 ⟨Nat.le_of_ble_eq_true rfl, Nat.le_of_ble_eq_true rfl⟩) rfl dX9_costOf_16 rfl (Nat.le_of_ble_eq_true rfl) ⟨Nat.le_refl _, Nat.le_refl _⟩ (fun x2 σ3 H locs hs hf => ?_)
    refine lv_istore (lv' := [(4, .int x2), (0, .ref h)]) S.1 S.2.1 dX9_costOf_19 hl (by decide) rfl (fun ls hl => ?_)
    refine lv_aload_n S.1 S.2.1 dX9_costOf_21 rfl (lv_at hl 1 rfl) ?_
    refine mcU S K hs hl.1 hf (fun _ hX => metX9_bringBack _ _ _ _ _ _ _ hX) (cwX9_139 S.2.2.2.2 ⟨Nat.le_of_ble_eq_true rfl, Nat.le_of_ble_eq_true rfl⟩) rfl dX9_costOf_22 rfl (Nat.le_of_ble_eq_true rfl) ⟨Nat.le_refl _, Nat.le_refl _⟩ (fun σ4 H locs hs hf => ?_)
    refine lv_iload S.1 S.2.1 dX9_costOf_25 (lv_at hl 0 rfl) ?_
    exact mrI S K hr hk hs (hf.trans (congrArg some hres)) dX9_costOf_27
  unfold fX9_costOf at hf
  refine lv_aload_n S.1 S.2.1 dX9_costOf_0 rfl (lv_at hl 0 rfl) ?_
  refine mcU S K hs hl.1 hf (fun _ hX => metX9_keep _ _ _ _ _ _ _ hX) (cwX9_136 S.2.2.2.2 ⟨Nat.le_of_ble_eq_true rfl, Nat.le_of_ble_eq_true rfl⟩) rfl dX9_costOf_1 rfl (Nat.le_of_ble_eq_true rfl) ⟨Nat.le_refl _, Nat.le_refl _⟩ (fun σ1 H locs hs hf => ?_)
  refine lv_aload_n S.1 S.2.1 dX9_costOf_4 rfl (lv_at hl 0 rfl) ?_
  refine lv_iload_n S.1 S.2.1 dX9_costOf_5 rfl (lv_at hl 1 rfl) ?_
  refine lv_iload_n S.1 S.2.1 dX9_costOf_6 rfl (lv_at hl 2 rfl) ?_
  refine lv_iload_n S.1 S.2.1 dX9_costOf_7 rfl (lv_at hl 3 rfl) ?_
  refine z_if_eq (tgt := 15) S hf dX9_costOf_8 (by decide) (fun hf => ?_) (fun hf => ?_)
  · refine lv_iconst S.1 S.2.1 dX9_costOf_15 k_iconst_m1 ?_
    exact J16 _ _ _ _ hf _ _ _ (lv_sub hl [0] rfl) hs
  · refine lv_iconst S.1 S.2.1 dX9_costOf_11 k_iconst_0 ?_
    refine lv_goto (tgt := 16) S.1 S.2.1 dX9_costOf_12 (by decide) ?_
    exact J16 _ _ _ _ hf _ _ _ (lv_sub hl [0] rfl) hs
theorem metX9_costOf (l : Launch) (D : va_G) (cI : ClassId) (h : Nat) (ad : Nat → Nat) (a0 : Int32) (a1 : Int32) (a2 : Int32) (σ : zSt) (r0 : Int32) (σ0 : zSt) (hf : fX9_costOf a0 a1 a2 σ = some (r0, σ0)) : Met l yX9_costOf (Cond.code yX9_costOf cX9_costOf 5 (some .int) :: WA) rmX9_costOf (mPc D cI h ad σ [.ref h, .int a0, .int a1, .int a2]) ((mQi D cI h ad r0 σ0)) 0 0 (mA h ad) :=
  mMet (by decide) (Nat.le_of_ble_eq_true rfl) (fun p e s m args below meth c H locs ls S K hr hk hl hs => bdX9_costOf S K hr hk _ _ _ _ _ _ hf hl hs)
set_option maxHeartbeats 4000000 in
set_option maxRecDepth 100000 in
theorem bdX9_cheapest {p : Program} {l : Launch} {e : Env} {s : State} {m : MethodId} {args : Array Value} {below : List Frame} {meth : Method} {c : Code} {H : Heap} {locs : List Loc} {ls : Array Slot} {D : va_G} {cI : ClassId} {h : Nat} {ad : Nat → Nat} (S : CallFix p m c cX9_cheapest 7 s args WA RX9) (K : va_K D vwCl [(cI, .int)] s) (hr : meth.sig.returnType = (some .int)) (hk : meth.locks = false) (a0 : Int32) (a1 : Int32) (σ : zSt) (r0 : Int32) (σ0 : zSt) (hf : fX9_cheapest a0 a1 σ = some (r0, σ0)) (hl : lv_has ls 7 [(0, .ref h), (1, .int a0), (2, .int a1)]) (hs : mS D cI h ad s σ H locs) : W p l e rmX9_cheapest s m args below meth c H locs 0 0 (MQ below (mQi D cI h ad r0 σ0) args s 0 0 (mA h ad)) (F0 m 0 ls []) := by
  obtain ⟨res, hres⟩ : ∃ q, q = (r0, σ0) := ⟨_, rfl⟩
  rw [← hres] at hf
  have J66 : ∀ (C32 : Int32 → Int32 → Int32 → Int32 → Int32 → zSt → Option (Int32 × zSt)) (hC32 : ∀ (y1 : Int32) (y2 : Int32) (y3 : Int32) (y4 : Int32) (y5 : Int32) (σ : zSt), C32 y1 y2 y3 y4 y5 σ = some res → mGo p l e rmX9_cheapest s m args below meth c (MQ below (mQi D cI h ad r0 σ0) args s 0 0 (mA h ad)) D cI h ad 7 σ [(0, .ref h), (1, .int y1), (2, .int y2), (3, .int y3), (4, .int y4), (5, .int y5)] 32 []) (y1 : Int32) (y2 : Int32) (y4 : Int32) (y5 : Int32) (y6 : Int32) (w0 : Int32) (σ : zSt), fX9_cheapest_j66 C32 y1 y2 y4 y5 y6 w0 σ = some res → mGo p l e rmX9_cheapest s m args below meth c (MQ below (mQi D cI h ad r0 σ0) args s 0 0 (mA h ad)) D cI h ad 7 σ [(0, .ref h), (1, .int y1), (2, .int y2), (4, .int y4), (5, .int y5), (6, .int y6)] 66 [.int w0] := by
    intro C32 hC32 y1 y2 y4 y5 y6 w0 σ hf H locs ls hl hs
    unfold fX9_cheapest_j66 at hf
    refine lv_istore_n (lv' := [(3, .int w0), (0, .ref h), (1, .int y1), (2, .int y2), (4, .int y4), (5, .int y5), (6, .int y6)]) S.1 S.2.1 dX9_cheapest_66 rfl hl (by decide) rfl (fun ls hl => ?_)
    refine lv_iload S.1 S.2.1 dX9_cheapest_67 (lv_at hl 6 rfl) ?_
    refine lv_iload S.1 S.2.1 dX9_cheapest_69 (lv_at hl 4 rfl) ?_
    refine z_icmp_ge (tgt := 79) S hf dX9_cheapest_71 (by decide) (fun hf => ?_) (fun hf => ?_)
    · refine lv_iload S.1 S.2.1 dX9_cheapest_79 (lv_at hl 4 rfl) ?_
      refine lv_istore (lv' := [(4, .int y4), (3, .int w0), (0, .ref h), (1, .int y1), (2, .int y2), (5, .int y5), (6, .int y6)]) S.1 S.2.1 dX9_cheapest_81 hl (by decide) rfl (fun ls hl => ?_)
      refine lv_iinc (v := y5 + nI 1) (lv' := [(5, .int (y5 + nI 1)), (4, .int y4), (3, .int w0), (0, .ref h), (1, .int y1), (2, .int y2), (6, .int y6)]) S.1 S.2.1 dX9_cheapest_83 hl (k := 5) rfl (by rw [k_iconst_1]) (by decide) rfl (fun ls hl => ?_)
      refine lv_goto (tgt := 32) S.1 S.2.1 dX9_cheapest_86 (by decide) ?_
      exact hC32 _ _ _ _ _ _ hf _ _ _ (lv_sub hl [3, 4, 5, 2, 1, 0] rfl) hs
    · refine lv_iload S.1 S.2.1 dX9_cheapest_74 (lv_at hl 6 rfl) ?_
      refine lv_goto (tgt := 81) S.1 S.2.1 dX9_cheapest_76 (by decide) ?_
      refine lv_istore (lv' := [(4, .int y6), (3, .int w0), (0, .ref h), (1, .int y1), (2, .int y2), (5, .int y5), (6, .int y6)]) S.1 S.2.1 dX9_cheapest_81 hl (by decide) rfl (fun ls hl => ?_)
      refine lv_iinc (v := y5 + nI 1) (lv' := [(5, .int (y5 + nI 1)), (4, .int y6), (3, .int w0), (0, .ref h), (1, .int y1), (2, .int y2), (6, .int y6)]) S.1 S.2.1 dX9_cheapest_83 hl (k := 5) rfl (by rw [k_iconst_1]) (by decide) rfl (fun ls hl => ?_)
      refine lv_goto (tgt := 32) S.1 S.2.1 dX9_cheapest_86 (by decide) ?_
      exact hC32 _ _ _ _ _ _ hf _ _ _ (lv_sub hl [3, 4, 5, 2, 1, 0] rfl) hs
  have L32 : ∀ (K32 : Int32 → zSt → Option (Int32 × zSt)) (hK32 : ∀ (y3 : Int32) (σ : zSt), K32 y3 σ = some res → mGo p l e rmX9_cheapest s m args below meth c (MQ below (mQi D cI h ad r0 σ0) args s 0 0 (mA h ad)) D cI h ad 7 σ [(0, .ref h), (3, .int y3)] 89 []) (n : Nat) (y1 : Int32) (y2 : Int32) (y3 : Int32) (y4 : Int32) (y5 : Int32) (σ : zSt), fX9_cheapest_l32 K32 n y1 y2 y3 y4 y5 σ = some res → mGo p l e rmX9_cheapest s m args below meth c (MQ below (mQi D cI h ad r0 σ0) args s 0 0 (mA h ad)) D cI h ad 7 σ [(0, .ref h), (1, .int y1), (2, .int y2), (3, .int y3), (4, .int y4), (5, .int y5)] 32 [] := by
    intro K32 hK32 n
    induction n with
    | zero =>
      intro y1 y2 y3 y4 y5 σ hf H locs ls hl hs
      rw [fX9_cheapest_l32] at hf
      cases hf
    | succ n ih =>
      intro y1 y2 y3 y4 y5 σ hf H locs ls hl hs
      rw [fX9_cheapest_l32] at hf
      refine lv_iload S.1 S.2.1 dX9_cheapest_32 (lv_at hl 5 rfl) ?_
      refine lv_aload_n S.1 S.2.1 dX9_cheapest_34 rfl (lv_at hl 0 rfl) ?_
      refine mg7 S K hs dX9_cheapest_35 ?_
      refine lv_iconst S.1 S.2.1 dX9_cheapest_38 k_iconst_0 ?_
      refine mld0 S K hs hf dX9_cheapest_39 (fun x5 hf => ?_)
      refine z_icmp_ge (tgt := 89) S hf dX9_cheapest_40 (by decide) (fun hf => ?_) (fun hf => ?_)
      · exact hK32 _ _ hf _ _ _ (lv_sub hl [0, 3] rfl) hs
      · refine lv_aload_n S.1 S.2.1 dX9_cheapest_43 rfl (lv_at hl 0 rfl) ?_
        refine lv_iload S.1 S.2.1 dX9_cheapest_44 (lv_at hl 5 rfl) ?_
        refine lv_iload_n S.1 S.2.1 dX9_cheapest_46 rfl (lv_at hl 1 rfl) ?_
        refine lv_iload_n S.1 S.2.1 dX9_cheapest_47 rfl (lv_at hl 2 rfl) ?_
        refine mcV S K hs hl.1 hf (fun _ _ hX => metX9_costOf _ _ _ _ _ _ _ _ _ _ _ hX) (cwX9_142 S.2.2.2.2 ⟨Nat.le_of_ble_eq_true rfl, Nat.le_of_ble_eq_true rfl⟩) rfl dX9_cheapest_48 rfl (Nat.le_of_ble_eq_true rfl) ⟨Nat.le_refl _, Nat.le_refl _⟩ (fun x6 σ7 H locs hs hf => ?_)
        refine lv_istore (lv' := [(6, .int x6), (0, .ref h), (1, .int y1), (2, .int y2), (3, .int y3), (4, .int y4), (5, .int y5)]) S.1 S.2.1 dX9_cheapest_51 hl (by decide) rfl (fun ls hl => ?_)
        refine lv_iload S.1 S.2.1 dX9_cheapest_53 (lv_at hl 0 rfl) ?_
        refine lv_iload S.1 S.2.1 dX9_cheapest_55 (lv_at hl 5 rfl) ?_
        refine z_icmp_ge (tgt := 65) S hf dX9_cheapest_57 (by decide) (fun hf => ?_) (fun hf => ?_)
        · refine lv_iload_n S.1 S.2.1 dX9_cheapest_65 rfl (lv_at hl 4 rfl) ?_
          exact J66 _ ih _ _ _ _ _ _ _ hf _ _ _ (lv_sub hl [1, 2, 3, 5, 6, 0] rfl) hs
        · refine lv_iload S.1 S.2.1 dX9_cheapest_60 (lv_at hl 6 rfl) ?_
          refine lv_goto (tgt := 66) S.1 S.2.1 dX9_cheapest_62 (by decide) ?_
          exact J66 _ ih _ _ _ _ _ _ _ hf _ _ _ (lv_sub hl [1, 2, 3, 5, 6, 0] rfl) hs
  unfold fX9_cheapest at hf
  refine lv_aload_n S.1 S.2.1 dX9_cheapest_0 rfl (lv_at hl 0 rfl) ?_
  refine lv_iconst S.1 S.2.1 dX9_cheapest_1 k_iconst_0 ?_
  refine mp29 S K hs hf dX9_cheapest_2 (fun σ1 H locs hs hf => ?_)
  refine lv_iload_n S.1 S.2.1 dX9_cheapest_5 rfl (lv_at hl 1 rfl) ?_
  refine mcT S K hs hl.1 hf (fun _ hX => metX9_isLine _ _ _ _ _ _ _ _ hX) (cwX9_108 S.2.2.2.2 ⟨Nat.le_of_ble_eq_true rfl, Nat.le_of_ble_eq_true rfl⟩) rfl dX9_cheapest_6 rfl (Nat.le_of_ble_eq_true rfl) ⟨Nat.le_refl _, Nat.le_refl _⟩ (fun x2 H locs hs hf => ?_)
  refine z_if_ne (tgt := 18) S hf dX9_cheapest_9 (by decide) (fun hf => ?_) (fun hf => ?_)
  · refine lv_iconst S.1 S.2.1 dX9_cheapest_18 k_iconst_0 ?_
    refine lv_istore_n (lv' := [(3, .int (nI 0)), (0, .ref h), (1, .int a0), (2, .int a1)]) S.1 S.2.1 dX9_cheapest_19 rfl hl (by decide) rfl (fun ls hl => ?_)
    refine lv_aload_n S.1 S.2.1 dX9_cheapest_20 rfl (lv_at hl 1 rfl) ?_
    refine lv_iconst S.1 S.2.1 dX9_cheapest_21 k_iconst_0 ?_
    refine lv_iload_n S.1 S.2.1 dX9_cheapest_22 rfl (lv_at hl 2 rfl) ?_
    refine lv_iload_n S.1 S.2.1 dX9_cheapest_23 rfl (lv_at hl 3 rfl) ?_
    refine mcV S K hs hl.1 hf (fun _ _ hX => metX9_costOf _ _ _ _ _ _ _ _ _ _ _ hX) (cwX9_142 S.2.2.2.2 ⟨Nat.le_of_ble_eq_true rfl, Nat.le_of_ble_eq_true rfl⟩) rfl dX9_cheapest_24 rfl (Nat.le_of_ble_eq_true rfl) ⟨Nat.le_refl _, Nat.le_refl _⟩ (fun x3 σ4 H locs hs hf => ?_)
    refine lv_istore (lv' := [(4, .int x3), (3, .int (nI 0)), (0, .ref h), (1, .int a0), (2, .int a1)]) S.1 S.2.1 dX9_cheapest_27 hl (by decide) rfl (fun ls hl => ?_)
    refine lv_iconst S.1 S.2.1 dX9_cheapest_29 k_iconst_1 ?_
    refine lv_istore (lv' := [(5, .int (nI 1)), (4, .int x3), (3, .int (nI 0)), (0, .ref h), (1, .int a0), (2, .int a1)]) S.1 S.2.1 dX9_cheapest_30 hl (by decide) rfl (fun ls hl => ?_)
    refine L32 _ (fun x8 σ9 hf H locs ls hl hs => ?_) _ _ _ _ _ _ _ hf _ _ _ (lv_sub hl [3, 4, 5, 2, 1, 0] rfl) hs
    refine lv_iload_n S.1 S.2.1 dX9_cheapest_89 rfl (lv_at hl 1 rfl) ?_
    exact mrI S K hr hk hs (hf.trans (congrArg some hres)) dX9_cheapest_90
  · refine lv_aload_n S.1 S.2.1 dX9_cheapest_12 rfl (lv_at hl 0 rfl) ?_
    refine lv_iconst S.1 S.2.1 dX9_cheapest_13 k_iconst_1 ?_
    refine mcV S K hs hl.1 hf (fun _ _ hX => metX9_fails _ _ _ _ _ _ _ _ _ hX) (cwX9_99 S.2.2.2.2 ⟨Nat.le_of_ble_eq_true rfl, Nat.le_of_ble_eq_true rfl⟩) rfl dX9_cheapest_14 rfl (Nat.le_of_ble_eq_true rfl) ⟨Nat.le_refl _, Nat.le_refl _⟩ (fun x10 σ11 H locs hs hf => ?_)
    exact mrI S K hr hk hs (hf.trans (congrArg some hres)) dX9_cheapest_17
theorem metX9_cheapest (l : Launch) (D : va_G) (cI : ClassId) (h : Nat) (ad : Nat → Nat) (a0 : Int32) (a1 : Int32) (σ : zSt) (r0 : Int32) (σ0 : zSt) (hf : fX9_cheapest a0 a1 σ = some (r0, σ0)) : Met l yX9_cheapest (Cond.code yX9_cheapest cX9_cheapest 7 (some .int) :: WA) rmX9_cheapest (mPc D cI h ad σ [.ref h, .int a0, .int a1]) ((mQi D cI h ad r0 σ0)) 0 0 (mA h ad) :=
  mMet (by decide) (Nat.le_of_ble_eq_true rfl) (fun p e s m args below meth c H locs ls S K hr hk hl hs => bdX9_cheapest S K hr hk _ _ _ _ _ hf hl hs)
