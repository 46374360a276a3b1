/-! the law's methods: contracts (by wip/tools/rworld.py) -/
set_option maxHeartbeats 4000000 in
set_option maxRecDepth 100000 in
theorem bdL_refuses {p : Program} {l : Launch} {e : Env} {s : State} {m : MethodId} {args : Array Value} {below : List Frame} {meth : Method} {c : Code} {H : Heap} {locs : List Loc} {ls : Array Slot} {D : va_G} {cI : ClassId} {cB cM : ClassId} {ad6 : Nat → Nat} {a : Nat → Nat → Nat} {A : Nat → Prop} (S : CallFix p m c cL_refuses 6 s args WA RL) (K : qK D cI cB cM ad6 A s) (hr : meth.sig.returnType = (some .boolean)) (hk : meth.locks = false) (a1 : Int32) (σ : cSt) (r0 : Int32) (σ0 : cSt) (hf : fL_refuses a1 σ = some (r0, σ0)) (hl : lv_has ls 6 [(0, .ref (a 0 0)), (1, .int a1)]) (hs : qS D cI cB cM ad6 a A s σ H locs) : W p l e rmL_refuses s m args below meth c H locs 0 0 (MQ below (qQi D cI cB cM ad6 a A r0 σ0) args s 0 0 (A)) (F0 m 0 ls []) := by
  obtain ⟨res, hres⟩ : ∃ q, q = (r0, σ0) := ⟨_, rfl⟩
  rw [← hres] at hf
  have L41 : ∀ (K41 : Int32 → Int32 → cSt → Option (Int32 × cSt)) (hK41 : ∀ (y2 : Int32) (y3 : Int32) (σ : cSt), K41 y2 y3 σ = some res → qGo p l e rmL_refuses s m args below meth c (MQ below (qQi D cI cB cM ad6 a A r0 σ0) args s 0 0 (A)) D cI cB cM ad6 a A 0 0 6 σ [(0, .ref (a 0 0)), (2, .int y2), (3, .int y3)] 76 []) (n : Nat) (y2 : Int32) (y3 : Int32) (y4 : Int32) (σ : cSt), fL_refuses_l41 K41 n y2 y3 y4 σ = some res → qGo p l e rmL_refuses s m args below meth c (MQ below (qQi D cI cB cM ad6 a A r0 σ0) args s 0 0 (A)) D cI cB cM ad6 a A 0 0 6 σ [(0, .ref (a 0 0)), (2, .int y2), (3, .int y3), (4, .int y4)] 41 [] := by
    intro K41 hK41 n
    induction n with
    | zero =>
      intro y2 y3 y4 σ hf H locs ls hl hs
      rw [fL_refuses_l41] at hf
      cases hf
    | succ n ih =>
      intro y2 y3 y4 σ hf H locs ls hl hs
      rw [fL_refuses_l41] at hf
      refine lv_iload S.1 S.2.1 dL_refuses_41 (lv_at hl 3 rfl) ?_
      refine lv_iload_n S.1 S.2.1 dL_refuses_43 rfl (lv_at hl 1 rfl) ?_
      refine z_icmp_ge (tgt := 76) S hf dL_refuses_44 (by decide) (fun hf => ?_) (fun hf => ?_)
      · exact hK41 _ _ _ hf _ _ _ (lv_sub hl [0, 1, 2] rfl) hs
      · refine lv_iload_n S.1 S.2.1 dL_refuses_47 rfl (lv_at hl 2 rfl) ?_
        refine z_if_eq (tgt := 76) S hf dL_refuses_48 (by decide) (fun hf => ?_) (fun hf => ?_)
        · exact hK41 _ _ _ hf _ _ _ (lv_sub hl [0, 1, 2] rfl) hs
        · refine lv_aload_n S.1 S.2.1 dL_refuses_51 rfl (lv_at hl 0 rfl) ?_
          refine lv_bipush S.1 S.2.1 dL_refuses_52 k_bipush_48 ?_
          refine qcV (qV0 K hs) S K hs hl.1 hf (fun _ _ hX => metX8_append _ _ _ _ _ _ _ _ _ _ _ _ hX) (cwL_44 S.2.2.2.2 ⟨Nat.le_of_ble_eq_true rfl, Nat.le_of_ble_eq_true rfl⟩) rfl dL_refuses_54 rfl (Nat.le_of_ble_eq_true rfl) ⟨Nat.le_of_ble_eq_true rfl, Nat.le_of_ble_eq_true rfl⟩ (fun x4 σ5 H locs hs hf => ?_)
          refine lv_iload S.1 S.2.1 dL_refuses_57 (lv_at hl 3 rfl) ?_
          refine lv_iconst S.1 S.2.1 dL_refuses_59 k_iconst_3 ?_
          refine lv_iadd S.1 S.2.1 dL_refuses_60 ?_
          refine z_icmp_ne (tgt := 68) S hf dL_refuses_61 (by decide) (fun hf => ?_) (fun hf => ?_)
          · refine lv_iconst S.1 S.2.1 dL_refuses_68 k_iconst_0 ?_
            refine lv_istore_n (lv' := [(3, .int (nI 0)), (0, .ref (a 0 0)), (2, .int y2), (4, .int y4)]) S.1 S.2.1 dL_refuses_69 rfl hl (by decide) rfl (fun ls hl => ?_)
            refine lv_iinc (v := y4 + nI 1) (lv' := [(4, .int (y4 + nI 1)), (3, .int (nI 0)), (0, .ref (a 0 0)), (2, .int y2)]) S.1 S.2.1 dL_refuses_70 hl (k := 3) rfl (by rw [k_iconst_1]) (by decide) rfl (fun ls hl => ?_)
            refine lv_goto (tgt := 41) S.1 S.2.1 dL_refuses_73 (by decide) ?_
            exact ih _ _ _ _ hf _ _ _ (lv_sub hl [2, 3, 1, 0] rfl) hs
          · refine lv_iconst S.1 S.2.1 dL_refuses_64 k_iconst_1 ?_
            refine lv_goto (tgt := 69) S.1 S.2.1 dL_refuses_65 (by decide) ?_
            refine lv_istore_n (lv' := [(3, .int (nI 1)), (0, .ref (a 0 0)), (2, .int y2), (4, .int y4)]) S.1 S.2.1 dL_refuses_69 rfl hl (by decide) rfl (fun ls hl => ?_)
            refine lv_iinc (v := y4 + nI 1) (lv' := [(4, .int (y4 + nI 1)), (3, .int (nI 1)), (0, .ref (a 0 0)), (2, .int y2)]) S.1 S.2.1 dL_refuses_70 hl (k := 3) rfl (by rw [k_iconst_1]) (by decide) rfl (fun ls hl => ?_)
            refine lv_goto (tgt := 41) S.1 S.2.1 dL_refuses_73 (by decide) ?_
            exact ih _ _ _ _ hf _ _ _ (lv_sub hl [2, 3, 1, 0] rfl) hs
  have J102 : ∀ (y2 : Int32) (y4 : Int64) (w0 : Int32) (w1 : Int32) (σ : cSt), fL_refuses_j102 y2 y4 w0 w1 σ = some res → qGo p l e rmL_refuses s m args below meth c (MQ below (qQi D cI cB cM ad6 a A r0 σ0) args s 0 0 (A)) D cI cB cM ad6 a A 0 0 6 σ [(0, .ref (a 0 0)), (2, .int y2), (4, .long y4)] 102 [.int w0, .int w1] := by
    intro y2 y4 w0 w1 σ hf H locs ls hl hs
    unfold fL_refuses_j102 at hf
    refine z_icmp_ne (tgt := 129) S hf dL_refuses_102 (by decide) (fun hf => ?_) (fun hf => ?_)
    · refine lv_iconst S.1 S.2.1 dL_refuses_129 k_iconst_0 ?_
      exact qrZ S K hr hk hs (hf.trans (congrArg some hres)) dL_refuses_130
    · refine lv_aload_n S.1 S.2.1 dL_refuses_105 rfl (lv_at hl 0 rfl) ?_
      refine qcL (qV0 K hs) S K hs hl.1 hf (fun _ hX => metX8_digest _ _ _ _ _ _ _ _ _ _ hX) (cwL_47 S.2.2.2.2 ⟨Nat.le_of_ble_eq_true rfl, Nat.le_of_ble_eq_true rfl⟩) rfl dL_refuses_106 rfl (Nat.le_of_ble_eq_true rfl) ⟨Nat.le_of_ble_eq_true rfl, Nat.le_of_ble_eq_true rfl⟩ (fun x12 H locs hs hf => ?_)
      refine lv_lload S.1 S.2.1 dL_refuses_109 (lv_at hl 2 rfl) ?_
      refine qlc_ne (tgt := 129) S hf dL_refuses_111 dL_refuses_112 (by decide) (fun hf => ?_) (fun hf => ?_)
      · refine lv_iconst S.1 S.2.1 dL_refuses_129 k_iconst_0 ?_
        exact qrZ S K hr hk hs (hf.trans (congrArg some hres)) dL_refuses_130
      · refine lv_aload_n S.1 S.2.1 dL_refuses_115 rfl (lv_at hl 0 rfl) ?_
        refine qcV (qV0 K hs) S K hs hl.1 hf (fun _ _ hX => metX8_clearText _ _ _ _ _ _ _ _ _ _ _ hX) (cwL_41 S.2.2.2.2 ⟨Nat.le_of_ble_eq_true rfl, Nat.le_of_ble_eq_true rfl⟩) rfl dL_refuses_116 rfl (Nat.le_of_ble_eq_true rfl) ⟨Nat.le_of_ble_eq_true rfl, Nat.le_of_ble_eq_true rfl⟩ (fun x13 σ14 H locs hs hf => ?_)
        refine lv_iconst S.1 S.2.1 dL_refuses_119 k_iconst_2 ?_
        refine lv_iload_n S.1 S.2.1 dL_refuses_120 rfl (lv_at hl 1 rfl) ?_
        refine lv_iadd S.1 S.2.1 dL_refuses_121 ?_
        refine z_icmp_ne (tgt := 129) S hf dL_refuses_122 (by decide) (fun hf => ?_) (fun hf => ?_)
        · refine lv_iconst S.1 S.2.1 dL_refuses_129 k_iconst_0 ?_
          exact qrZ S K hr hk hs (hf.trans (congrArg some hres)) dL_refuses_130
        · refine lv_iconst S.1 S.2.1 dL_refuses_125 k_iconst_1 ?_
          refine lv_goto (tgt := 130) S.1 S.2.1 dL_refuses_126 (by decide) ?_
          exact qrZ S K hr hk hs (hf.trans (congrArg some hres)) dL_refuses_130
  unfold fL_refuses at hf
  refine lv_iload_n S.1 S.2.1 dL_refuses_0 rfl (lv_at hl 1 rfl) ?_
  refine lv_bipush S.1 S.2.1 dL_refuses_1 k_bipush_9 ?_
  refine z_irem S hf dL_refuses_3 (fun x1 hf => ?_)
  refine lv_istore_n (lv' := [(2, .int x1), (0, .ref (a 0 0)), (1, .int a1)]) S.1 S.2.1 dL_refuses_4 rfl hl (by decide) rfl (fun ls hl => ?_)
  refine lv_aload_n S.1 S.2.1 dL_refuses_5 rfl (lv_at hl 1 rfl) ?_
  refine qcV (qV0 K hs) S K hs hl.1 hf (fun _ _ hX => metX8_clearText _ _ _ _ _ _ _ _ _ _ _ hX) (cwL_41 S.2.2.2.2 ⟨Nat.le_of_ble_eq_true rfl, Nat.le_of_ble_eq_true rfl⟩) rfl dL_refuses_6 rfl (Nat.le_of_ble_eq_true rfl) ⟨Nat.le_of_ble_eq_true rfl, Nat.le_of_ble_eq_true rfl⟩ (fun x2 σ3 H locs hs hf => ?_)
  refine z_if_lt (tgt := 36) S hf dL_refuses_9 (by decide) (fun hf => ?_) (fun hf => ?_)
  · refine lv_iconst S.1 S.2.1 dL_refuses_36 k_iconst_0 ?_
    refine lv_istore_n (lv' := [(3, .int (nI 0)), (2, .int x1), (0, .ref (a 0 0)), (1, .int a1)]) S.1 S.2.1 dL_refuses_37 rfl hl (by decide) rfl (fun ls hl => ?_)
    refine lv_iconst S.1 S.2.1 dL_refuses_38 k_iconst_0 ?_
    refine lv_istore (lv' := [(4, .int (nI 0)), (3, .int (nI 0)), (2, .int x1), (0, .ref (a 0 0)), (1, .int a1)]) S.1 S.2.1 dL_refuses_39 hl (by decide) rfl (fun ls hl => ?_)
    refine L41 _ (fun x6 x7 σ8 hf H locs ls hl hs => ?_) _ _ _ _ _ hf _ _ _ (lv_sub hl [3, 2, 1, 0] rfl) hs
    refine lv_aload_n S.1 S.2.1 dL_refuses_76 rfl (lv_at hl 0 rfl) ?_
    refine qcL (qV0 K hs) S K hs hl.1 hf (fun _ hX => metX8_digest _ _ _ _ _ _ _ _ _ _ hX) (cwL_47 S.2.2.2.2 ⟨Nat.le_of_ble_eq_true rfl, Nat.le_of_ble_eq_true rfl⟩) rfl dL_refuses_77 rfl (Nat.le_of_ble_eq_true rfl) ⟨Nat.le_of_ble_eq_true rfl, Nat.le_of_ble_eq_true rfl⟩ (fun x9 H locs hs hf => ?_)
    refine lv_lstore (lv' := [(4, .long x9), (0, .ref (a 0 0)), (2, .int x6), (3, .int x7)]) S.1 S.2.1 dL_refuses_80 hl (by decide) rfl (fun ls hl => ?_)
    refine lv_iload_n S.1 S.2.1 dL_refuses_82 rfl (lv_at hl 3 rfl) ?_
    refine z_if_eq (tgt := 129) S hf dL_refuses_83 (by decide) (fun hf => ?_) (fun hf => ?_)
    · refine lv_iconst S.1 S.2.1 dL_refuses_129 k_iconst_0 ?_
      exact qrZ S K hr hk hs (hf.trans (congrArg some hres)) dL_refuses_130
    · refine lv_aload_n S.1 S.2.1 dL_refuses_86 rfl (lv_at hl 1 rfl) ?_
      refine qcV (qV0 K hs) S K hs hl.1 hf (fun _ _ hX => metX8_carryOut _ _ _ _ _ _ _ _ _ _ _ hX) (cwL_51 S.2.2.2.2 ⟨Nat.le_of_ble_eq_true rfl, Nat.le_of_ble_eq_true rfl⟩) rfl dL_refuses_87 rfl (Nat.le_of_ble_eq_true rfl) ⟨Nat.le_of_ble_eq_true rfl, Nat.le_of_ble_eq_true rfl⟩ (fun x10 σ11 H locs hs hf => ?_)
      refine lv_iload_n S.1 S.2.1 dL_refuses_90 rfl (lv_at hl 2 rfl) ?_
      refine lv_iconst S.1 S.2.1 dL_refuses_91 k_iconst_2 ?_
      refine z_icmp_ge (tgt := 100) S hf dL_refuses_92 (by decide) (fun hf => ?_) (fun hf => ?_)
      · refine lv_bipush S.1 S.2.1 dL_refuses_100 k_bipush_m13 ?_
        exact J102 _ _ _ _ _ hf _ _ _ (lv_sub hl [1, 2, 0] rfl) hs
      · refine lv_bipush S.1 S.2.1 dL_refuses_95 k_bipush_m11 ?_
        refine lv_goto (tgt := 102) S.1 S.2.1 dL_refuses_97 (by decide) ?_
        exact J102 _ _ _ _ _ hf _ _ _ (lv_sub hl [1, 2, 0] rfl) hs
  · refine lv_aload_n S.1 S.2.1 dL_refuses_12 rfl (lv_at hl 1 rfl) ?_
    refine lv_bipush S.1 S.2.1 dL_refuses_13 k_bipush_116 ?_
    refine qcV (qV0 K hs) S K hs hl.1 hf (fun _ _ hX => metX8_append _ _ _ _ _ _ _ _ _ _ _ _ hX) (cwL_44 S.2.2.2.2 ⟨Nat.le_of_ble_eq_true rfl, Nat.le_of_ble_eq_true rfl⟩) rfl dL_refuses_15 rfl (Nat.le_of_ble_eq_true rfl) ⟨Nat.le_of_ble_eq_true rfl, Nat.le_of_ble_eq_true rfl⟩ (fun x15 σ16 H locs hs hf => ?_)
    refine lv_iconst S.1 S.2.1 dL_refuses_18 k_iconst_1 ?_
    refine z_icmp_ne (tgt := 36) S hf dL_refuses_19 (by decide) (fun hf => ?_) (fun hf => ?_)
    · refine lv_iconst S.1 S.2.1 dL_refuses_36 k_iconst_0 ?_
      refine lv_istore_n (lv' := [(3, .int (nI 0)), (2, .int x1), (0, .ref (a 0 0)), (1, .int a1)]) S.1 S.2.1 dL_refuses_37 rfl hl (by decide) rfl (fun ls hl => ?_)
      refine lv_iconst S.1 S.2.1 dL_refuses_38 k_iconst_0 ?_
      refine lv_istore (lv' := [(4, .int (nI 0)), (3, .int (nI 0)), (2, .int x1), (0, .ref (a 0 0)), (1, .int a1)]) S.1 S.2.1 dL_refuses_39 hl (by decide) rfl (fun ls hl => ?_)
      refine L41 _ (fun x17 x18 σ19 hf H locs ls hl hs => ?_) _ _ _ _ _ hf _ _ _ (lv_sub hl [3, 2, 1, 0] rfl) hs
      refine lv_aload_n S.1 S.2.1 dL_refuses_76 rfl (lv_at hl 0 rfl) ?_
      refine qcL (qV0 K hs) S K hs hl.1 hf (fun _ hX => metX8_digest _ _ _ _ _ _ _ _ _ _ hX) (cwL_47 S.2.2.2.2 ⟨Nat.le_of_ble_eq_true rfl, Nat.le_of_ble_eq_true rfl⟩) rfl dL_refuses_77 rfl (Nat.le_of_ble_eq_true rfl) ⟨Nat.le_of_ble_eq_true rfl, Nat.le_of_ble_eq_true rfl⟩ (fun x20 H locs hs hf => ?_)
      refine lv_lstore (lv' := [(4, .long x20), (0, .ref (a 0 0)), (2, .int x17), (3, .int x18)]) S.1 S.2.1 dL_refuses_80 hl (by decide) rfl (fun ls hl => ?_)
      refine lv_iload_n S.1 S.2.1 dL_refuses_82 rfl (lv_at hl 3 rfl) ?_
      refine z_if_eq (tgt := 129) S hf dL_refuses_83 (by decide) (fun hf => ?_) (fun hf => ?_)
      · refine lv_iconst S.1 S.2.1 dL_refuses_129 k_iconst_0 ?_
        exact qrZ S K hr hk hs (hf.trans (congrArg some hres)) dL_refuses_130
      · refine lv_aload_n S.1 S.2.1 dL_refuses_86 rfl (lv_at hl 1 rfl) ?_
        refine qcV (qV0 K hs) S K hs hl.1 hf (fun _ _ hX => metX8_carryOut _ _ _ _ _ _ _ _ _ _ _ hX) (cwL_51 S.2.2.2.2 ⟨Nat.le_of_ble_eq_true rfl, Nat.le_of_ble_eq_true rfl⟩) rfl dL_refuses_87 rfl (Nat.le_of_ble_eq_true rfl) ⟨Nat.le_of_ble_eq_true rfl, Nat.le_of_ble_eq_true rfl⟩ (fun x21 σ22 H locs hs hf => ?_)
        refine lv_iload_n S.1 S.2.1 dL_refuses_90 rfl (lv_at hl 2 rfl) ?_
        refine lv_iconst S.1 S.2.1 dL_refuses_91 k_iconst_2 ?_
        refine z_icmp_ge (tgt := 100) S hf dL_refuses_92 (by decide) (fun hf => ?_) (fun hf => ?_)
        · refine lv_bipush S.1 S.2.1 dL_refuses_100 k_bipush_m13 ?_
          exact J102 _ _ _ _ _ hf _ _ _ (lv_sub hl [1, 2, 0] rfl) hs
        · refine lv_bipush S.1 S.2.1 dL_refuses_95 k_bipush_m11 ?_
          refine lv_goto (tgt := 102) S.1 S.2.1 dL_refuses_97 (by decide) ?_
          exact J102 _ _ _ _ _ hf _ _ _ (lv_sub hl [1, 2, 0] rfl) hs
    · refine lv_aload_n S.1 S.2.1 dL_refuses_22 rfl (lv_at hl 1 rfl) ?_
      refine lv_bipush S.1 S.2.1 dL_refuses_23 k_bipush_48 ?_
      refine qcV (qV0 K hs) S K hs hl.1 hf (fun _ _ hX => metX8_append _ _ _ _ _ _ _ _ _ _ _ _ hX) (cwL_44 S.2.2.2.2 ⟨Nat.le_of_ble_eq_true rfl, Nat.le_of_ble_eq_true rfl⟩) rfl dL_refuses_25 rfl (Nat.le_of_ble_eq_true rfl) ⟨Nat.le_of_ble_eq_true rfl, Nat.le_of_ble_eq_true rfl⟩ (fun x23 σ24 H locs hs hf => ?_)
      refine lv_iconst S.1 S.2.1 dL_refuses_28 k_iconst_2 ?_
      refine z_icmp_ne (tgt := 36) S hf dL_refuses_29 (by decide) (fun hf => ?_) (fun hf => ?_)
      · refine lv_iconst S.1 S.2.1 dL_refuses_36 k_iconst_0 ?_
        refine lv_istore_n (lv' := [(3, .int (nI 0)), (2, .int x1), (0, .ref (a 0 0)), (1, .int a1)]) S.1 S.2.1 dL_refuses_37 rfl hl (by decide) rfl (fun ls hl => ?_)
        refine lv_iconst S.1 S.2.1 dL_refuses_38 k_iconst_0 ?_
        refine lv_istore (lv' := [(4, .int (nI 0)), (3, .int (nI 0)), (2, .int x1), (0, .ref (a 0 0)), (1, .int a1)]) S.1 S.2.1 dL_refuses_39 hl (by decide) rfl (fun ls hl => ?_)
        refine L41 _ (fun x25 x26 σ27 hf H locs ls hl hs => ?_) _ _ _ _ _ hf _ _ _ (lv_sub hl [3, 2, 1, 0] rfl) hs
        refine lv_aload_n S.1 S.2.1 dL_refuses_76 rfl (lv_at hl 0 rfl) ?_
        refine qcL (qV0 K hs) S K hs hl.1 hf (fun _ hX => metX8_digest _ _ _ _ _ _ _ _ _ _ hX) (cwL_47 S.2.2.2.2 ⟨Nat.le_of_ble_eq_true rfl, Nat.le_of_ble_eq_true rfl⟩) rfl dL_refuses_77 rfl (Nat.le_of_ble_eq_true rfl) ⟨Nat.le_of_ble_eq_true rfl, Nat.le_of_ble_eq_true rfl⟩ (fun x28 H locs hs hf => ?_)
        refine lv_lstore (lv' := [(4, .long x28), (0, .ref (a 0 0)), (2, .int x25), (3, .int x26)]) S.1 S.2.1 dL_refuses_80 hl (by decide) rfl (fun ls hl => ?_)
        refine lv_iload_n S.1 S.2.1 dL_refuses_82 rfl (lv_at hl 3 rfl) ?_
        refine z_if_eq (tgt := 129) S hf dL_refuses_83 (by decide) (fun hf => ?_) (fun hf => ?_)
        · refine lv_iconst S.1 S.2.1 dL_refuses_129 k_iconst_0 ?_
          exact qrZ S K hr hk hs (hf.trans (congrArg some hres)) dL_refuses_130
        · refine lv_aload_n S.1 S.2.1 dL_refuses_86 rfl (lv_at hl 1 rfl) ?_
          refine qcV (qV0 K hs) S K hs hl.1 hf (fun _ _ hX => metX8_carryOut _ _ _ _ _ _ _ _ _ _ _ hX) (cwL_51 S.2.2.2.2 ⟨Nat.le_of_ble_eq_true rfl, Nat.le_of_ble_eq_true rfl⟩) rfl dL_refuses_87 rfl (Nat.le_of_ble_eq_true rfl) ⟨Nat.le_of_ble_eq_true rfl, Nat.le_of_ble_eq_true rfl⟩ (fun x29 σ30 H locs hs hf => ?_)
          refine lv_iload_n S.1 S.2.1 dL_refuses_90 rfl (lv_at hl 2 rfl) ?_
          refine lv_iconst S.1 S.2.1 dL_refuses_91 k_iconst_2 ?_
          refine z_icmp_ge (tgt := 100) S hf dL_refuses_92 (by decide) (fun hf => ?_) (fun hf => ?_)
          · refine lv_bipush S.1 S.2.1 dL_refuses_100 k_bipush_m13 ?_
            exact J102 _ _ _ _ _ hf _ _ _ (lv_sub hl [1, 2, 0] rfl) hs
          · refine lv_bipush S.1 S.2.1 dL_refuses_95 k_bipush_m11 ?_
            refine lv_goto (tgt := 102) S.1 S.2.1 dL_refuses_97 (by decide) ?_
            exact J102 _ _ _ _ _ hf _ _ _ (lv_sub hl [1, 2, 0] rfl) hs
      · refine lv_iconst S.1 S.2.1 dL_refuses_32 k_iconst_1 ?_
        refine lv_goto (tgt := 37) S.1 S.2.1 dL_refuses_33 (by decide) ?_
        refine lv_istore_n (lv' := [(3, .int (nI 1)), (2, .int x1), (0, .ref (a 0 0)), (1, .int a1)]) S.1 S.2.1 dL_refuses_37 rfl hl (by decide) rfl (fun ls hl => ?_)
        refine lv_iconst S.1 S.2.1 dL_refuses_38 k_iconst_0 ?_
        refine lv_istore (lv' := [(4, .int (nI 0)), (3, .int (nI 1)), (2, .int x1), (0, .ref (a 0 0)), (1, .int a1)]) S.1 S.2.1 dL_refuses_39 hl (by decide) rfl (fun ls hl => ?_)
        refine L41 _ (fun x31 x32 σ33 hf H locs ls hl hs => ?_) _ _ _ _ _ hf _ _ _ (lv_sub hl [3, 2, 1, 0] rfl) hs
        refine lv_aload_n S.1 S.2.1 dL_refuses_76 rfl (lv_at hl 0 rfl) ?_
        refine qcL (qV0 K hs) S K hs hl.1 hf (fun _ hX => metX8_digest _ _ _ _ _ _ _ _ _ _ hX) (cwL_47 S.2.2.2.2 ⟨Nat.le_of_ble_eq_true rfl, Nat.le_of_ble_eq_true rfl⟩) rfl dL_refuses_77 rfl (Nat.le_of_ble_eq_true rfl) ⟨Nat.le_of_ble_eq_true rfl, Nat.le_of_ble_eq_true rfl⟩ (fun x34 H locs hs hf => ?_)
        refine lv_lstore (lv' := [(4, .long x34), (0, .ref (a 0 0)), (2, .int x31), (3, .int x32)]) S.1 S.2.1 dL_refuses_80 hl (by decide) rfl (fun ls hl => ?_)
        refine lv_iload_n S.1 S.2.1 dL_refuses_82 rfl (lv_at hl 3 rfl) ?_
        refine z_if_eq (tgt := 129) S hf dL_refuses_83 (by decide) (fun hf => ?_) (fun hf => ?_)
        · refine lv_iconst S.1 S.2.1 dL_refuses_129 k_iconst_0 ?_
          exact qrZ S K hr hk hs (hf.trans (congrArg some hres)) dL_refuses_130
        · refine lv_aload_n S.1 S.2.1 dL_refuses_86 rfl (lv_at hl 1 rfl) ?_
          refine qcV (qV0 K hs) S K hs hl.1 hf (fun _ _ hX => metX8_carryOut _ _ _ _ _ _ _ _ _ _ _ hX) (cwL_51 S.2.2.2.2 ⟨Nat.le_of_ble_eq_true rfl, Nat.le_of_ble_eq_true rfl⟩) rfl dL_refuses_87 rfl (Nat.le_of_ble_eq_true rfl) ⟨Nat.le_of_ble_eq_true rfl, Nat.le_of_ble_eq_true rfl⟩ (fun x35 σ36 H locs hs hf => ?_)
          refine lv_iload_n S.1 S.2.1 dL_refuses_90 rfl (lv_at hl 2 rfl) ?_
          refine lv_iconst S.1 S.2.1 dL_refuses_91 k_iconst_2 ?_
          refine z_icmp_ge (tgt := 100) S hf dL_refuses_92 (by decide) (fun hf => ?_) (fun hf => ?_)
          · refine lv_bipush S.1 S.2.1 dL_refuses_100 k_bipush_m13 ?_
            exact J102 _ _ _ _ _ hf _ _ _ (lv_sub hl [1, 2, 0] rfl) hs
          · refine lv_bipush S.1 S.2.1 dL_refuses_95 k_bipush_m11 ?_
            refine lv_goto (tgt := 102) S.1 S.2.1 dL_refuses_97 (by decide) ?_
            exact J102 _ _ _ _ _ hf _ _ _ (lv_sub hl [1, 2, 0] rfl) hs
theorem metL_refuses (l : Launch) (D : va_G) (cI : ClassId) (cB cM : ClassId) (ad6 : Nat → Nat) (a : Nat → Nat → Nat) (A : Nat → Prop) (a1 : Int32) (σ : cSt) (r0 : Int32) (σ0 : cSt) (hf : fL_refuses a1 σ = some (r0, σ0)) : Met l yL_refuses (Cond.code yL_refuses cL_refuses 6 (some .boolean) :: WA) rmL_refuses (qPc D cI cB cM ad6 a A σ [.ref (a 0 0), .int a1]) ((qQi D cI cB cM ad6 a A r0 σ0)) 0 0 (A) :=
  qMet (by decide) (Nat.le_of_ble_eq_true rfl) (fun p e s m args below meth c H locs ls S K hr hk hl hs => bdL_refuses S K hr hk _ _ _ _ hf hl hs)
set_option maxHeartbeats 4000000 in
set_option maxRecDepth 100000 in
theorem bdL_sound {p : Program} {l : Launch} {e : Env} {s : State} {m : MethodId} {args : Array Value} {below : List Frame} {meth : Method} {c : Code} {H : Heap} {locs : List Loc} {ls : Array Slot} {D : va_G} {cI : ClassId} {cB cM : ClassId} {ad6 : Nat → Nat} {a : Nat → Nat → Nat} {A : Nat → Prop} (S : CallFix p m c cL_sound 4 s args WA RL) (K : qK D cI cB cM ad6 A s) (hr : meth.sig.returnType = (some .boolean)) (hk : meth.locks = false) (σ : cSt) (r0 : Int32) (hf : fL_sound σ = some r0) (hl : lv_has ls 4 [(0, .ref (a 0 0))]) (hs : qS D cI cB cM ad6 a A s σ H locs) : W p l e rmL_sound s m args below meth c H locs 0 0 (MQ below (qQi D cI cB cM ad6 a A r0 σ) args s 0 0 (A)) (F0 m 0 ls []) := by
  obtain ⟨res, hres⟩ : ∃ q, q = r0 := ⟨_, rfl⟩
  rw [← hres] at hf
  have L6 : ∀ (K6 : Int32 → Int32 → Option (Int32)) (hK6 : ∀ (y1 : Int32) (y2 : Int32), K6 y1 y2 = some res → qGo p l e rmL_sound s m args below meth c (MQ below (qQi D cI cB cM ad6 a A r0 σ) args s 0 0 (A)) D cI cB cM ad6 a A 0 0 4 σ [(0, .ref (a 0 0)), (1, .int y1), (2, .int y2)] 37 []) (n : Nat) (y1 : Int32) (y2 : Int32) (y3 : Int32), fL_sound_l6 σ K6 n y1 y2 y3 = some res → qGo p l e rmL_sound s m args below meth c (MQ below (qQi D cI cB cM ad6 a A r0 σ) args s 0 0 (A)) D cI cB cM ad6 a A 0 0 4 σ [(0, .ref (a 0 0)), (1, .int y1), (2, .int y2), (3, .int y3)] 6 [] := by
    intro K6 hK6 n
    induction n with
    | zero =>
      intro y1 y2 y3 hf H locs ls hl hs
      rw [fL_sound_l6] at hf
      cases hf
    | succ n ih =>
      intro y1 y2 y3 hf H locs ls hl hs
      rw [fL_sound_l6] at hf
      refine lv_iload_n S.1 S.2.1 dL_sound_6 rfl (lv_at hl 3 rfl) ?_
      refine lv_bipush S.1 S.2.1 dL_sound_7 k_bipush_9 ?_
      refine z_icmp_ge (tgt := 37) S hf dL_sound_9 (by decide) (fun hf => ?_) (fun hf => ?_)
      · exact hK6 _ _ hf _ _ _ (lv_sub hl [0, 1, 2] rfl) hs
      · refine lv_iload_n S.1 S.2.1 dL_sound_12 rfl (lv_at hl 1 rfl) ?_
        refine z_if_eq (tgt := 37) S hf dL_sound_13 (by decide) (fun hf => ?_) (fun hf => ?_)
        · exact hK6 _ _ hf _ _ _ (lv_sub hl [0, 1, 2] rfl) hs
        · refine lv_aload_n S.1 S.2.1 dL_sound_16 rfl (lv_at hl 0 rfl) ?_
          refine lv_iload_n S.1 S.2.1 dL_sound_17 rfl (lv_at hl 3 rfl) ?_
          refine qcT S K hs hl.1 hf (fun _ hX => metL_line _ _ _ _ _ _ _ _ _ _ _ hX) (cwL_31 S.2.2.2.2 ⟨Nat.le_of_ble_eq_true rfl, Nat.le_of_ble_eq_true rfl⟩) rfl dL_sound_18 rfl (Nat.le_of_ble_eq_true rfl) ⟨Nat.le_of_ble_eq_true rfl, Nat.le_of_ble_eq_true rfl⟩ (fun x1 H locs hs hf => ?_)
          refine lv_istore_n (lv' := [(1, .int x1), (0, .ref (a 0 0)), (2, .int y2), (3, .int y3)]) S.1 S.2.1 dL_sound_21 rfl hl (by decide) rfl (fun ls hl => ?_)
          refine lv_iload_n S.1 S.2.1 dL_sound_22 rfl (lv_at hl 2 rfl) ?_
          refine lv_aload_n S.1 S.2.1 dL_sound_23 rfl (lv_at hl 1 rfl) ?_
          refine lv_iload_n S.1 S.2.1 dL_sound_24 rfl (lv_at hl 3 rfl) ?_
          refine lv_iconst S.1 S.2.1 dL_sound_25 k_iconst_4 ?_
          refine qcP (qV0 K hs) S K hs hl.1 hf (fun _ hX => metX8_line _ _ _ _ _ _ _ _ _ _ _ _ hX) (cwL_19 S.2.2.2.2 ⟨Nat.le_of_ble_eq_true rfl, Nat.le_of_ble_eq_true rfl⟩) rfl dL_sound_26 rfl (Nat.le_of_ble_eq_true rfl) ⟨Nat.le_of_ble_eq_true rfl, Nat.le_of_ble_eq_true rfl⟩ (fun x2 H locs hs hf => ?_)
          refine lv_iadd S.1 S.2.1 dL_sound_29 ?_
          refine lv_istore_n (lv' := [(2, .int (y2 + x2)), (1, .int x1), (0, .ref (a 0 0)), (3, .int y3)]) S.1 S.2.1 dL_sound_30 rfl hl (by decide) rfl (fun ls hl => ?_)
          refine lv_iinc (v := y3 + nI 1) (lv' := [(3, .int (y3 + nI 1)), (2, .int (y2 + x2)), (1, .int x1), (0, .ref (a 0 0))]) S.1 S.2.1 dL_sound_31 hl (k := 3) rfl (by rw [k_iconst_1]) (by decide) rfl (fun ls hl => ?_)
          refine lv_goto (tgt := 6) S.1 S.2.1 dL_sound_34 (by decide) ?_
          exact ih _ _ _ hf _ _ _ (lv_sub hl [3, 2, 1, 0] rfl) hs
  have L39 : ∀ (K39 : Int32 → Int32 → Option (Int32)) (hK39 : ∀ (y1 : Int32) (y2 : Int32), K39 y1 y2 = some res → qGo p l e rmL_sound s m args below meth c (MQ below (qQi D cI cB cM ad6 a A r0 σ) args s 0 0 (A)) D cI cB cM ad6 a A 0 0 4 σ [(0, .ref (a 0 0)), (1, .int y1), (2, .int y2)] 64 []) (n : Nat) (y1 : Int32) (y2 : Int32) (y3 : Int32), fL_sound_l39 σ K39 n y1 y2 y3 = some res → qGo p l e rmL_sound s m args below meth c (MQ below (qQi D cI cB cM ad6 a A r0 σ) args s 0 0 (A)) D cI cB cM ad6 a A 0 0 4 σ [(0, .ref (a 0 0)), (1, .int y1), (2, .int y2), (3, .int y3)] 39 [] := by
    intro K39 hK39 n
    induction n with
    | zero =>
      intro y1 y2 y3 hf H locs ls hl hs
      rw [fL_sound_l39] at hf
      cases hf
    | succ n ih =>
      intro y1 y2 y3 hf H locs ls hl hs
      rw [fL_sound_l39] at hf
      refine lv_iload_n S.1 S.2.1 dL_sound_39 rfl (lv_at hl 3 rfl) ?_
      refine lv_aload_n S.1 S.2.1 dL_sound_40 rfl (lv_at hl 0 rfl) ?_
      refine lv_iconst S.1 S.2.1 dL_sound_41 k_iconst_0 ?_
      refine qcP (qV0 K hs) S K hs hl.1 hf (fun _ hX => metX8_value _ _ _ _ _ _ _ _ _ _ _ hX) (cwL_9 S.2.2.2.2 ⟨Nat.le_of_ble_eq_true rfl, Nat.le_of_ble_eq_true rfl⟩) rfl dL_sound_42 rfl (Nat.le_of_ble_eq_true rfl) ⟨Nat.le_of_ble_eq_true rfl, Nat.le_of_ble_eq_true rfl⟩ (fun x5 H locs hs hf => ?_)
      refine z_icmp_ge (tgt := 64) S hf dL_sound_45 (by decide) (fun hf => ?_) (fun hf => ?_)
      · exact hK39 _ _ hf _ _ _ (lv_sub hl [0, 1, 2] rfl) hs
      · refine lv_iload_n S.1 S.2.1 dL_sound_48 rfl (lv_at hl 1 rfl) ?_
        refine z_if_eq (tgt := 64) S hf dL_sound_49 (by decide) (fun hf => ?_) (fun hf => ?_)
        · exact hK39 _ _ hf _ _ _ (lv_sub hl [0, 1, 2] rfl) hs
        · refine lv_aload_n S.1 S.2.1 dL_sound_52 rfl (lv_at hl 0 rfl) ?_
          refine lv_iload_n S.1 S.2.1 dL_sound_53 rfl (lv_at hl 3 rfl) ?_
          refine qcT S K hs hl.1 hf (fun _ hX => metL_cache _ _ _ _ _ _ _ _ _ _ _ hX) (cwL_34 S.2.2.2.2 ⟨Nat.le_of_ble_eq_true rfl, Nat.le_of_ble_eq_true rfl⟩) rfl dL_sound_54 rfl (Nat.le_of_ble_eq_true rfl) ⟨Nat.le_of_ble_eq_true rfl, Nat.le_of_ble_eq_true rfl⟩ (fun x6 H locs hs hf => ?_)
          refine lv_istore_n (lv' := [(1, .int x6), (0, .ref (a 0 0)), (2, .int y2), (3, .int y3)]) S.1 S.2.1 dL_sound_57 rfl hl (by decide) rfl (fun ls hl => ?_)
          refine lv_iinc (v := y3 + nI 1) (lv' := [(3, .int (y3 + nI 1)), (1, .int x6), (0, .ref (a 0 0)), (2, .int y2)]) S.1 S.2.1 dL_sound_58 hl (k := 3) rfl (by rw [k_iconst_1]) (by decide) rfl (fun ls hl => ?_)
          refine lv_goto (tgt := 39) S.1 S.2.1 dL_sound_61 (by decide) ?_
          exact ih _ _ _ hf _ _ _ (lv_sub hl [2, 1, 3, 0] rfl) hs
  have J131 : fL_sound_j131 σ = some res → qGo p l e rmL_sound s m args below meth c (MQ below (qQi D cI cB cM ad6 a A r0 σ) args s 0 0 (A)) D cI cB cM ad6 a A 0 0 4 σ [] 131 [] := by
    intro hf H locs ls hl hs
    unfold fL_sound_j131 at hf
    refine lv_iconst S.1 S.2.1 dL_sound_131 k_iconst_1 ?_
    refine lv_goto (tgt := 136) S.1 S.2.1 dL_sound_132 (by decide) ?_
    exact qrB S K hr hk hs (hf.trans (congrArg some hres)) dL_sound_136
  have J114 : ∀ (y3 : Int32) (w0 : Int32) (w1 : Int32), fL_sound_j114 σ y3 w0 w1 = some res → qGo p l e rmL_sound s m args below meth c (MQ below (qQi D cI cB cM ad6 a A r0 σ) args s 0 0 (A)) D cI cB cM ad6 a A 0 0 4 σ [(0, .ref (a 0 0)), (3, .int y3)] 114 [.int w0, .int w1] := by
    intro y3 w0 w1 hf H locs ls hl hs
    unfold fL_sound_j114 at hf
    refine z_icmp_ne (tgt := 135) S hf dL_sound_114 (by decide) (fun hf => ?_) (fun hf => ?_)
    · refine lv_iconst S.1 S.2.1 dL_sound_135 k_iconst_0 ?_
      exact qrB S K hr hk hs (hf.trans (congrArg some hres)) dL_sound_136
    · refine lv_iload_n S.1 S.2.1 dL_sound_117 rfl (lv_at hl 1 rfl) ?_
      refine z_if_lt (tgt := 131) S hf dL_sound_118 (by decide) (fun hf => ?_) (fun hf => ?_)
      · exact J131  hf _ _ _ (lv_sub hl [] rfl) hs
      · refine lv_aload_n S.1 S.2.1 dL_sound_121 rfl (lv_at hl 0 rfl) ?_
        refine lv_iload_n S.1 S.2.1 dL_sound_122 rfl (lv_at hl 1 rfl) ?_
        refine lv_iconst S.1 S.2.1 dL_sound_123 k_iconst_4 ?_
        refine qcP (qV0 K hs) S K hs hl.1 hf (fun _ hX => metX8_line _ _ _ _ _ _ _ _ _ _ _ _ hX) (cwL_19 S.2.2.2.2 ⟨Nat.le_of_ble_eq_true rfl, Nat.le_of_ble_eq_true rfl⟩) rfl dL_sound_124 rfl (Nat.le_of_ble_eq_true rfl) ⟨Nat.le_of_ble_eq_true rfl, Nat.le_of_ble_eq_true rfl⟩ (fun x13 H locs hs hf => ?_)
        refine lv_iconst S.1 S.2.1 dL_sound_127 k_iconst_1 ?_
        refine z_icmp_ne (tgt := 135) S hf dL_sound_128 (by decide) (fun hf => ?_) (fun hf => ?_)
        · refine lv_iconst S.1 S.2.1 dL_sound_135 k_iconst_0 ?_
          exact qrB S K hr hk hs (hf.trans (congrArg some hres)) dL_sound_136
        · exact J131  hf _ _ _ (lv_sub hl [] rfl) hs
  have J100 : ∀ (y2 : Int32) (y3 : Int32) (w0 : Int32), fL_sound_j100 σ y2 y3 w0 = some res → qGo p l e rmL_sound s m args below meth c (MQ below (qQi D cI cB cM ad6 a A r0 σ) args s 0 0 (A)) D cI cB cM ad6 a A 0 0 4 σ [(0, .ref (a 0 0)), (2, .int y2), (3, .int y3)] 100 [.int w0] := by
    intro y2 y3 w0 hf H locs ls hl hs
    unfold fL_sound_j100 at hf
    refine lv_iload_n S.1 S.2.1 dL_sound_100 rfl (lv_at hl 1 rfl) ?_
    refine lv_aload_n S.1 S.2.1 dL_sound_101 rfl (lv_at hl 0 rfl) ?_
    refine lv_iconst S.1 S.2.1 dL_sound_102 k_iconst_2 ?_
    refine qcP (qV0 K hs) S K hs hl.1 hf (fun _ hX => metX8_value _ _ _ _ _ _ _ _ _ _ _ hX) (cwL_9 S.2.2.2.2 ⟨Nat.le_of_ble_eq_true rfl, Nat.le_of_ble_eq_true rfl⟩) rfl dL_sound_103 rfl (Nat.le_of_ble_eq_true rfl) ⟨Nat.le_of_ble_eq_true rfl, Nat.le_of_ble_eq_true rfl⟩ (fun x12 H locs hs hf => ?_)
    refine z_icmp_ne (tgt := 113) S hf dL_sound_106 (by decide) (fun hf => ?_) (fun hf => ?_)
    · refine lv_iconst S.1 S.2.1 dL_sound_113 k_iconst_0 ?_
      exact J114 _ _ _ hf _ _ _ (lv_sub hl [0, 2] rfl) hs
    · refine lv_iconst S.1 S.2.1 dL_sound_109 k_iconst_1 ?_
      refine lv_goto (tgt := 114) S.1 S.2.1 dL_sound_110 (by decide) ?_
      exact J114 _ _ _ hf _ _ _ (lv_sub hl [0, 2] rfl) hs
  unfold fL_sound at hf
  refine lv_iconst S.1 S.2.1 dL_sound_0 k_iconst_1 ?_
  refine lv_istore_n (lv' := [(1, .int (nI 1)), (0, .ref (a 0 0))]) S.1 S.2.1 dL_sound_1 rfl hl (by decide) rfl (fun ls hl => ?_)
  refine lv_iconst S.1 S.2.1 dL_sound_2 k_iconst_0 ?_
  refine lv_istore_n (lv' := [(2, .int (nI 0)), (1, .int (nI 1)), (0, .ref (a 0 0))]) S.1 S.2.1 dL_sound_3 rfl hl (by decide) rfl (fun ls hl => ?_)
  refine lv_iconst S.1 S.2.1 dL_sound_4 k_iconst_0 ?_
  refine lv_istore_n (lv' := [(3, .int (nI 0)), (2, .int (nI 0)), (1, .int (nI 1)), (0, .ref (a 0 0))]) S.1 S.2.1 dL_sound_5 rfl hl (by decide) rfl (fun ls hl => ?_)
  refine L6 _ (fun x3 x4 hf H locs ls hl hs => ?_) _ _ _ _ hf _ _ _ (lv_sub hl [3, 2, 1, 0] rfl) hs
  refine lv_iconst S.1 S.2.1 dL_sound_37 k_iconst_0 ?_
  refine lv_istore_n (lv' := [(3, .int (nI 0)), (0, .ref (a 0 0)), (1, .int x3), (2, .int x4)]) S.1 S.2.1 dL_sound_38 rfl hl (by decide) rfl (fun ls hl => ?_)
  refine L39 _ (fun x7 x8 hf H locs ls hl hs => ?_) _ _ _ _ hf _ _ _ (lv_sub hl [1, 2, 3, 0] rfl) hs
  refine lv_aload_n S.1 S.2.1 dL_sound_64 rfl (lv_at hl 0 rfl) ?_
  refine qcP (qV0 K hs) S K hs hl.1 hf (fun _ hX => metX8_nextTorn _ _ _ _ _ _ _ _ _ _ hX) (cwL_37 S.2.2.2.2 ⟨Nat.le_of_ble_eq_true rfl, Nat.le_of_ble_eq_true rfl⟩) rfl dL_sound_65 rfl (Nat.le_of_ble_eq_true rfl) ⟨Nat.le_of_ble_eq_true rfl, Nat.le_of_ble_eq_true rfl⟩ (fun x9 H locs hs hf => ?_)
  refine lv_istore_n (lv' := [(3, .int x9), (0, .ref (a 0 0)), (1, .int x7), (2, .int x8)]) S.1 S.2.1 dL_sound_68 rfl hl (by decide) rfl (fun ls hl => ?_)
  refine lv_iload_n S.1 S.2.1 dL_sound_69 rfl (lv_at hl 2 rfl) ?_
  refine z_if_eq (tgt := 135) S hf dL_sound_70 (by decide) (fun hf => ?_) (fun hf => ?_)
  · refine lv_iconst S.1 S.2.1 dL_sound_135 k_iconst_0 ?_
    exact qrB S K hr hk hs (hf.trans (congrArg some hres)) dL_sound_136
  · refine lv_iload_n S.1 S.2.1 dL_sound_73 rfl (lv_at hl 3 rfl) ?_
    refine lv_aload_n S.1 S.2.1 dL_sound_74 rfl (lv_at hl 1 rfl) ?_
    refine lv_iconst S.1 S.2.1 dL_sound_75 k_iconst_3 ?_
    refine qcP (qV0 K hs) S K hs hl.1 hf (fun _ hX => metX8_value _ _ _ _ _ _ _ _ _ _ _ hX) (cwL_9 S.2.2.2.2 ⟨Nat.le_of_ble_eq_true rfl, Nat.le_of_ble_eq_true rfl⟩) rfl dL_sound_76 rfl (Nat.le_of_ble_eq_true rfl) ⟨Nat.le_of_ble_eq_true rfl, Nat.le_of_ble_eq_true rfl⟩ (fun x10 H locs hs hf => ?_)
    refine z_icmp_ne (tgt := 135) S hf dL_sound_79 (by decide) (fun hf => ?_) (fun hf => ?_)
    · refine lv_iconst S.1 S.2.1 dL_sound_135 k_iconst_0 ?_
      exact qrB S K hr hk hs (hf.trans (congrArg some hres)) dL_sound_136
    · refine lv_iload_n S.1 S.2.1 dL_sound_82 rfl (lv_at hl 3 rfl) ?_
      refine lv_aload_n S.1 S.2.1 dL_sound_83 rfl (lv_at hl 1 rfl) ?_
      refine lv_iconst S.1 S.2.1 dL_sound_84 k_iconst_2 ?_
      refine qcP (qV0 K hs) S K hs hl.1 hf (fun _ hX => metX8_value _ _ _ _ _ _ _ _ _ _ _ hX) (cwL_9 S.2.2.2.2 ⟨Nat.le_of_ble_eq_true rfl, Nat.le_of_ble_eq_true rfl⟩) rfl dL_sound_85 rfl (Nat.le_of_ble_eq_true rfl) ⟨Nat.le_of_ble_eq_true rfl, Nat.le_of_ble_eq_true rfl⟩ (fun x11 H locs hs hf => ?_)
      refine z_icmp_gt (tgt := 135) S hf dL_sound_88 (by decide) (fun hf => ?_) (fun hf => ?_)
      · refine lv_iconst S.1 S.2.1 dL_sound_135 k_iconst_0 ?_
        exact qrB S K hr hk hs (hf.trans (congrArg some hres)) dL_sound_136
      · refine lv_iload_n S.1 S.2.1 dL_sound_91 rfl (lv_at hl 0 rfl) ?_
        refine z_if_lt (tgt := 99) S hf dL_sound_92 (by decide) (fun hf => ?_) (fun hf => ?_)
        · refine lv_iconst S.1 S.2.1 dL_sound_99 k_iconst_0 ?_
          exact J100 _ _ _ hf _ _ _ (lv_sub hl [1, 3, 0] rfl) hs
        · refine lv_iconst S.1 S.2.1 dL_sound_95 k_iconst_1 ?_
          refine lv_goto (tgt := 100) S.1 S.2.1 dL_sound_96 (by decide) ?_
          exact J100 _ _ _ hf _ _ _ (lv_sub hl [1, 3, 0] rfl) hs
theorem metL_sound (l : Launch) (D : va_G) (cI : ClassId) (cB cM : ClassId) (ad6 : Nat → Nat) (a : Nat → Nat → Nat) (A : Nat → Prop) (σ : cSt) (r0 : Int32) (hf : fL_sound σ = some r0) : Met l yL_sound (Cond.code yL_sound cL_sound 4 (some .boolean) :: WA) rmL_sound (qPc D cI cB cM ad6 a A σ [.ref (a 0 0)]) ((qQi D cI cB cM ad6 a A r0 σ)) 0 0 (A) :=
  qMet (by decide) (Nat.le_of_ble_eq_true rfl) (fun p e s m args below meth c H locs ls S K hr hk hl hs => bdL_sound S K hr hk  _ _ hf hl hs)
