/-! the law's methods: contracts (by wip/tools/rworld.py) -/
set_option maxHeartbeats 4000000 in
set_option maxRecDepth 100000 in
theorem bdL_ones {p : Program} {l : Launch} {e : Env} {s : State} {m : MethodId} {args : Array Value} {below : List Frame} {meth : Method} {c : Code} {H : Heap} {locs : List Loc} {ls : Array Slot} {D : va_G} {cI : ClassId} {cB cM : ClassId} {ad6 : Nat → Nat} {a : Nat → Nat → Nat} {A : Nat → Prop} (S : CallFix p m c cL_ones 3 s args WA RL) (K : qK D cI cB cM ad6 A s) (hr : meth.sig.returnType = (some .int)) (hk : meth.locks = false) (a0 : Int32) (σ : cSt) (r0 : Int32) (hf : fL_ones a0 σ = some r0) (hl : lv_has ls 3 [(0, .int a0)]) (hs : qS D cI cB cM ad6 a A s σ H locs) : W p l e rmL_ones s m args below meth c H locs 0 0 (MQ below (qQi D cI cB cM ad6 a A r0 σ) args s 0 0 (A)) (F0 m 0 ls []) := by
  obtain ⟨res, hres⟩ : ∃ q, q = r0 := ⟨_, rfl⟩
  rw [← hres] at hf
  have L4 : ∀ (K4 : Int32 → Option (Int32)) (hK4 : ∀ (y1 : Int32), K4 y1 = some res → qGo p l e rmL_ones s m args below meth c (MQ below (qQi D cI cB cM ad6 a A r0 σ) args s 0 0 (A)) D cI cB cM ad6 a A 0 0 3 σ [(1, .int y1)] 24 []) (n : Nat) (y0 : Int32) (y1 : Int32) (y2 : Int32), fL_ones_l4 σ K4 n y0 y1 y2 = some res → qGo p l e rmL_ones s m args below meth c (MQ below (qQi D cI cB cM ad6 a A r0 σ) args s 0 0 (A)) D cI cB cM ad6 a A 0 0 3 σ [(0, .int y0), (1, .int y1), (2, .int y2)] 4 [] := by
    intro K4 hK4 n
    induction n with
    | zero =>
      intro y0 y1 y2 hf H locs ls hl hs
      rw [fL_ones_l4] at hf
      cases hf
    | succ n ih =>
      intro y0 y1 y2 hf H locs ls hl hs
      rw [fL_ones_l4] at hf
      refine lv_iload_n S.1 S.2.1 dL_ones_4 rfl (lv_at hl 2 rfl) ?_
      refine lv_bipush S.1 S.2.1 dL_ones_5 k_bipush_8 ?_
      refine z_icmp_ge (tgt := 24) S hf dL_ones_7 (by decide) (fun hf => ?_) (fun hf => ?_)
      · exact hK4 _ hf _ _ _ (lv_sub hl [1] rfl) hs
      · refine lv_iload_n S.1 S.2.1 dL_ones_10 rfl (lv_at hl 1 rfl) ?_
        refine lv_iload_n S.1 S.2.1 dL_ones_11 rfl (lv_at hl 0 rfl) ?_
        refine lv_iload_n S.1 S.2.1 dL_ones_12 rfl (lv_at hl 2 rfl) ?_
        refine lv_ishr S.1 S.2.1 dL_ones_13 ?_
        refine lv_iconst S.1 S.2.1 dL_ones_14 k_iconst_1 ?_
        refine lv_iand S.1 S.2.1 dL_ones_15 ?_
        refine lv_iadd S.1 S.2.1 dL_ones_16 ?_
        refine lv_istore_n (lv' := [(1, .int (y1 + ((y0 >>> (y2 &&& 31)) &&& (nI 1)))), (0, .int y0), (2, .int y2)]) S.1 S.2.1 dL_ones_17 rfl hl (by decide) rfl (fun ls hl => ?_)
        refine lv_iinc (v := y2 + nI 1) (lv' := [(2, .int (y2 + nI 1)), (1, .int (y1 + ((y0 >>> (y2 &&& 31)) &&& (nI 1)))), (0, .int y0)]) S.1 S.2.1 dL_ones_18 hl (k := 2) rfl (by rw [k_iconst_1]) (by decide) rfl (fun ls hl => ?_)
        refine lv_goto (tgt := 4) S.1 S.2.1 dL_ones_21 (by decide) ?_
        exact ih _ _ _ hf _ _ _ (lv_sub hl [2, 1, 0] rfl) hs
  unfold fL_ones at hf
  refine lv_iconst S.1 S.2.1 dL_ones_0 k_iconst_0 ?_
  refine lv_istore_n (lv' := [(1, .int (nI 0)), (0, .int a0)]) S.1 S.2.1 dL_ones_1 rfl hl (by decide) rfl (fun ls hl => ?_)
  refine lv_iconst S.1 S.2.1 dL_ones_2 k_iconst_0 ?_
  refine lv_istore_n (lv' := [(2, .int (nI 0)), (1, .int (nI 0)), (0, .int a0)]) S.1 S.2.1 dL_ones_3 rfl hl (by decide) rfl (fun ls hl => ?_)
  refine L4 _ (fun x1 hf H locs ls hl hs => ?_) _ _ _ _ hf _ _ _ (lv_sub hl [2, 1, 0] rfl) hs
  refine lv_iload_n S.1 S.2.1 dL_ones_24 rfl (lv_at hl 0 rfl) ?_
  exact qrP S K hr hk hs (hf.trans (congrArg some hres)) dL_ones_25
theorem metL_ones (l : Launch) (D : va_G) (cI : ClassId) (cB cM : ClassId) (ad6 : Nat → Nat) (a : Nat → Nat → Nat) (A : Nat → Prop) (a0 : Int32) (σ : cSt) (r0 : Int32) (hf : fL_ones a0 σ = some r0) : Met l yL_ones (Cond.code yL_ones cL_ones 3 (some .int) :: WA) rmL_ones (qPc D cI cB cM ad6 a A σ [.int a0]) ((qQi D cI cB cM ad6 a A r0 σ)) 0 0 (A) :=
  qMet (by decide) (Nat.le_of_ble_eq_true rfl) (fun p e s m args below meth c H locs ls S K hr hk hl hs => bdL_ones S K hr hk _ _ _ hf hl hs)
set_option maxHeartbeats 4000000 in
set_option maxRecDepth 100000 in
theorem bdL_acts {p : Program} {l : Launch} {e : Env} {s : State} {m : MethodId} {args : Array Value} {below : List Frame} {meth : Method} {c : Code} {H : Heap} {locs : List Loc} {ls : Array Slot} {D : va_G} {cI : ClassId} {cB cM : ClassId} {ad6 : Nat → Nat} {a : Nat → Nat → Nat} {A : Nat → Prop} (S : CallFix p m c cL_acts 7 s args WA RL) (K : qK D cI cB cM ad6 A s) (hr : meth.sig.returnType = (some .int)) (hk : meth.locks = false) (a1 : Int32) (σ : cSt) (r0 : Int32) (σ0 : cSt) (hf : fL_acts a1 σ = some (r0, σ0)) (hl : lv_has ls 7 [(0, .ref (a 0 0)), (1, .int a1)]) (hs : qS D cI cB cM ad6 a A s σ H locs) : W p l e rmL_acts s m args below meth c H locs 0 0 (MQ below (qQi D cI cB cM ad6 a A r0 σ0) args s 0 0 (A)) (F0 m 0 ls []) := by
  obtain ⟨res, hres⟩ : ∃ q, q = (r0, σ0) := ⟨_, rfl⟩
  rw [← hres] at hf
  have J269 : ∀ (y1 : Int32) (σ : cSt), fL_acts_j269 y1 σ = some res → qGo p l e rmL_acts s m args below meth c (MQ below (qQi D cI cB cM ad6 a A r0 σ0) args s 0 0 (A)) D cI cB cM ad6 a A 0 0 7 σ [(0, .ref (a 0 0)), (1, .int y1)] 269 [] := by
    intro y1 σ hf H locs ls hl hs
    unfold fL_acts_j269 at hf
    refine lv_aload_n S.1 S.2.1 dL_acts_269 rfl (lv_at hl 0 rfl) ?_
    refine lv_iconst S.1 S.2.1 dL_acts_270 k_iconst_1 ?_
    refine lv_iload_n S.1 S.2.1 dL_acts_271 rfl (lv_at hl 1 rfl) ?_
    refine lv_bipush S.1 S.2.1 dL_acts_272 k_bipush_11 ?_
    refine lv_ishr S.1 S.2.1 dL_acts_274 ?_
    refine lv_iconst S.1 S.2.1 dL_acts_275 k_iconst_2 ?_
    refine z_irem S hf dL_acts_276 (fun x5 hf => ?_)
    refine lv_iadd S.1 S.2.1 dL_acts_277 ?_
    refine qcV (qV0 K hs) S K hs hl.1 hf (fun _ _ hX => metX8_pass _ _ _ _ _ _ _ _ _ _ _ _ hX) (cwL_69 S.2.2.2.2 ⟨Nat.le_of_ble_eq_true rfl, Nat.le_of_ble_eq_true rfl⟩) rfl dL_acts_278 rfl (Nat.le_of_ble_eq_true rfl) ⟨Nat.le_of_ble_eq_true rfl, Nat.le_of_ble_eq_true rfl⟩ (fun x6 σ7 H locs hs hf => ?_)
    exact qrI S K hr hk hs (hf.trans (congrArg some hres)) dL_acts_281
  have J259 : ∀ (w0 : Int32) (w1 : Int32) (σ : cSt), fL_acts_j259 w0 w1 σ = some res → qGo p l e rmL_acts s m args below meth c (MQ below (qQi D cI cB cM ad6 a A r0 σ0) args s 0 0 (A)) D cI cB cM ad6 a A 0 0 7 σ [] 259 [.int w0, .int w1] := by
    intro w0 w1 σ hf H locs ls hl hs
    unfold fL_acts_j259 at hf
    refine z_icmp_ne (tgt := 266) S hf dL_acts_259 (by decide) (fun hf => ?_) (fun hf => ?_)
    · refine lv_bipush S.1 S.2.1 dL_acts_266 k_bipush_m2 ?_
      exact qrI S K hr hk hs (hf.trans (congrArg some hres)) dL_acts_268
    · refine lv_iconst S.1 S.2.1 dL_acts_262 k_iconst_0 ?_
      refine lv_goto (tgt := 268) S.1 S.2.1 dL_acts_263 (by decide) ?_
      exact qrI S K hr hk hs (hf.trans (congrArg some hres)) dL_acts_268
  have J229 : ∀ (y3 : Int32) (w0 : Int32) (w1 : Int32) (σ : cSt), fL_acts_j229 y3 w0 w1 σ = some res → qGo p l e rmL_acts s m args below meth c (MQ below (qQi D cI cB cM ad6 a A r0 σ0) args s 0 0 (A)) D cI cB cM ad6 a A 0 0 7 σ [(0, .ref (a 0 0)), (3, .int y3)] 229 [.int w0, .int w1] := by
    intro y3 w0 w1 σ hf H locs ls hl hs
    unfold fL_acts_j229 at hf
    refine lv_iadd S.1 S.2.1 dL_acts_229 ?_
    refine lv_istore (lv' := [(6, .int (w1 + w0)), (0, .ref (a 0 0)), (3, .int y3)]) S.1 S.2.1 dL_acts_230 hl (by decide) rfl (fun ls hl => ?_)
    refine lv_aload_n S.1 S.2.1 dL_acts_232 rfl (lv_at hl 1 rfl) ?_
    refine lv_iload_n S.1 S.2.1 dL_acts_233 rfl (lv_at hl 2 rfl) ?_
    refine qcV (qV0 K hs) S K hs hl.1 hf (fun _ _ hX => metX8_tear _ _ _ _ _ _ _ _ _ _ _ _ hX) (cwL_66 S.2.2.2.2 ⟨Nat.le_of_ble_eq_true rfl, Nat.le_of_ble_eq_true rfl⟩) rfl dL_acts_234 rfl (Nat.le_of_ble_eq_true rfl) ⟨Nat.le_of_ble_eq_true rfl, Nat.le_of_ble_eq_true rfl⟩ (fun x12 σ13 H locs hs hf => ?_)
    refine lv_iload S.1 S.2.1 dL_acts_237 (lv_at hl 0 rfl) ?_
    refine z_icmp_ne (tgt := 266) S hf dL_acts_239 (by decide) (fun hf => ?_) (fun hf => ?_)
    · refine lv_bipush S.1 S.2.1 dL_acts_266 k_bipush_m2 ?_
      exact qrI S K hr hk hs (hf.trans (congrArg some hres)) dL_acts_268
    · refine lv_aload_n S.1 S.2.1 dL_acts_242 rfl (lv_at hl 1 rfl) ?_
      refine lv_iload_n S.1 S.2.1 dL_acts_243 rfl (lv_at hl 2 rfl) ?_
      refine lv_bipush S.1 S.2.1 dL_acts_244 k_bipush_7 ?_
      refine qcP (qV0 K hs) S K hs hl.1 hf (fun _ hX => metX8_line _ _ _ _ _ _ _ _ _ _ _ _ hX) (cwL_19 S.2.2.2.2 ⟨Nat.le_of_ble_eq_true rfl, Nat.le_of_ble_eq_true rfl⟩) rfl dL_acts_246 rfl (Nat.le_of_ble_eq_true rfl) ⟨Nat.le_of_ble_eq_true rfl, Nat.le_of_ble_eq_true rfl⟩ (fun x14 H locs hs hf => ?_)
      refine lv_iload S.1 S.2.1 dL_acts_249 (lv_at hl 0 rfl) ?_
      refine z_if_le (tgt := 258) S hf dL_acts_251 (by decide) (fun hf => ?_) (fun hf => ?_)
      · refine lv_iconst S.1 S.2.1 dL_acts_258 k_iconst_0 ?_
        exact J259 _ _ _ hf _ _ _ (lv_sub hl [] rfl) hs
      · refine lv_iconst S.1 S.2.1 dL_acts_254 k_iconst_1 ?_
        refine lv_goto (tgt := 259) S.1 S.2.1 dL_acts_255 (by decide) ?_
        exact J259 _ _ _ hf _ _ _ (lv_sub hl [] rfl) hs
  have J189 : ∀ (y1 : Int32) (y3 : Int32) (y4 : Int32) (σ : cSt), fL_acts_j189 y1 y3 y4 σ = some res → qGo p l e rmL_acts s m args below meth c (MQ below (qQi D cI cB cM ad6 a A r0 σ0) args s 0 0 (A)) D cI cB cM ad6 a A 0 0 7 σ [(0, .ref (a 0 0)), (1, .int y1), (3, .int y3), (4, .int y4)] 189 [] := by
    intro y1 y3 y4 σ hf H locs ls hl hs
    unfold fL_acts_j189 at hf
    refine lv_iload S.1 S.2.1 dL_acts_189 (lv_at hl 3 rfl) ?_
    refine lv_bipush S.1 S.2.1 dL_acts_191 k_bipush_7 ?_
    refine z_icmp_ne (tgt := 269) S hf dL_acts_193 (by decide) (fun hf => ?_) (fun hf => ?_)
    · exact J269 _ _ hf _ _ _ (lv_sub hl [0, 1] rfl) hs
    · refine lv_aload_n S.1 S.2.1 dL_acts_196 rfl (lv_at hl 0 rfl) ?_
      refine lv_iload_n S.1 S.2.1 dL_acts_197 rfl (lv_at hl 2 rfl) ?_
      refine lv_iconst S.1 S.2.1 dL_acts_198 k_iconst_4 ?_
      refine qcP (qV0 K hs) S K hs hl.1 hf (fun _ hX => metX8_line _ _ _ _ _ _ _ _ _ _ _ _ hX) (cwL_19 S.2.2.2.2 ⟨Nat.le_of_ble_eq_true rfl, Nat.le_of_ble_eq_true rfl⟩) rfl dL_acts_199 rfl (Nat.le_of_ble_eq_true rfl) ⟨Nat.le_of_ble_eq_true rfl, Nat.le_of_ble_eq_true rfl⟩ (fun x8 H locs hs hf => ?_)
      refine lv_iconst S.1 S.2.1 dL_acts_202 k_iconst_1 ?_
      refine z_icmp_ne (tgt := 269) S hf dL_acts_203 (by decide) (fun hf => ?_) (fun hf => ?_)
      · exact J269 _ _ hf _ _ _ (lv_sub hl [0, 1] rfl) hs
      · refine lv_aload_n S.1 S.2.1 dL_acts_206 rfl (lv_at hl 0 rfl) ?_
        refine lv_iload_n S.1 S.2.1 dL_acts_207 rfl (lv_at hl 2 rfl) ?_
        refine lv_iconst S.1 S.2.1 dL_acts_208 k_iconst_3 ?_
        refine qcP (qV0 K hs) S K hs hl.1 hf (fun _ hX => metX8_line _ _ _ _ _ _ _ _ _ _ _ _ hX) (cwL_19 S.2.2.2.2 ⟨Nat.le_of_ble_eq_true rfl, Nat.le_of_ble_eq_true rfl⟩) rfl dL_acts_209 rfl (Nat.le_of_ble_eq_true rfl) ⟨Nat.le_of_ble_eq_true rfl, Nat.le_of_ble_eq_true rfl⟩ (fun x9 H locs hs hf => ?_)
        refine qcT S K hs hl.1 hf (fun _ hX => metL_ones _ _ _ _ _ _ _ _ _ _ _ hX) (cwL_23 S.2.2.2.2 ⟨Nat.le_of_ble_eq_true rfl, Nat.le_of_ble_eq_true rfl⟩) rfl dL_acts_212 rfl (Nat.le_of_ble_eq_true rfl) ⟨Nat.le_of_ble_eq_true rfl, Nat.le_of_ble_eq_true rfl⟩ (fun x10 H locs hs hf => ?_)
        refine lv_aload_n S.1 S.2.1 dL_acts_215 rfl (lv_at hl 0 rfl) ?_
        refine lv_iload_n S.1 S.2.1 dL_acts_216 rfl (lv_at hl 2 rfl) ?_
        refine lv_iconst S.1 S.2.1 dL_acts_217 k_iconst_2 ?_
        refine qcP (qV0 K hs) S K hs hl.1 hf (fun _ hX => metX8_line _ _ _ _ _ _ _ _ _ _ _ _ hX) (cwL_19 S.2.2.2.2 ⟨Nat.le_of_ble_eq_true rfl, Nat.le_of_ble_eq_true rfl⟩) rfl dL_acts_218 rfl (Nat.le_of_ble_eq_true rfl) ⟨Nat.le_of_ble_eq_true rfl, Nat.le_of_ble_eq_true rfl⟩ (fun x11 H locs hs hf => ?_)
        refine z_if_lt (tgt := 228) S hf dL_acts_221 (by decide) (fun hf => ?_) (fun hf => ?_)
        · refine lv_iconst S.1 S.2.1 dL_acts_228 k_iconst_0 ?_
          exact J229 _ _ _ _ hf _ _ _ (lv_sub hl [0, 2] rfl) hs
        · refine lv_iconst S.1 S.2.1 dL_acts_224 k_iconst_1 ?_
          refine lv_goto (tgt := 229) S.1 S.2.1 dL_acts_225 (by decide) ?_
          exact J229 _ _ _ _ hf _ _ _ (lv_sub hl [0, 2] rfl) hs
  have J133 : ∀ (y1 : Int32) (y2 : Int32) (y3 : Int32) (y4 : Int32) (σ : cSt), fL_acts_j133 y1 y2 y3 y4 σ = some res → qGo p l e rmL_acts s m args below meth c (MQ below (qQi D cI cB cM ad6 a A r0 σ0) args s 0 0 (A)) D cI cB cM ad6 a A 0 0 7 σ [(0, .ref (a 0 0)), (1, .int y1), (2, .int y2), (3, .int y3), (4, .int y4)] 133 [] := by
    intro y1 y2 y3 y4 σ hf H locs ls hl hs
    unfold fL_acts_j133 at hf
    refine lv_iload S.1 S.2.1 dL_acts_133 (lv_at hl 4 rfl) ?_
    refine lv_bipush S.1 S.2.1 dL_acts_135 k_bipush_6 ?_
    refine z_icmp_ne (tgt := 189) S hf dL_acts_137 (by decide) (fun hf => ?_) (fun hf => ?_)
    · exact J189 _ _ _ _ hf _ _ _ (lv_sub hl [0, 1, 3, 4] rfl) hs
    · refine lv_aload_n S.1 S.2.1 dL_acts_140 rfl (lv_at hl 0 rfl) ?_
      refine lv_iload_n S.1 S.2.1 dL_acts_141 rfl (lv_at hl 2 rfl) ?_
      refine lv_iload_n S.1 S.2.1 dL_acts_142 rfl (lv_at hl 3 rfl) ?_
      refine lv_iconst S.1 S.2.1 dL_acts_143 k_iconst_0 ?_
      refine qcP (qV0 K hs) S K hs hl.1 hf (fun _ hX => metX8_copy _ _ _ _ _ _ _ _ _ _ _ _ _ hX) (cwL_15 S.2.2.2.2 ⟨Nat.le_of_ble_eq_true rfl, Nat.le_of_ble_eq_true rfl⟩) rfl dL_acts_144 rfl (Nat.le_of_ble_eq_true rfl) ⟨Nat.le_of_ble_eq_true rfl, Nat.le_of_ble_eq_true rfl⟩ (fun x15 H locs hs hf => ?_)
      refine z_if_le (tgt := 189) S hf dL_acts_147 (by decide) (fun hf => ?_) (fun hf => ?_)
      · exact J189 _ _ _ _ hf _ _ _ (lv_sub hl [0, 1, 3, 4] rfl) hs
      · refine lv_aload_n S.1 S.2.1 dL_acts_150 rfl (lv_at hl 0 rfl) ?_
        refine lv_iload_n S.1 S.2.1 dL_acts_151 rfl (lv_at hl 2 rfl) ?_
        refine lv_iload_n S.1 S.2.1 dL_acts_152 rfl (lv_at hl 3 rfl) ?_
        refine lv_iconst S.1 S.2.1 dL_acts_153 k_iconst_0 ?_
        refine qcP (qV0 K hs) S K hs hl.1 hf (fun _ hX => metX8_copy _ _ _ _ _ _ _ _ _ _ _ _ _ hX) (cwL_15 S.2.2.2.2 ⟨Nat.le_of_ble_eq_true rfl, Nat.le_of_ble_eq_true rfl⟩) rfl dL_acts_154 rfl (Nat.le_of_ble_eq_true rfl) ⟨Nat.le_of_ble_eq_true rfl, Nat.le_of_ble_eq_true rfl⟩ (fun x16 H locs hs hf => ?_)
        refine lv_iconst S.1 S.2.1 dL_acts_157 k_iconst_1 ?_
        refine lv_isub S.1 S.2.1 dL_acts_158 ?_
        refine lv_istore (lv' := [(6, .int (x16 - (nI 1))), (0, .ref (a 0 0)), (1, .int y1), (2, .int y2), (3, .int y3), (4, .int y4)]) S.1 S.2.1 dL_acts_159 hl (by decide) rfl (fun ls hl => ?_)
        refine lv_aload_n S.1 S.2.1 dL_acts_161 rfl (lv_at hl 1 rfl) ?_
        refine lv_iload_n S.1 S.2.1 dL_acts_162 rfl (lv_at hl 3 rfl) ?_
        refine lv_iload_n S.1 S.2.1 dL_acts_163 rfl (lv_at hl 4 rfl) ?_
        refine qcV (qV0 K hs) S K hs hl.1 hf (fun _ _ hX => metX8_drop _ _ _ _ _ _ _ _ _ _ _ _ _ hX) (cwL_63 S.2.2.2.2 ⟨Nat.le_of_ble_eq_true rfl, Nat.le_of_ble_eq_true rfl⟩) rfl dL_acts_164 rfl (Nat.le_of_ble_eq_true rfl) ⟨Nat.le_of_ble_eq_true rfl, Nat.le_of_ble_eq_true rfl⟩ (fun x17 σ18 H locs hs hf => ?_)
        refine lv_iload S.1 S.2.1 dL_acts_167 (lv_at hl 0 rfl) ?_
        refine z_icmp_ne (tgt := 186) S hf dL_acts_169 (by decide) (fun hf => ?_) (fun hf => ?_)
        · refine lv_bipush S.1 S.2.1 dL_acts_186 k_bipush_m2 ?_
          exact qrI S K hr hk hs (hf.trans (congrArg some hres)) dL_acts_188
        · refine lv_aload_n S.1 S.2.1 dL_acts_172 rfl (lv_at hl 1 rfl) ?_
          refine lv_iload_n S.1 S.2.1 dL_acts_173 rfl (lv_at hl 3 rfl) ?_
          refine lv_iload_n S.1 S.2.1 dL_acts_174 rfl (lv_at hl 4 rfl) ?_
          refine lv_iconst S.1 S.2.1 dL_acts_175 k_iconst_0 ?_
          refine qcP (qV0 K hs) S K hs hl.1 hf (fun _ hX => metX8_copy _ _ _ _ _ _ _ _ _ _ _ _ _ hX) (cwL_15 S.2.2.2.2 ⟨Nat.le_of_ble_eq_true rfl, Nat.le_of_ble_eq_true rfl⟩) rfl dL_acts_176 rfl (Nat.le_of_ble_eq_true rfl) ⟨Nat.le_of_ble_eq_true rfl, Nat.le_of_ble_eq_true rfl⟩ (fun x19 H locs hs hf => ?_)
          refine z_if_ne (tgt := 186) S hf dL_acts_179 (by decide) (fun hf => ?_) (fun hf => ?_)
          · refine lv_bipush S.1 S.2.1 dL_acts_186 k_bipush_m2 ?_
            exact qrI S K hr hk hs (hf.trans (congrArg some hres)) dL_acts_188
          · refine lv_iconst S.1 S.2.1 dL_acts_182 k_iconst_0 ?_
            refine lv_goto (tgt := 188) S.1 S.2.1 dL_acts_183 (by decide) ?_
            exact qrI S K hr hk hs (hf.trans (congrArg some hres)) dL_acts_188
  have J123 : ∀ (w0 : Int32) (w1 : Int32) (σ : cSt), fL_acts_j123 w0 w1 σ = some res → qGo p l e rmL_acts s m args below meth c (MQ below (qQi D cI cB cM ad6 a A r0 σ0) args s 0 0 (A)) D cI cB cM ad6 a A 0 0 7 σ [] 123 [.int w0, .int w1] := by
    intro w0 w1 σ hf H locs ls hl hs
    unfold fL_acts_j123 at hf
    refine z_icmp_ne (tgt := 130) S hf dL_acts_123 (by decide) (fun hf => ?_) (fun hf => ?_)
    · refine lv_bipush S.1 S.2.1 dL_acts_130 k_bipush_m2 ?_
      exact qrI S K hr hk hs (hf.trans (congrArg some hres)) dL_acts_132
    · refine lv_iconst S.1 S.2.1 dL_acts_126 k_iconst_0 ?_
      refine lv_goto (tgt := 132) S.1 S.2.1 dL_acts_127 (by decide) ?_
      exact qrI S K hr hk hs (hf.trans (congrArg some hres)) dL_acts_132
  have J82 : ∀ (y1 : Int32) (y2 : Int32) (y3 : Int32) (y4 : Int32) (y5 : Int32) (σ : cSt), fL_acts_j82 y1 y2 y3 y4 y5 σ = some res → qGo p l e rmL_acts s m args below meth c (MQ below (qQi D cI cB cM ad6 a A r0 σ0) args s 0 0 (A)) D cI cB cM ad6 a A 0 0 7 σ [(0, .ref (a 0 0)), (1, .int y1), (2, .int y2), (3, .int y3), (4, .int y4), (5, .int y5)] 82 [] := by
    intro y1 y2 y3 y4 y5 σ hf H locs ls hl hs
    unfold fL_acts_j82 at hf
    refine lv_iload S.1 S.2.1 dL_acts_82 (lv_at hl 4 rfl) ?_
    refine lv_iconst S.1 S.2.1 dL_acts_84 k_iconst_5 ?_
    refine z_icmp_ge (tgt := 133) S hf dL_acts_85 (by decide) (fun hf => ?_) (fun hf => ?_)
    · exact J133 _ _ _ _ _ hf _ _ _ (lv_sub hl [0, 1, 2, 3, 4] rfl) hs
    · refine lv_iload S.1 S.2.1 dL_acts_88 (lv_at hl 5 rfl) ?_
      refine z_if_eq (tgt := 133) S hf dL_acts_90 (by decide) (fun hf => ?_) (fun hf => ?_)
      · exact J133 _ _ _ _ _ hf _ _ _ (lv_sub hl [0, 1, 2, 3, 4] rfl) hs
      · refine lv_aload_n S.1 S.2.1 dL_acts_93 rfl (lv_at hl 0 rfl) ?_
        refine lv_iload_n S.1 S.2.1 dL_acts_94 rfl (lv_at hl 2 rfl) ?_
        refine lv_iload_n S.1 S.2.1 dL_acts_95 rfl (lv_at hl 3 rfl) ?_
        refine lv_iload_n S.1 S.2.1 dL_acts_96 rfl (lv_at hl 1 rfl) ?_
        refine lv_bipush S.1 S.2.1 dL_acts_97 k_bipush_11 ?_
        refine lv_ishr S.1 S.2.1 dL_acts_99 ?_
        refine lv_sipush S.1 S.2.1 dL_acts_100 k_sipush_1000 ?_
        refine z_irem S hf dL_acts_103 (fun x20 hf => ?_)
        refine qcV (qV0 K hs) S K hs hl.1 hf (fun _ _ hX => metX8_write _ _ _ _ _ _ _ _ _ _ _ _ _ _ hX) (cwL_60 S.2.2.2.2 ⟨Nat.le_of_ble_eq_true rfl, Nat.le_of_ble_eq_true rfl⟩) rfl dL_acts_104 rfl (Nat.le_of_ble_eq_true rfl) ⟨Nat.le_of_ble_eq_true rfl, Nat.le_of_ble_eq_true rfl⟩ (fun x21 σ22 H locs hs hf => ?_)
        refine lv_aload_n S.1 S.2.1 dL_acts_107 rfl (lv_at hl 0 rfl) ?_
        refine lv_iload_n S.1 S.2.1 dL_acts_108 rfl (lv_at hl 2 rfl) ?_
        refine lv_iload_n S.1 S.2.1 dL_acts_109 rfl (lv_at hl 3 rfl) ?_
        refine lv_iconst S.1 S.2.1 dL_acts_110 k_iconst_0 ?_
        refine qcP (qV0 K hs) S K hs hl.1 hf (fun _ hX => metX8_copy _ _ _ _ _ _ _ _ _ _ _ _ _ hX) (cwL_15 S.2.2.2.2 ⟨Nat.le_of_ble_eq_true rfl, Nat.le_of_ble_eq_true rfl⟩) rfl dL_acts_111 rfl (Nat.le_of_ble_eq_true rfl) ⟨Nat.le_of_ble_eq_true rfl, Nat.le_of_ble_eq_true rfl⟩ (fun x23 H locs hs hf => ?_)
        refine lv_iconst S.1 S.2.1 dL_acts_114 k_iconst_2 ?_
        refine z_icmp_ne (tgt := 122) S hf dL_acts_115 (by decide) (fun hf => ?_) (fun hf => ?_)
        · refine lv_iconst S.1 S.2.1 dL_acts_122 k_iconst_0 ?_
          exact J123 _ _ _ hf _ _ _ (lv_sub hl [] rfl) hs
        · refine lv_iconst S.1 S.2.1 dL_acts_118 k_iconst_1 ?_
          refine lv_goto (tgt := 123) S.1 S.2.1 dL_acts_119 (by decide) ?_
          exact J123 _ _ _ hf _ _ _ (lv_sub hl [] rfl) hs
  have J72 : ∀ (w0 : Int32) (w1 : Int32) (σ : cSt), fL_acts_j72 w0 w1 σ = some res → qGo p l e rmL_acts s m args below meth c (MQ below (qQi D cI cB cM ad6 a A r0 σ0) args s 0 0 (A)) D cI cB cM ad6 a A 0 0 7 σ [] 72 [.int w0, .int w1] := by
    intro w0 w1 σ hf H locs ls hl hs
    unfold fL_acts_j72 at hf
    refine z_icmp_ne (tgt := 79) S hf dL_acts_72 (by decide) (fun hf => ?_) (fun hf => ?_)
    · refine lv_bipush S.1 S.2.1 dL_acts_79 k_bipush_m2 ?_
      exact qrI S K hr hk hs (hf.trans (congrArg some hres)) dL_acts_81
    · refine lv_iconst S.1 S.2.1 dL_acts_75 k_iconst_0 ?_
      refine lv_goto (tgt := 81) S.1 S.2.1 dL_acts_76 (by decide) ?_
      exact qrI S K hr hk hs (hf.trans (congrArg some hres)) dL_acts_81
  have J38 : ∀ (y1 : Int32) (y2 : Int32) (y3 : Int32) (y4 : Int32) (w0 : Int32) (σ : cSt), fL_acts_j38 y1 y2 y3 y4 w0 σ = some res → qGo p l e rmL_acts s m args below meth c (MQ below (qQi D cI cB cM ad6 a A r0 σ0) args s 0 0 (A)) D cI cB cM ad6 a A 0 0 7 σ [(0, .ref (a 0 0)), (1, .int y1), (2, .int y2), (3, .int y3), (4, .int y4)] 38 [.int w0] := by
    intro y1 y2 y3 y4 w0 σ hf H locs ls hl hs
    unfold fL_acts_j38 at hf
    refine lv_istore (lv' := [(5, .int w0), (0, .ref (a 0 0)), (1, .int y1), (2, .int y2), (3, .int y3), (4, .int y4)]) S.1 S.2.1 dL_acts_38 hl (by decide) rfl (fun ls hl => ?_)
    refine lv_iload S.1 S.2.1 dL_acts_40 (lv_at hl 5 rfl) ?_
    refine lv_iconst S.1 S.2.1 dL_acts_42 k_iconst_3 ?_
    refine z_icmp_ge (tgt := 82) S hf dL_acts_43 (by decide) (fun hf => ?_) (fun hf => ?_)
    · exact J82 _ _ _ _ _ _ hf _ _ _ (lv_sub hl [1, 2, 3, 4, 5, 0] rfl) hs
    · refine lv_iload S.1 S.2.1 dL_acts_46 (lv_at hl 0 rfl) ?_
      refine z_if_eq (tgt := 82) S hf dL_acts_48 (by decide) (fun hf => ?_) (fun hf => ?_)
      · exact J82 _ _ _ _ _ _ hf _ _ _ (lv_sub hl [1, 2, 3, 4, 5, 0] rfl) hs
      · refine lv_aload_n S.1 S.2.1 dL_acts_51 rfl (lv_at hl 1 rfl) ?_
        refine lv_iload_n S.1 S.2.1 dL_acts_52 rfl (lv_at hl 3 rfl) ?_
        refine lv_iload_n S.1 S.2.1 dL_acts_53 rfl (lv_at hl 4 rfl) ?_
        refine qcV (qV0 K hs) S K hs hl.1 hf (fun _ _ hX => metX8_read _ _ _ _ _ _ _ _ _ _ _ _ _ hX) (cwL_57 S.2.2.2.2 ⟨Nat.le_of_ble_eq_true rfl, Nat.le_of_ble_eq_true rfl⟩) rfl dL_acts_54 rfl (Nat.le_of_ble_eq_true rfl) ⟨Nat.le_of_ble_eq_true rfl, Nat.le_of_ble_eq_true rfl⟩ (fun x24 σ25 H locs hs hf => ?_)
        refine lv_aload_n S.1 S.2.1 dL_acts_57 rfl (lv_at hl 1 rfl) ?_
        refine lv_iload_n S.1 S.2.1 dL_acts_58 rfl (lv_at hl 3 rfl) ?_
        refine lv_iload_n S.1 S.2.1 dL_acts_59 rfl (lv_at hl 4 rfl) ?_
        refine lv_iconst S.1 S.2.1 dL_acts_60 k_iconst_0 ?_
        refine qcP (qV0 K hs) S K hs hl.1 hf (fun _ hX => metX8_copy _ _ _ _ _ _ _ _ _ _ _ _ _ hX) (cwL_15 S.2.2.2.2 ⟨Nat.le_of_ble_eq_true rfl, Nat.le_of_ble_eq_true rfl⟩) rfl dL_acts_61 rfl (Nat.le_of_ble_eq_true rfl) ⟨Nat.le_of_ble_eq_true rfl, Nat.le_of_ble_eq_true rfl⟩ (fun x26 H locs hs hf => ?_)
        refine z_if_le (tgt := 71) S hf dL_acts_64 (by decide) (fun hf => ?_) (fun hf => ?_)
        · refine lv_iconst S.1 S.2.1 dL_acts_71 k_iconst_0 ?_
          exact J72 _ _ _ hf _ _ _ (lv_sub hl [] rfl) hs
        · refine lv_iconst S.1 S.2.1 dL_acts_67 k_iconst_1 ?_
          refine lv_goto (tgt := 72) S.1 S.2.1 dL_acts_68 (by decide) ?_
          exact J72 _ _ _ hf _ _ _ (lv_sub hl [] rfl) hs
  unfold fL_acts at hf
  refine lv_iload_n S.1 S.2.1 dL_acts_0 rfl (lv_at hl 1 rfl) ?_
  refine lv_iconst S.1 S.2.1 dL_acts_1 k_iconst_3 ?_
  refine lv_ishr S.1 S.2.1 dL_acts_2 ?_
  refine lv_aload_n S.1 S.2.1 dL_acts_3 rfl (lv_at hl 0 rfl) ?_
  refine lv_iconst S.1 S.2.1 dL_acts_4 k_iconst_0 ?_
  refine qcP (qV0 K hs) S K hs hl.1 hf (fun _ hX => metX8_value _ _ _ _ _ _ _ _ _ _ _ hX) (cwL_9 S.2.2.2.2 ⟨Nat.le_of_ble_eq_true rfl, Nat.le_of_ble_eq_true rfl⟩) rfl dL_acts_5 rfl (Nat.le_of_ble_eq_true rfl) ⟨Nat.le_of_ble_eq_true rfl, Nat.le_of_ble_eq_true rfl⟩ (fun x1 H locs hs hf => ?_)
  refine z_irem S hf dL_acts_8 (fun x2 hf => ?_)
  refine lv_istore_n (lv' := [(2, .int x2), (0, .ref (a 0 0)), (1, .int a1)]) S.1 S.2.1 dL_acts_9 rfl hl (by decide) rfl (fun ls hl => ?_)
  refine lv_iload_n S.1 S.2.1 dL_acts_10 rfl (lv_at hl 2 rfl) ?_
  refine lv_bipush S.1 S.2.1 dL_acts_11 k_bipush_7 ?_
  refine lv_ishr S.1 S.2.1 dL_acts_13 ?_
  refine lv_bipush S.1 S.2.1 dL_acts_14 k_bipush_9 ?_
  refine z_irem S hf dL_acts_16 (fun x3 hf => ?_)
  refine lv_istore_n (lv' := [(3, .int x3), (2, .int x2), (0, .ref (a 0 0)), (1, .int a1)]) S.1 S.2.1 dL_acts_17 rfl hl (by decide) rfl (fun ls hl => ?_)
  refine lv_iload_n S.1 S.2.1 dL_acts_18 rfl (lv_at hl 3 rfl) ?_
  refine lv_bipush S.1 S.2.1 dL_acts_19 k_bipush_7 ?_
  refine lv_iand S.1 S.2.1 dL_acts_21 ?_
  refine lv_istore (lv' := [(4, .int (a1 &&& (nI 7))), (3, .int x3), (2, .int x2), (0, .ref (a 0 0)), (1, .int a1)]) S.1 S.2.1 dL_acts_22 hl (by decide) rfl (fun ls hl => ?_)
  refine lv_aload_n S.1 S.2.1 dL_acts_24 rfl (lv_at hl 3 rfl) ?_
  refine lv_iload_n S.1 S.2.1 dL_acts_25 rfl (lv_at hl 2 rfl) ?_
  refine lv_iconst S.1 S.2.1 dL_acts_26 k_iconst_0 ?_
  refine qcP (qV0 K hs) S K hs hl.1 hf (fun _ hX => metX8_pending _ _ _ _ _ _ _ _ _ _ _ _ hX) (cwL_54 S.2.2.2.2 ⟨Nat.le_of_ble_eq_true rfl, Nat.le_of_ble_eq_true rfl⟩) rfl dL_acts_27 rfl (Nat.le_of_ble_eq_true rfl) ⟨Nat.le_of_ble_eq_true rfl, Nat.le_of_ble_eq_true rfl⟩ (fun x4 H locs hs hf => ?_)
  refine z_if_ge (tgt := 37) S hf dL_acts_30 (by decide) (fun hf => ?_) (fun hf => ?_)
  · refine lv_iconst S.1 S.2.1 dL_acts_37 k_iconst_0 ?_
    exact J38 _ _ _ _ _ _ hf _ _ _ (lv_sub hl [3, 4, 2, 1, 0] rfl) hs
  · refine lv_iconst S.1 S.2.1 dL_acts_33 k_iconst_1 ?_
    refine lv_goto (tgt := 38) S.1 S.2.1 dL_acts_34 (by decide) ?_
    exact J38 _ _ _ _ _ _ hf _ _ _ (lv_sub hl [3, 4, 2, 1, 0] rfl) hs
theorem metL_acts (l : Launch) (D : va_G) (cI : ClassId) (cB cM : ClassId) (ad6 : Nat → Nat) (a : Nat → Nat → Nat) (A : Nat → Prop) (a1 : Int32) (σ : cSt) (r0 : Int32) (σ0 : cSt) (hf : fL_acts a1 σ = some (r0, σ0)) : Met l yL_acts (Cond.code yL_acts cL_acts 7 (some .int) :: WA) rmL_acts (qPc D cI cB cM ad6 a A σ [.ref (a 0 0), .int a1]) ((qQi D cI cB cM ad6 a A r0 σ0)) 0 0 (A) :=
  qMet (by decide) (Nat.le_of_ble_eq_true rfl) (fun p e s m args below meth c H locs ls S K hr hk hl hs => bdL_acts S K hr hk _ _ _ _ hf hl hs)
set_option maxHeartbeats 4000000 in
set_option maxRecDepth 100000 in
theorem bdL_cache {p : Program} {l : Launch} {e : Env} {s : State} {m : MethodId} {args : Array Value} {below : List Frame} {meth : Method} {c : Code} {H : Heap} {locs : List Loc} {ls : Array Slot} {D : va_G} {cI : ClassId} {cB cM : ClassId} {ad6 : Nat → Nat} {a : Nat → Nat → Nat} {A : Nat → Prop} (S : CallFix p m c cL_cache 7 s args WA RL) (K : qK D cI cB cM ad6 A s) (hr : meth.sig.returnType = (some .boolean)) (hk : meth.locks = false) (a1 : Int32) (σ : cSt) (r0 : Int32) (hf : fL_cache a1 σ = some r0) (hl : lv_has ls 7 [(0, .ref (a 0 0)), (1, .int a1)]) (hs : qS D cI cB cM ad6 a A s σ H locs) : W p l e rmL_cache s m args below meth c H locs 0 0 (MQ below (qQi D cI cB cM ad6 a A r0 σ) args s 0 0 (A)) (F0 m 0 ls []) := by
  obtain ⟨res, hres⟩ : ∃ q, q = r0 := ⟨_, rfl⟩
  rw [← hres] at hf
  have J86 : ∀ (C13 : Int32 → Int32 → Int32 → Int32 → Int32 → Int32 → Option (Int32)) (hC13 : ∀ (y1 : Int32) (y2 : Int32) (y3 : Int32) (y4 : Int32) (y5 : Int32) (y6 : Int32), C13 y1 y2 y3 y4 y5 y6 = some res → qGo p l e rmL_cache s m args below meth c (MQ below (qQi D cI cB cM ad6 a A r0 σ) args s 0 0 (A)) D cI cB cM ad6 a A 0 0 7 σ [(0, .ref (a 0 0)), (1, .int y1), (2, .int y2), (3, .int y3), (4, .int y4), (5, .int y5), (6, .int y6)] 13 []) (y1 : Int32) (y2 : Int32) (y3 : Int32) (y4 : Int32) (y6 : Int32), fL_cache_j86 σ C13 y1 y2 y3 y4 y6 = some res → qGo p l e rmL_cache s m args below meth c (MQ below (qQi D cI cB cM ad6 a A r0 σ) args s 0 0 (A)) D cI cB cM ad6 a A 0 0 7 σ [(0, .ref (a 0 0)), (1, .int y1), (2, .int y2), (3, .int y3), (4, .int y4), (6, .int y6)] 86 [] := by
    intro C13 hC13 y1 y2 y3 y4 y6 hf H locs ls hl hs
    unfold fL_cache_j86 at hf
    refine lv_iload S.1 S.2.1 dL_cache_86 (lv_at hl 5 rfl) ?_
    refine lv_goto (tgt := 93) S.1 S.2.1 dL_cache_88 (by decide) ?_
    refine lv_istore (lv' := [(5, .int y6), (0, .ref (a 0 0)), (1, .int y1), (2, .int y2), (3, .int y3), (4, .int y4), (6, .int y6)]) S.1 S.2.1 dL_cache_93 hl (by decide) rfl (fun ls hl => ?_)
    refine lv_iinc (v := y6 + nI 1) (lv' := [(6, .int (y6 + nI 1)), (5, .int y6), (0, .ref (a 0 0)), (1, .int y1), (2, .int y2), (3, .int y3), (4, .int y4)]) S.1 S.2.1 dL_cache_95 hl (k := 6) rfl (by rw [k_iconst_1]) (by decide) rfl (fun ls hl => ?_)
    refine lv_goto (tgt := 13) S.1 S.2.1 dL_cache_98 (by decide) ?_
    exact hC13 _ _ _ _ _ _ hf _ _ _ (lv_sub hl [2, 3, 4, 5, 6, 1, 0] rfl) hs
  have L13 : ∀ (K13 : Int32 → Int32 → Int32 → Int32 → Int32 → Option (Int32)) (hK13 : ∀ (y1 : Int32) (y2 : Int32) (y3 : Int32) (y4 : Int32) (y5 : Int32), K13 y1 y2 y3 y4 y5 = some res → qGo p l e rmL_cache s m args below meth c (MQ below (qQi D cI cB cM ad6 a A r0 σ) args s 0 0 (A)) D cI cB cM ad6 a A 0 0 7 σ [(0, .ref (a 0 0)), (1, .int y1), (2, .int y2), (3, .int y3), (4, .int y4), (5, .int y5)] 101 []) (n : Nat) (y1 : Int32) (y2 : Int32) (y3 : Int32) (y4 : Int32) (y5 : Int32) (y6 : Int32), fL_cache_l13 σ K13 n y1 y2 y3 y4 y5 y6 = some res → qGo p l e rmL_cache s m args below meth c (MQ below (qQi D cI cB cM ad6 a A r0 σ) args s 0 0 (A)) D cI cB cM ad6 a A 0 0 7 σ [(0, .ref (a 0 0)), (1, .int y1), (2, .int y2), (3, .int y3), (4, .int y4), (5, .int y5), (6, .int y6)] 13 [] := by
    intro K13 hK13 n
    induction n with
    | zero =>
      intro y1 y2 y3 y4 y5 y6 hf H locs ls hl hs
      rw [fL_cache_l13] at hf
      cases hf
    | succ n ih =>
      intro y1 y2 y3 y4 y5 y6 hf H locs ls hl hs
      rw [fL_cache_l13] at hf
      refine lv_iload S.1 S.2.1 dL_cache_13 (lv_at hl 6 rfl) ?_
      refine lv_bipush S.1 S.2.1 dL_cache_15 k_bipush_9 ?_
      refine z_icmp_ge (tgt := 101) S hf dL_cache_17 (by decide) (fun hf => ?_) (fun hf => ?_)
      · exact hK13 _ _ _ _ _ hf _ _ _ (lv_sub hl [0, 1, 2, 3, 4, 5] rfl) hs
      · refine lv_aload_n S.1 S.2.1 dL_cache_20 rfl (lv_at hl 0 rfl) ?_
        refine lv_iload_n S.1 S.2.1 dL_cache_21 rfl (lv_at hl 1 rfl) ?_
        refine lv_iload S.1 S.2.1 dL_cache_22 (lv_at hl 6 rfl) ?_
        refine lv_iconst S.1 S.2.1 dL_cache_24 k_iconst_0 ?_
        refine qcP (qV0 K hs) S K hs hl.1 hf (fun _ hX => metX8_copy _ _ _ _ _ _ _ _ _ _ _ _ _ hX) (cwL_15 S.2.2.2.2 ⟨Nat.le_of_ble_eq_true rfl, Nat.le_of_ble_eq_true rfl⟩) rfl dL_cache_25 rfl (Nat.le_of_ble_eq_true rfl) ⟨Nat.le_of_ble_eq_true rfl, Nat.le_of_ble_eq_true rfl⟩ (fun x1 H locs hs hf => ?_)
        refine z_if_le (tgt := 95) S hf dL_cache_28 (by decide) (fun hf => ?_) (fun hf => ?_)
        · refine lv_iinc (v := y6 + nI 1) (lv' := [(6, .int (y6 + nI 1)), (0, .ref (a 0 0)), (1, .int y1), (2, .int y2), (3, .int y3), (4, .int y4), (5, .int y5)]) S.1 S.2.1 dL_cache_95 hl (k := 6) rfl (by rw [k_iconst_1]) (by decide) rfl (fun ls hl => ?_)
          refine lv_goto (tgt := 13) S.1 S.2.1 dL_cache_98 (by decide) ?_
          exact ih _ _ _ _ _ _ hf _ _ _ (lv_sub hl [1, 2, 3, 4, 5, 6, 0] rfl) hs
        · refine lv_iinc (v := y2 + nI 1) (lv' := [(2, .int (y2 + nI 1)), (0, .ref (a 0 0)), (1, .int y1), (3, .int y3), (4, .int y4), (5, .int y5), (6, .int y6)]) S.1 S.2.1 dL_cache_31 hl (k := 2) rfl (by rw [k_iconst_1]) (by decide) rfl (fun ls hl => ?_)
          refine lv_iload_n S.1 S.2.1 dL_cache_34 rfl (lv_at hl 3 rfl) ?_
          refine lv_iconst S.1 S.2.1 dL_cache_35 k_iconst_1 ?_
          refine lv_aload_n S.1 S.2.1 dL_cache_36 rfl (lv_at hl 1 rfl) ?_
          refine lv_iload_n S.1 S.2.1 dL_cache_37 rfl (lv_at hl 2 rfl) ?_
          refine lv_iload S.1 S.2.1 dL_cache_38 (lv_at hl 6 rfl) ?_
          refine lv_iconst S.1 S.2.1 dL_cache_40 k_iconst_3 ?_
          refine qcP (qV0 K hs) S K hs hl.1 hf (fun _ hX => metX8_copy _ _ _ _ _ _ _ _ _ _ _ _ _ hX) (cwL_15 S.2.2.2.2 ⟨Nat.le_of_ble_eq_true rfl, Nat.le_of_ble_eq_true rfl⟩) rfl dL_cache_41 rfl (Nat.le_of_ble_eq_true rfl) ⟨Nat.le_of_ble_eq_true rfl, Nat.le_of_ble_eq_true rfl⟩ (fun x2 H locs hs hf => ?_)
          refine lv_ishl S.1 S.2.1 dL_cache_44 ?_
          refine lv_ior S.1 S.2.1 dL_cache_45 ?_
          refine lv_istore_n (lv' := [(3, .int (y3 ||| ((nI 1) <<< (x2 &&& 31)))), (2, .int (y2 + nI 1)), (0, .ref (a 0 0)), (1, .int y1), (4, .int y4), (5, .int y5), (6, .int y6)]) S.1 S.2.1 dL_cache_46 rfl hl (by decide) rfl (fun ls hl => ?_)
          refine lv_iload S.1 S.2.1 dL_cache_47 (lv_at hl 4 rfl) ?_
          refine lv_iconst S.1 S.2.1 dL_cache_49 k_iconst_1 ?_
          refine lv_aload_n S.1 S.2.1 dL_cache_50 rfl (lv_at hl 2 rfl) ?_
          refine lv_iload_n S.1 S.2.1 dL_cache_51 rfl (lv_at hl 3 rfl) ?_
          refine lv_iload S.1 S.2.1 dL_cache_52 (lv_at hl 6 rfl) ?_
          refine lv_iconst S.1 S.2.1 dL_cache_54 k_iconst_2 ?_
          refine qcP (qV0 K hs) S K hs hl.1 hf (fun _ hX => metX8_copy _ _ _ _ _ _ _ _ _ _ _ _ _ hX) (cwL_15 S.2.2.2.2 ⟨Nat.le_of_ble_eq_true rfl, Nat.le_of_ble_eq_true rfl⟩) rfl dL_cache_55 rfl (Nat.le_of_ble_eq_true rfl) ⟨Nat.le_of_ble_eq_true rfl, Nat.le_of_ble_eq_true rfl⟩ (fun x3 H locs hs hf => ?_)
          refine lv_ishl S.1 S.2.1 dL_cache_58 ?_
          refine lv_ior S.1 S.2.1 dL_cache_59 ?_
          refine lv_istore (lv' := [(4, .int (y4 ||| ((nI 1) <<< (x3 &&& 31)))), (3, .int (y3 ||| ((nI 1) <<< (x2 &&& 31)))), (2, .int (y2 + nI 1)), (0, .ref (a 0 0)), (1, .int y1), (5, .int y5), (6, .int y6)]) S.1 S.2.1 dL_cache_60 hl (by decide) rfl (fun ls hl => ?_)
          refine lv_iload S.1 S.2.1 dL_cache_62 (lv_at hl 5 rfl) ?_
          refine z_if_lt (tgt := 86) S hf dL_cache_64 (by decide) (fun hf => ?_) (fun hf => ?_)
          · exact J86 _ ih _ _ _ _ _ hf _ _ _ (lv_sub hl [3, 4, 2, 1, 0, 6] rfl) hs
          · refine lv_aload_n S.1 S.2.1 dL_cache_67 rfl (lv_at hl 3 rfl) ?_
            refine lv_iload_n S.1 S.2.1 dL_cache_68 rfl (lv_at hl 4 rfl) ?_
            refine lv_iload S.1 S.2.1 dL_cache_69 (lv_at hl 6 rfl) ?_
            refine lv_iconst S.1 S.2.1 dL_cache_71 k_iconst_3 ?_
            refine qcP (qV0 K hs) S K hs hl.1 hf (fun _ hX => metX8_copy _ _ _ _ _ _ _ _ _ _ _ _ _ hX) (cwL_15 S.2.2.2.2 ⟨Nat.le_of_ble_eq_true rfl, Nat.le_of_ble_eq_true rfl⟩) rfl dL_cache_72 rfl (Nat.le_of_ble_eq_true rfl) ⟨Nat.le_of_ble_eq_true rfl, Nat.le_of_ble_eq_true rfl⟩ (fun x4 H locs hs hf => ?_)
            refine lv_aload_n S.1 S.2.1 dL_cache_75 rfl (lv_at hl 3 rfl) ?_
            refine lv_iload_n S.1 S.2.1 dL_cache_76 rfl (lv_at hl 4 rfl) ?_
            refine lv_iload S.1 S.2.1 dL_cache_77 (lv_at hl 5 rfl) ?_
            refine lv_iconst S.1 S.2.1 dL_cache_79 k_iconst_3 ?_
            refine qcP (qV0 K hs) S K hs hl.1 hf (fun _ hX => metX8_copy _ _ _ _ _ _ _ _ _ _ _ _ _ hX) (cwL_15 S.2.2.2.2 ⟨Nat.le_of_ble_eq_true rfl, Nat.le_of_ble_eq_true rfl⟩) rfl dL_cache_80 rfl (Nat.le_of_ble_eq_true rfl) ⟨Nat.le_of_ble_eq_true rfl, Nat.le_of_ble_eq_true rfl⟩ (fun x5 H locs hs hf => ?_)
            refine z_icmp_le (tgt := 91) S hf dL_cache_83 (by decide) (fun hf => ?_) (fun hf => ?_)
            · refine lv_iload S.1 S.2.1 dL_cache_91 (lv_at hl 5 rfl) ?_
              refine lv_istore (lv' := [(5, .int y5), (4, .int (y4 ||| ((nI 1) <<< (x3 &&& 31)))), (3, .int (y3 ||| ((nI 1) <<< (x2 &&& 31)))), (2, .int (y2 + nI 1)), (0, .ref (a 0 0)), (1, .int y1), (6, .int y6)]) S.1 S.2.1 dL_cache_93 hl (by decide) rfl (fun ls hl => ?_)
              refine lv_iinc (v := y6 + nI 1) (lv' := [(6, .int (y6 + nI 1)), (5, .int y5), (4, .int (y4 ||| ((nI 1) <<< (x3 &&& 31)))), (3, .int (y3 ||| ((nI 1) <<< (x2 &&& 31)))), (2, .int (y2 + nI 1)), (0, .ref (a 0 0)), (1, .int y1)]) S.1 S.2.1 dL_cache_95 hl (k := 6) rfl (by rw [k_iconst_1]) (by decide) rfl (fun ls hl => ?_)
              refine lv_goto (tgt := 13) S.1 S.2.1 dL_cache_98 (by decide) ?_
              exact ih _ _ _ _ _ _ hf _ _ _ (lv_sub hl [5, 6, 4, 3, 2, 1, 0] rfl) hs
            · exact J86 _ ih _ _ _ _ _ hf _ _ _ (lv_sub hl [3, 4, 2, 1, 0, 6] rfl) hs
  have J172 : ∀ (w0 : Int32) (w1 : Int32), fL_cache_j172 σ w0 w1 = some res → qGo p l e rmL_cache s m args below meth c (MQ below (qQi D cI cB cM ad6 a A r0 σ) args s 0 0 (A)) D cI cB cM ad6 a A 0 0 7 σ [] 172 [.int w0, .int w1] := by
    intro w0 w1 hf H locs ls hl hs
    unfold fL_cache_j172 at hf
    refine z_icmp_ne (tgt := 179) S hf dL_cache_172 (by decide) (fun hf => ?_) (fun hf => ?_)
    · refine lv_iconst S.1 S.2.1 dL_cache_179 k_iconst_0 ?_
      exact qrB S K hr hk hs (hf.trans (congrArg some hres)) dL_cache_180
    · refine lv_iconst S.1 S.2.1 dL_cache_175 k_iconst_1 ?_
      refine lv_goto (tgt := 180) S.1 S.2.1 dL_cache_176 (by decide) ?_
      exact qrB S K hr hk hs (hf.trans (congrArg some hres)) dL_cache_180
  have J136 : ∀ (y1 : Int32) (y2 : Int32) (y4 : Int32) (y5 : Int32) (w0 : Int32), fL_cache_j136 σ y1 y2 y4 y5 w0 = some res → qGo p l e rmL_cache s m args below meth c (MQ below (qQi D cI cB cM ad6 a A r0 σ) args s 0 0 (A)) D cI cB cM ad6 a A 0 0 7 σ [(0, .ref (a 0 0)), (1, .int y1), (2, .int y2), (4, .int y4), (5, .int y5)] 136 [.int w0] := by
    intro y1 y2 y4 y5 w0 hf H locs ls hl hs
    unfold fL_cache_j136 at hf
    refine lv_istore (lv' := [(6, .int w0), (0, .ref (a 0 0)), (1, .int y1), (2, .int y2), (4, .int y4), (5, .int y5)]) S.1 S.2.1 dL_cache_136 hl (by decide) rfl (fun ls hl => ?_)
    refine lv_iload S.1 S.2.1 dL_cache_138 (lv_at hl 0 rfl) ?_
    refine z_if_eq (tgt := 179) S hf dL_cache_140 (by decide) (fun hf => ?_) (fun hf => ?_)
    · refine lv_iconst S.1 S.2.1 dL_cache_179 k_iconst_0 ?_
      exact qrB S K hr hk hs (hf.trans (congrArg some hres)) dL_cache_180
    · refine lv_iload S.1 S.2.1 dL_cache_143 (lv_at hl 4 rfl) ?_
      refine qcT S K hs hl.1 hf (fun _ hX => metL_ones _ _ _ _ _ _ _ _ _ _ _ hX) (cwL_23 S.2.2.2.2 ⟨Nat.le_of_ble_eq_true rfl, Nat.le_of_ble_eq_true rfl⟩) rfl dL_cache_145 rfl (Nat.le_of_ble_eq_true rfl) ⟨Nat.le_of_ble_eq_true rfl, Nat.le_of_ble_eq_true rfl⟩ (fun x12 H locs hs hf => ?_)
      refine lv_iload_n S.1 S.2.1 dL_cache_148 rfl (lv_at hl 3 rfl) ?_
      refine z_icmp_ne (tgt := 179) S hf dL_cache_149 (by decide) (fun hf => ?_) (fun hf => ?_)
      · refine lv_iconst S.1 S.2.1 dL_cache_179 k_iconst_0 ?_
        exact qrB S K hr hk hs (hf.trans (congrArg some hres)) dL_cache_180
      · refine lv_aload_n S.1 S.2.1 dL_cache_152 rfl (lv_at hl 1 rfl) ?_
        refine lv_iload_n S.1 S.2.1 dL_cache_153 rfl (lv_at hl 2 rfl) ?_
        refine qcP (qV0 K hs) S K hs hl.1 hf (fun _ hX => metX8_nextDropped _ _ _ _ _ _ _ _ _ _ _ hX) (cwL_28 S.2.2.2.2 ⟨Nat.le_of_ble_eq_true rfl, Nat.le_of_ble_eq_true rfl⟩) rfl dL_cache_154 rfl (Nat.le_of_ble_eq_true rfl) ⟨Nat.le_of_ble_eq_true rfl, Nat.le_of_ble_eq_true rfl⟩ (fun x13 H locs hs hf => ?_)
        refine lv_iload_n S.1 S.2.1 dL_cache_157 rfl (lv_at hl 3 rfl) ?_
        refine lv_aload_n S.1 S.2.1 dL_cache_158 rfl (lv_at hl 1 rfl) ?_
        refine lv_iconst S.1 S.2.1 dL_cache_159 k_iconst_1 ?_
        refine qcP (qV0 K hs) S K hs hl.1 hf (fun _ hX => metX8_value _ _ _ _ _ _ _ _ _ _ _ hX) (cwL_9 S.2.2.2.2 ⟨Nat.le_of_ble_eq_true rfl, Nat.le_of_ble_eq_true rfl⟩) rfl dL_cache_160 rfl (Nat.le_of_ble_eq_true rfl) ⟨Nat.le_of_ble_eq_true rfl, Nat.le_of_ble_eq_true rfl⟩ (fun x14 H locs hs hf => ?_)
        refine z_icmp_ne (tgt := 171) S hf dL_cache_163 (by decide) (fun hf => ?_) (fun hf => ?_)
        · refine lv_iconst S.1 S.2.1 dL_cache_171 k_iconst_m1 ?_
          exact J172 _ _ hf _ _ _ (lv_sub hl [] rfl) hs
        · refine lv_iload S.1 S.2.1 dL_cache_166 (lv_at hl 5 rfl) ?_
          refine lv_goto (tgt := 172) S.1 S.2.1 dL_cache_168 (by decide) ?_
          exact J172 _ _ hf _ _ _ (lv_sub hl [] rfl) hs
  have J135 : ∀ (y1 : Int32) (y2 : Int32) (y4 : Int32) (y5 : Int32), fL_cache_j135 σ y1 y2 y4 y5 = some res → qGo p l e rmL_cache s m args below meth c (MQ below (qQi D cI cB cM ad6 a A r0 σ) args s 0 0 (A)) D cI cB cM ad6 a A 0 0 7 σ [(0, .ref (a 0 0)), (1, .int y1), (2, .int y2), (4, .int y4), (5, .int y5)] 135 [] := by
    intro y1 y2 y4 y5 hf H locs ls hl hs
    unfold fL_cache_j135 at hf
    refine lv_iconst S.1 S.2.1 dL_cache_135 k_iconst_0 ?_
    exact J136 _ _ _ _ _ hf _ _ _ (lv_sub hl [0, 1, 2, 3, 4] rfl) hs
  unfold fL_cache at hf
  refine lv_iconst S.1 S.2.1 dL_cache_0 k_iconst_0 ?_
  refine lv_istore_n (lv' := [(2, .int (nI 0)), (0, .ref (a 0 0)), (1, .int a1)]) S.1 S.2.1 dL_cache_1 rfl hl (by decide) rfl (fun ls hl => ?_)
  refine lv_iconst S.1 S.2.1 dL_cache_2 k_iconst_0 ?_
  refine lv_istore_n (lv' := [(3, .int (nI 0)), (2, .int (nI 0)), (0, .ref (a 0 0)), (1, .int a1)]) S.1 S.2.1 dL_cache_3 rfl hl (by decide) rfl (fun ls hl => ?_)
  refine lv_iconst S.1 S.2.1 dL_cache_4 k_iconst_0 ?_
  refine lv_istore (lv' := [(4, .int (nI 0)), (3, .int (nI 0)), (2, .int (nI 0)), (0, .ref (a 0 0)), (1, .int a1)]) S.1 S.2.1 dL_cache_5 hl (by decide) rfl (fun ls hl => ?_)
  refine lv_iconst S.1 S.2.1 dL_cache_7 k_iconst_m1 ?_
  refine lv_istore (lv' := [(5, .int (-1)), (4, .int (nI 0)), (3, .int (nI 0)), (2, .int (nI 0)), (0, .ref (a 0 0)), (1, .int a1)]) S.1 S.2.1 dL_cache_8 hl (by decide) rfl (fun ls hl => ?_)
  refine lv_iconst S.1 S.2.1 dL_cache_10 k_iconst_0 ?_
  refine lv_istore (lv' := [(6, .int (nI 0)), (5, .int (-1)), (4, .int (nI 0)), (3, .int (nI 0)), (2, .int (nI 0)), (0, .ref (a 0 0)), (1, .int a1)]) S.1 S.2.1 dL_cache_11 hl (by decide) rfl (fun ls hl => ?_)
  refine L13 _ (fun x6 x7 x8 x9 x10 hf H locs ls hl hs => ?_) _ _ _ _ _ _ _ hf _ _ _ (lv_sub hl [5, 6, 4, 3, 2, 1, 0] rfl) hs
  refine lv_iload_n S.1 S.2.1 dL_cache_101 rfl (lv_at hl 2 rfl) ?_
  refine lv_aload_n S.1 S.2.1 dL_cache_102 rfl (lv_at hl 0 rfl) ?_
  refine lv_iconst S.1 S.2.1 dL_cache_103 k_iconst_1 ?_
  refine qcP (qV0 K hs) S K hs hl.1 hf (fun _ hX => metX8_value _ _ _ _ _ _ _ _ _ _ _ hX) (cwL_9 S.2.2.2.2 ⟨Nat.le_of_ble_eq_true rfl, Nat.le_of_ble_eq_true rfl⟩) rfl dL_cache_104 rfl (Nat.le_of_ble_eq_true rfl) ⟨Nat.le_of_ble_eq_true rfl, Nat.le_of_ble_eq_true rfl⟩ (fun x11 H locs hs hf => ?_)
  refine z_icmp_gt (tgt := 135) S hf dL_cache_107 (by decide) (fun hf => ?_) (fun hf => ?_)
  · exact J135 _ _ _ _ hf _ _ _ (lv_sub hl [0, 1, 2, 4, 5] rfl) hs
  · refine lv_iload_n S.1 S.2.1 dL_cache_110 rfl (lv_at hl 3 rfl) ?_
    refine lv_iconst S.1 S.2.1 dL_cache_111 k_iconst_1 ?_
    refine lv_iload_n S.1 S.2.1 dL_cache_112 rfl (lv_at hl 2 rfl) ?_
    refine lv_ishl S.1 S.2.1 dL_cache_113 ?_
    refine lv_iconst S.1 S.2.1 dL_cache_114 k_iconst_1 ?_
    refine lv_isub S.1 S.2.1 dL_cache_115 ?_
    refine z_icmp_ne (tgt := 135) S hf dL_cache_116 (by decide) (fun hf => ?_) (fun hf => ?_)
    · exact J135 _ _ _ _ hf _ _ _ (lv_sub hl [0, 1, 2, 4, 5] rfl) hs
    · refine lv_iload S.1 S.2.1 dL_cache_119 (lv_at hl 4 rfl) ?_
      refine lv_iconst S.1 S.2.1 dL_cache_121 k_iconst_1 ?_
      refine lv_aload_n S.1 S.2.1 dL_cache_122 rfl (lv_at hl 0 rfl) ?_
      refine lv_iconst S.1 S.2.1 dL_cache_123 k_iconst_1 ?_
      refine qcP (qV0 K hs) S K hs hl.1 hf (fun _ hX => metX8_value _ _ _ _ _ _ _ _ _ _ _ hX) (cwL_9 S.2.2.2.2 ⟨Nat.le_of_ble_eq_true rfl, Nat.le_of_ble_eq_true rfl⟩) rfl dL_cache_124 rfl (Nat.le_of_ble_eq_true rfl) ⟨Nat.le_of_ble_eq_true rfl, Nat.le_of_ble_eq_true rfl⟩ (fun x15 H locs hs hf => ?_)
      refine lv_ishl S.1 S.2.1 dL_cache_127 ?_
      refine z_icmp_ge (tgt := 135) S hf dL_cache_128 (by decide) (fun hf => ?_) (fun hf => ?_)
      · exact J135 _ _ _ _ hf _ _ _ (lv_sub hl [0, 1, 2, 4, 5] rfl) hs
      · refine lv_iconst S.1 S.2.1 dL_cache_131 k_iconst_1 ?_
        refine lv_goto (tgt := 136) S.1 S.2.1 dL_cache_132 (by decide) ?_
        exact J136 _ _ _ _ _ hf _ _ _ (lv_sub hl [0, 1, 2, 4, 5] rfl) hs
theorem metL_cache (l : Launch) (D : va_G) (cI : ClassId) (cB cM : ClassId) (ad6 : Nat → Nat) (a : Nat → Nat → Nat) (A : Nat → Prop) (a1 : Int32) (σ : cSt) (r0 : Int32) (hf : fL_cache a1 σ = some r0) : Met l yL_cache (Cond.code yL_cache cL_cache 7 (some .boolean) :: WA) rmL_cache (qPc D cI cB cM ad6 a A σ [.ref (a 0 0), .int a1]) ((qQi D cI cB cM ad6 a A r0 σ)) 0 0 (A) :=
  qMet (by decide) (Nat.le_of_ble_eq_true rfl) (fun p e s m args below meth c H locs ls S K hr hk hl hs => bdL_cache S K hr hk _ _ _ hf hl hs)
set_option maxHeartbeats 4000000 in
set_option maxRecDepth 100000 in
theorem bdL_line {p : Program} {l : Launch} {e : Env} {s : State} {m : MethodId} {args : Array Value} {below : List Frame} {meth : Method} {c : Code} {H : Heap} {locs : List Loc} {ls : Array Slot} {D : va_G} {cI : ClassId} {cB cM : ClassId} {ad6 : Nat → Nat} {a : Nat → Nat → Nat} {A : Nat → Prop} (S : CallFix p m c cL_line 8 s args WA RL) (K : qK D cI cB cM ad6 A s) (hr : meth.sig.returnType = (some .boolean)) (hk : meth.locks = false) (a1 : Int32) (σ : cSt) (r0 : Int32) (hf : fL_line a1 σ = some r0) (hl : lv_has ls 8 [(0, .ref (a 0 0)), (1, .int a1)]) (hs : qS D cI cB cM ad6 a A s σ H locs) : W p l e rmL_line s m args below meth c H locs 0 0 (MQ below (qQi D cI cB cM ad6 a A r0 σ) args s 0 0 (A)) (F0 m 0 ls []) := by
  obtain ⟨res, hres⟩ : ∃ q, q = r0 := ⟨_, rfl⟩
  rw [← hres] at hf
  have J121 : ∀ (C13 : Int32 → Int32 → Int32 → Int32 → Int32 → Int32 → Option (Int32)) (hC13 : ∀ (y1 : Int32) (y2 : Int32) (y3 : Int32) (y4 : Int32) (y5 : Int32) (y6 : Int32), C13 y1 y2 y3 y4 y5 y6 = some res → qGo p l e rmL_line s m args below meth c (MQ below (qQi D cI cB cM ad6 a A r0 σ) args s 0 0 (A)) D cI cB cM ad6 a A 0 0 8 σ [(0, .ref (a 0 0)), (1, .int y1), (2, .int y2), (3, .int y3), (4, .int y4), (5, .int y5), (6, .int y6)] 13 []) (y1 : Int32) (y2 : Int32) (y3 : Int32) (y4 : Int32) (y6 : Int32), fL_line_j121 σ C13 y1 y2 y3 y4 y6 = some res → qGo p l e rmL_line s m args below meth c (MQ below (qQi D cI cB cM ad6 a A r0 σ) args s 0 0 (A)) D cI cB cM ad6 a A 0 0 8 σ [(0, .ref (a 0 0)), (1, .int y1), (2, .int y2), (3, .int y3), (4, .int y4), (6, .int y6)] 121 [] := by
    intro C13 hC13 y1 y2 y3 y4 y6 hf H locs ls hl hs
    unfold fL_line_j121 at hf
    refine lv_iconst S.1 S.2.1 dL_line_121 k_iconst_1 ?_
    refine lv_goto (tgt := 126) S.1 S.2.1 dL_line_122 (by decide) ?_
    refine lv_istore (lv' := [(5, .int (nI 1)), (0, .ref (a 0 0)), (1, .int y1), (2, .int y2), (3, .int y3), (4, .int y4), (6, .int y6)]) S.1 S.2.1 dL_line_126 hl (by decide) rfl (fun ls hl => ?_)
    refine lv_iinc (v := y6 + nI 1) (lv' := [(6, .int (y6 + nI 1)), (5, .int (nI 1)), (0, .ref (a 0 0)), (1, .int y1), (2, .int y2), (3, .int y3), (4, .int y4)]) S.1 S.2.1 dL_line_128 hl (k := 6) rfl (by rw [k_iconst_1]) (by decide) rfl (fun ls hl => ?_)
    refine lv_goto (tgt := 13) S.1 S.2.1 dL_line_131 (by decide) ?_
    exact hC13 _ _ _ _ _ _ hf _ _ _ (lv_sub hl [2, 3, 4, 5, 6, 1, 0] rfl) hs
  have J76 : ∀ (C13 : Int32 → Int32 → Int32 → Int32 → Int32 → Int32 → Option (Int32)) (hC13 : ∀ (y1 : Int32) (y2 : Int32) (y3 : Int32) (y4 : Int32) (y5 : Int32) (y6 : Int32), C13 y1 y2 y3 y4 y5 y6 = some res → qGo p l e rmL_line s m args below meth c (MQ below (qQi D cI cB cM ad6 a A r0 σ) args s 0 0 (A)) D cI cB cM ad6 a A 0 0 8 σ [(0, .ref (a 0 0)), (1, .int y1), (2, .int y2), (3, .int y3), (4, .int y4), (5, .int y5), (6, .int y6)] 13 []) (y1 : Int32) (y2 : Int32) (y3 : Int32) (y5 : Int32) (y6 : Int32) (y7 : Int32) (w0 : Int32) (w1 : Int32), fL_line_j76 σ C13 y1 y2 y3 y5 y6 y7 w0 w1 = some res → qGo p l e rmL_line s m args below meth c (MQ below (qQi D cI cB cM ad6 a A r0 σ) args s 0 0 (A)) D cI cB cM ad6 a A 0 0 8 σ [(0, .ref (a 0 0)), (1, .int y1), (2, .int y2), (3, .int y3), (5, .int y5), (6, .int y6), (7, .int y7)] 76 [.int w0, .int w1] := by
    intro C13 hC13 y1 y2 y3 y5 y6 y7 w0 w1 hf H locs ls hl hs
    unfold fL_line_j76 at hf
    refine lv_ior S.1 S.2.1 dL_line_76 ?_
    refine lv_istore (lv' := [(4, .int (w1 ||| w0)), (0, .ref (a 0 0)), (1, .int y1), (2, .int y2), (3, .int y3), (5, .int y5), (6, .int y6), (7, .int y7)]) S.1 S.2.1 dL_line_77 hl (by decide) rfl (fun ls hl => ?_)
    refine lv_iload S.1 S.2.1 dL_line_79 (lv_at hl 5 rfl) ?_
    refine z_if_eq (tgt := 125) S hf dL_line_81 (by decide) (fun hf => ?_) (fun hf => ?_)
    · refine lv_iconst S.1 S.2.1 dL_line_125 k_iconst_0 ?_
      refine lv_istore (lv' := [(5, .int (nI 0)), (4, .int (w1 ||| w0)), (0, .ref (a 0 0)), (1, .int y1), (2, .int y2), (3, .int y3), (6, .int y6), (7, .int y7)]) S.1 S.2.1 dL_line_126 hl (by decide) rfl (fun ls hl => ?_)
      refine lv_iinc (v := y6 + nI 1) (lv' := [(6, .int (y6 + nI 1)), (5, .int (nI 0)), (4, .int (w1 ||| w0)), (0, .ref (a 0 0)), (1, .int y1), (2, .int y2), (3, .int y3), (7, .int y7)]) S.1 S.2.1 dL_line_128 hl (k := 6) rfl (by rw [k_iconst_1]) (by decide) rfl (fun ls hl => ?_)
      refine lv_goto (tgt := 13) S.1 S.2.1 dL_line_131 (by decide) ?_
      exact hC13 _ _ _ _ _ _ hf _ _ _ (lv_sub hl [3, 4, 5, 6, 2, 1, 0] rfl) hs
    · refine lv_iload S.1 S.2.1 dL_line_84 (lv_at hl 7 rfl) ?_
      refine z_if_ne (tgt := 104) S hf dL_line_86 (by decide) (fun hf => ?_) (fun hf => ?_)
      · refine lv_aload_n S.1 S.2.1 dL_line_104 rfl (lv_at hl 1 rfl) ?_
        refine lv_iload S.1 S.2.1 dL_line_105 (lv_at hl 6 rfl) ?_
        refine lv_iload_n S.1 S.2.1 dL_line_107 rfl (lv_at hl 2 rfl) ?_
        refine lv_iconst S.1 S.2.1 dL_line_108 k_iconst_1 ?_
        refine qcP (qV0 K hs) S K hs hl.1 hf (fun _ hX => metX8_copy _ _ _ _ _ _ _ _ _ _ _ _ _ hX) (cwL_15 S.2.2.2.2 ⟨Nat.le_of_ble_eq_true rfl, Nat.le_of_ble_eq_true rfl⟩) rfl dL_line_109 rfl (Nat.le_of_ble_eq_true rfl) ⟨Nat.le_of_ble_eq_true rfl, Nat.le_of_ble_eq_true rfl⟩ (fun x3 H locs hs hf => ?_)
        refine lv_aload_n S.1 S.2.1 dL_line_112 rfl (lv_at hl 1 rfl) ?_
        refine lv_iload_n S.1 S.2.1 dL_line_113 rfl (lv_at hl 2 rfl) ?_
        refine lv_iconst S.1 S.2.1 dL_line_114 k_iconst_1 ?_
        refine qcP (qV0 K hs) S K hs hl.1 hf (fun _ hX => metX8_line _ _ _ _ _ _ _ _ _ _ _ _ hX) (cwL_19 S.2.2.2.2 ⟨Nat.le_of_ble_eq_true rfl, Nat.le_of_ble_eq_true rfl⟩) rfl dL_line_115 rfl (Nat.le_of_ble_eq_true rfl) ⟨Nat.le_of_ble_eq_true rfl, Nat.le_of_ble_eq_true rfl⟩ (fun x4 H locs hs hf => ?_)
        refine z_icmp_ne (tgt := 125) S hf dL_line_118 (by decide) (fun hf => ?_) (fun hf => ?_)
        · refine lv_iconst S.1 S.2.1 dL_line_125 k_iconst_0 ?_
          refine lv_istore (lv' := [(5, .int (nI 0)), (4, .int (w1 ||| w0)), (0, .ref (a 0 0)), (1, .int y1), (2, .int y2), (3, .int y3), (6, .int y6), (7, .int y7)]) S.1 S.2.1 dL_line_126 hl (by decide) rfl (fun ls hl => ?_)
          refine lv_iinc (v := y6 + nI 1) (lv' := [(6, .int (y6 + nI 1)), (5, .int (nI 0)), (4, .int (w1 ||| w0)), (0, .ref (a 0 0)), (1, .int y1), (2, .int y2), (3, .int y3), (7, .int y7)]) S.1 S.2.1 dL_line_128 hl (k := 6) rfl (by rw [k_iconst_1]) (by decide) rfl (fun ls hl => ?_)
          refine lv_goto (tgt := 13) S.1 S.2.1 dL_line_131 (by decide) ?_
          exact hC13 _ _ _ _ _ _ hf _ _ _ (lv_sub hl [3, 4, 5, 6, 2, 1, 0] rfl) hs
        · exact J121 _ hC13 _ _ _ _ _ hf _ _ _ (lv_sub hl [1, 2, 3, 4, 0, 6] rfl) hs
      · refine lv_aload_n S.1 S.2.1 dL_line_89 rfl (lv_at hl 1 rfl) ?_
        refine lv_iload S.1 S.2.1 dL_line_90 (lv_at hl 6 rfl) ?_
        refine lv_iload_n S.1 S.2.1 dL_line_92 rfl (lv_at hl 2 rfl) ?_
        refine lv_iconst S.1 S.2.1 dL_line_93 k_iconst_1 ?_
        refine qcP (qV0 K hs) S K hs hl.1 hf (fun _ hX => metX8_copy _ _ _ _ _ _ _ _ _ _ _ _ _ hX) (cwL_15 S.2.2.2.2 ⟨Nat.le_of_ble_eq_true rfl, Nat.le_of_ble_eq_true rfl⟩) rfl dL_line_94 rfl (Nat.le_of_ble_eq_true rfl) ⟨Nat.le_of_ble_eq_true rfl, Nat.le_of_ble_eq_true rfl⟩ (fun x5 H locs hs hf => ?_)
        refine lv_iconst S.1 S.2.1 dL_line_97 k_iconst_m1 ?_
        refine z_icmp_ne (tgt := 125) S hf dL_line_98 (by decide) (fun hf => ?_) (fun hf => ?_)
        · refine lv_iconst S.1 S.2.1 dL_line_125 k_iconst_0 ?_
          refine lv_istore (lv' := [(5, .int (nI 0)), (4, .int (w1 ||| w0)), (0, .ref (a 0 0)), (1, .int y1), (2, .int y2), (3, .int y3), (6, .int y6), (7, .int y7)]) S.1 S.2.1 dL_line_126 hl (by decide) rfl (fun ls hl => ?_)
          refine lv_iinc (v := y6 + nI 1) (lv' := [(6, .int (y6 + nI 1)), (5, .int (nI 0)), (4, .int (w1 ||| w0)), (0, .ref (a 0 0)), (1, .int y1), (2, .int y2), (3, .int y3), (7, .int y7)]) S.1 S.2.1 dL_line_128 hl (k := 6) rfl (by rw [k_iconst_1]) (by decide) rfl (fun ls hl => ?_)
          refine lv_goto (tgt := 13) S.1 S.2.1 dL_line_131 (by decide) ?_
          exact hC13 _ _ _ _ _ _ hf _ _ _ (lv_sub hl [3, 4, 5, 6, 2, 1, 0] rfl) hs
        · refine lv_goto (tgt := 121) S.1 S.2.1 dL_line_101 (by decide) ?_
          exact J121 _ hC13 _ _ _ _ _ hf _ _ _ (lv_sub hl [1, 2, 3, 4, 0, 6] rfl) hs
  have J58 : ∀ (C13 : Int32 → Int32 → Int32 → Int32 → Int32 → Int32 → Option (Int32)) (hC13 : ∀ (y1 : Int32) (y2 : Int32) (y3 : Int32) (y4 : Int32) (y5 : Int32) (y6 : Int32), C13 y1 y2 y3 y4 y5 y6 = some res → qGo p l e rmL_line s m args below meth c (MQ below (qQi D cI cB cM ad6 a A r0 σ) args s 0 0 (A)) D cI cB cM ad6 a A 0 0 8 σ [(0, .ref (a 0 0)), (1, .int y1), (2, .int y2), (3, .int y3), (4, .int y4), (5, .int y5), (6, .int y6)] 13 []) (y1 : Int32) (y2 : Int32) (y4 : Int32) (y5 : Int32) (y6 : Int32) (y7 : Int32) (w0 : Int32) (w1 : Int32), fL_line_j58 σ C13 y1 y2 y4 y5 y6 y7 w0 w1 = some res → qGo p l e rmL_line s m args below meth c (MQ below (qQi D cI cB cM ad6 a A r0 σ) args s 0 0 (A)) D cI cB cM ad6 a A 0 0 8 σ [(0, .ref (a 0 0)), (1, .int y1), (2, .int y2), (4, .int y4), (5, .int y5), (6, .int y6), (7, .int y7)] 58 [.int w0, .int w1] := by
    intro C13 hC13 y1 y2 y4 y5 y6 y7 w0 w1 hf H locs ls hl hs
    unfold fL_line_j58 at hf
    refine lv_iadd S.1 S.2.1 dL_line_58 ?_
    refine lv_istore_n (lv' := [(3, .int (w1 + w0)), (0, .ref (a 0 0)), (1, .int y1), (2, .int y2), (4, .int y4), (5, .int y5), (6, .int y6), (7, .int y7)]) S.1 S.2.1 dL_line_59 rfl hl (by decide) rfl (fun ls hl => ?_)
    refine lv_iload S.1 S.2.1 dL_line_60 (lv_at hl 4 rfl) ?_
    refine lv_iload S.1 S.2.1 dL_line_62 (lv_at hl 7 rfl) ?_
    refine lv_iconst S.1 S.2.1 dL_line_64 k_iconst_1 ?_
    refine z_icmp_ne (tgt := 75) S hf dL_line_65 (by decide) (fun hf => ?_) (fun hf => ?_)
    · refine lv_iconst S.1 S.2.1 dL_line_75 k_iconst_0 ?_
      exact J76 _ hC13 _ _ _ _ _ _ _ _ hf _ _ _ (lv_sub hl [1, 2, 3, 0, 5, 6, 7] rfl) hs
    · refine lv_iconst S.1 S.2.1 dL_line_68 k_iconst_1 ?_
      refine lv_iload S.1 S.2.1 dL_line_69 (lv_at hl 6 rfl) ?_
      refine lv_ishl S.1 S.2.1 dL_line_71 ?_
      refine lv_goto (tgt := 76) S.1 S.2.1 dL_line_72 (by decide) ?_
      exact J76 _ hC13 _ _ _ _ _ _ _ _ hf _ _ _ (lv_sub hl [1, 2, 3, 0, 5, 6, 7] rfl) hs
  have J45 : ∀ (C13 : Int32 → Int32 → Int32 → Int32 → Int32 → Int32 → Option (Int32)) (hC13 : ∀ (y1 : Int32) (y2 : Int32) (y3 : Int32) (y4 : Int32) (y5 : Int32) (y6 : Int32), C13 y1 y2 y3 y4 y5 y6 = some res → qGo p l e rmL_line s m args below meth c (MQ below (qQi D cI cB cM ad6 a A r0 σ) args s 0 0 (A)) D cI cB cM ad6 a A 0 0 8 σ [(0, .ref (a 0 0)), (1, .int y1), (2, .int y2), (3, .int y3), (4, .int y4), (5, .int y5), (6, .int y6)] 13 []) (y1 : Int32) (y3 : Int32) (y4 : Int32) (y5 : Int32) (y6 : Int32) (y7 : Int32) (w0 : Int32), fL_line_j45 σ C13 y1 y3 y4 y5 y6 y7 w0 = some res → qGo p l e rmL_line s m args below meth c (MQ below (qQi D cI cB cM ad6 a A r0 σ) args s 0 0 (A)) D cI cB cM ad6 a A 0 0 8 σ [(0, .ref (a 0 0)), (1, .int y1), (3, .int y3), (4, .int y4), (5, .int y5), (6, .int y6), (7, .int y7)] 45 [.int w0] := by
    intro C13 hC13 y1 y3 y4 y5 y6 y7 w0 hf H locs ls hl hs
    unfold fL_line_j45 at hf
    refine lv_istore_n (lv' := [(2, .int w0), (0, .ref (a 0 0)), (1, .int y1), (3, .int y3), (4, .int y4), (5, .int y5), (6, .int y6), (7, .int y7)]) S.1 S.2.1 dL_line_45 rfl hl (by decide) rfl (fun ls hl => ?_)
    refine lv_iload_n S.1 S.2.1 dL_line_46 rfl (lv_at hl 3 rfl) ?_
    refine lv_iload S.1 S.2.1 dL_line_47 (lv_at hl 7 rfl) ?_
    refine lv_iconst S.1 S.2.1 dL_line_49 k_iconst_2 ?_
    refine z_icmp_ne (tgt := 57) S hf dL_line_50 (by decide) (fun hf => ?_) (fun hf => ?_)
    · refine lv_iconst S.1 S.2.1 dL_line_57 k_iconst_0 ?_
      exact J58 _ hC13 _ _ _ _ _ _ _ _ hf _ _ _ (lv_sub hl [1, 2, 0, 4, 5, 6, 7] rfl) hs
    · refine lv_iconst S.1 S.2.1 dL_line_53 k_iconst_1 ?_
      refine lv_goto (tgt := 58) S.1 S.2.1 dL_line_54 (by decide) ?_
      exact J58 _ hC13 _ _ _ _ _ _ _ _ hf _ _ _ (lv_sub hl [1, 2, 0, 4, 5, 6, 7] rfl) hs
  have L13 : ∀ (K13 : Int32 → Int32 → Int32 → Int32 → Int32 → Option (Int32)) (hK13 : ∀ (y1 : Int32) (y2 : Int32) (y3 : Int32) (y4 : Int32) (y5 : Int32), K13 y1 y2 y3 y4 y5 = some res → qGo p l e rmL_line s m args below meth c (MQ below (qQi D cI cB cM ad6 a A r0 σ) args s 0 0 (A)) D cI cB cM ad6 a A 0 0 8 σ [(0, .ref (a 0 0)), (1, .int y1), (2, .int y2), (3, .int y3), (4, .int y4), (5, .int y5)] 134 []) (n : Nat) (y1 : Int32) (y2 : Int32) (y3 : Int32) (y4 : Int32) (y5 : Int32) (y6 : Int32), fL_line_l13 σ K13 n y1 y2 y3 y4 y5 y6 = some res → qGo p l e rmL_line s m args below meth c (MQ below (qQi D cI cB cM ad6 a A r0 σ) args s 0 0 (A)) D cI cB cM ad6 a A 0 0 8 σ [(0, .ref (a 0 0)), (1, .int y1), (2, .int y2), (3, .int y3), (4, .int y4), (5, .int y5), (6, .int y6)] 13 [] := by
    intro K13 hK13 n
    induction n with
    | zero =>
      intro y1 y2 y3 y4 y5 y6 hf H locs ls hl hs
      rw [fL_line_l13] at hf
      cases hf
    | succ n ih =>
      intro y1 y2 y3 y4 y5 y6 hf H locs ls hl hs
      rw [fL_line_l13] at hf
      refine lv_iload S.1 S.2.1 dL_line_13 (lv_at hl 6 rfl) ?_
      refine lv_aload_n S.1 S.2.1 dL_line_15 rfl (lv_at hl 0 rfl) ?_
      refine lv_iconst S.1 S.2.1 dL_line_16 k_iconst_0 ?_
      refine qcP (qV0 K hs) S K hs hl.1 hf (fun _ hX => metX8_value _ _ _ _ _ _ _ _ _ _ _ hX) (cwL_9 S.2.2.2.2 ⟨Nat.le_of_ble_eq_true rfl, Nat.le_of_ble_eq_true rfl⟩) rfl dL_line_17 rfl (Nat.le_of_ble_eq_true rfl) ⟨Nat.le_of_ble_eq_true rfl, Nat.le_of_ble_eq_true rfl⟩ (fun x1 H locs hs hf => ?_)
      refine z_icmp_ge (tgt := 134) S hf dL_line_20 (by decide) (fun hf => ?_) (fun hf => ?_)
      · exact hK13 _ _ _ _ _ hf _ _ _ (lv_sub hl [0, 1, 2, 3, 4, 5] rfl) hs
      · refine lv_aload_n S.1 S.2.1 dL_line_23 rfl (lv_at hl 0 rfl) ?_
        refine lv_iload S.1 S.2.1 dL_line_24 (lv_at hl 6 rfl) ?_
        refine lv_iload_n S.1 S.2.1 dL_line_26 rfl (lv_at hl 1 rfl) ?_
        refine lv_iconst S.1 S.2.1 dL_line_27 k_iconst_0 ?_
        refine qcP (qV0 K hs) S K hs hl.1 hf (fun _ hX => metX8_copy _ _ _ _ _ _ _ _ _ _ _ _ _ hX) (cwL_15 S.2.2.2.2 ⟨Nat.le_of_ble_eq_true rfl, Nat.le_of_ble_eq_true rfl⟩) rfl dL_line_28 rfl (Nat.le_of_ble_eq_true rfl) ⟨Nat.le_of_ble_eq_true rfl, Nat.le_of_ble_eq_true rfl⟩ (fun x2 H locs hs hf => ?_)
        refine lv_istore (lv' := [(7, .int x2), (0, .ref (a 0 0)), (1, .int y1), (2, .int y2), (3, .int y3), (4, .int y4), (5, .int y5), (6, .int y6)]) S.1 S.2.1 dL_line_31 hl (by decide) rfl (fun ls hl => ?_)
        refine lv_iload S.1 S.2.1 dL_line_33 (lv_at hl 0 rfl) ?_
        refine lv_iconst S.1 S.2.1 dL_line_35 k_iconst_2 ?_
        refine z_icmp_ne (tgt := 44) S hf dL_line_36 (by decide) (fun hf => ?_) (fun hf => ?_)
        · refine lv_iload_n S.1 S.2.1 dL_line_44 rfl (lv_at hl 3 rfl) ?_
          exact J45 _ ih _ _ _ _ _ _ _ hf _ _ _ (lv_sub hl [1, 2, 4, 5, 6, 7, 0] rfl) hs
        · refine lv_iload S.1 S.2.1 dL_line_39 (lv_at hl 7 rfl) ?_
          refine lv_goto (tgt := 45) S.1 S.2.1 dL_line_41 (by decide) ?_
          exact J45 _ ih _ _ _ _ _ _ _ hf _ _ _ (lv_sub hl [1, 2, 4, 5, 6, 7, 0] rfl) hs
  have J312 : fL_line_j312 σ = some res → qGo p l e rmL_line s m args below meth c (MQ below (qQi D cI cB cM ad6 a A r0 σ) args s 0 0 (A)) D cI cB cM ad6 a A 0 0 8 σ [] 312 [] := by
    intro hf H locs ls hl hs
    unfold fL_line_j312 at hf
    refine lv_iconst S.1 S.2.1 dL_line_312 k_iconst_1 ?_
    refine lv_goto (tgt := 317) S.1 S.2.1 dL_line_313 (by decide) ?_
    exact qrB S K hr hk hs (hf.trans (congrArg some hres)) dL_line_317
  have J211 : ∀ (y1 : Int32) (y2 : Int32) (y3 : Int32) (y4 : Int32) (w0 : Int32), fL_line_j211 σ y1 y2 y3 y4 w0 = some res → qGo p l e rmL_line s m args below meth c (MQ below (qQi D cI cB cM ad6 a A r0 σ) args s 0 0 (A)) D cI cB cM ad6 a A 0 0 8 σ [(0, .ref (a 0 0)), (1, .int y1), (2, .int y2), (3, .int y3), (4, .int y4)] 211 [.int w0] := by
    intro y1 y2 y3 y4 w0 hf H locs ls hl hs
    unfold fL_line_j211 at hf
    refine lv_istore (lv' := [(5, .int w0), (0, .ref (a 0 0)), (1, .int y1), (2, .int y2), (3, .int y3), (4, .int y4)]) S.1 S.2.1 dL_line_211 hl (by decide) rfl (fun ls hl => ?_)
    refine lv_aload_n S.1 S.2.1 dL_line_213 rfl (lv_at hl 1 rfl) ?_
    refine lv_iload_n S.1 S.2.1 dL_line_214 rfl (lv_at hl 2 rfl) ?_
    refine lv_iconst S.1 S.2.1 dL_line_215 k_iconst_4 ?_
    refine qcP (qV0 K hs) S K hs hl.1 hf (fun _ hX => metX8_line _ _ _ _ _ _ _ _ _ _ _ _ hX) (cwL_19 S.2.2.2.2 ⟨Nat.le_of_ble_eq_true rfl, Nat.le_of_ble_eq_true rfl⟩) rfl dL_line_216 rfl (Nat.le_of_ble_eq_true rfl) ⟨Nat.le_of_ble_eq_true rfl, Nat.le_of_ble_eq_true rfl⟩ (fun x11 H locs hs hf => ?_)
    refine lv_iconst S.1 S.2.1 dL_line_219 k_iconst_1 ?_
    refine z_icmp_ne (tgt := 266) S hf dL_line_220 (by decide) (fun hf => ?_) (fun hf => ?_)
    · refine lv_iload S.1 S.2.1 dL_line_266 (lv_at hl 0 rfl) ?_
      refine z_if_eq (tgt := 316) S hf dL_line_268 (by decide) (fun hf => ?_) (fun hf => ?_)
      · refine lv_iconst S.1 S.2.1 dL_line_316 k_iconst_0 ?_
        exact qrB S K hr hk hs (hf.trans (congrArg some hres)) dL_line_317
      · refine lv_aload_n S.1 S.2.1 dL_line_271 rfl (lv_at hl 1 rfl) ?_
        refine lv_iload_n S.1 S.2.1 dL_line_272 rfl (lv_at hl 2 rfl) ?_
        refine lv_iconst S.1 S.2.1 dL_line_273 k_iconst_5 ?_
        refine qcP (qV0 K hs) S K hs hl.1 hf (fun _ hX => metX8_line _ _ _ _ _ _ _ _ _ _ _ _ hX) (cwL_19 S.2.2.2.2 ⟨Nat.le_of_ble_eq_true rfl, Nat.le_of_ble_eq_true rfl⟩) rfl dL_line_274 rfl (Nat.le_of_ble_eq_true rfl) ⟨Nat.le_of_ble_eq_true rfl, Nat.le_of_ble_eq_true rfl⟩ (fun x12 H locs hs hf => ?_)
        refine lv_iconst S.1 S.2.1 dL_line_277 k_iconst_m1 ?_
        refine z_icmp_ne (tgt := 316) S hf dL_line_278 (by decide) (fun hf => ?_) (fun hf => ?_)
        · refine lv_iconst S.1 S.2.1 dL_line_316 k_iconst_0 ?_
          exact qrB S K hr hk hs (hf.trans (congrArg some hres)) dL_line_317
        · refine lv_aload_n S.1 S.2.1 dL_line_281 rfl (lv_at hl 1 rfl) ?_
          refine lv_iload_n S.1 S.2.1 dL_line_282 rfl (lv_at hl 2 rfl) ?_
          refine lv_bipush S.1 S.2.1 dL_line_283 k_bipush_6 ?_
          refine qcP (qV0 K hs) S K hs hl.1 hf (fun _ hX => metX8_line _ _ _ _ _ _ _ _ _ _ _ _ hX) (cwL_19 S.2.2.2.2 ⟨Nat.le_of_ble_eq_true rfl, Nat.le_of_ble_eq_true rfl⟩) rfl dL_line_285 rfl (Nat.le_of_ble_eq_true rfl) ⟨Nat.le_of_ble_eq_true rfl, Nat.le_of_ble_eq_true rfl⟩ (fun x13 H locs hs hf => ?_)
          refine lv_iconst S.1 S.2.1 dL_line_288 k_iconst_m1 ?_
          refine z_icmp_ne (tgt := 316) S hf dL_line_289 (by decide) (fun hf => ?_) (fun hf => ?_)
          · refine lv_iconst S.1 S.2.1 dL_line_316 k_iconst_0 ?_
            exact qrB S K hr hk hs (hf.trans (congrArg some hres)) dL_line_317
          · refine lv_aload_n S.1 S.2.1 dL_line_292 rfl (lv_at hl 1 rfl) ?_
            refine lv_iload_n S.1 S.2.1 dL_line_293 rfl (lv_at hl 2 rfl) ?_
            refine lv_bipush S.1 S.2.1 dL_line_294 k_bipush_7 ?_
            refine qcP (qV0 K hs) S K hs hl.1 hf (fun _ hX => metX8_line _ _ _ _ _ _ _ _ _ _ _ _ hX) (cwL_19 S.2.2.2.2 ⟨Nat.le_of_ble_eq_true rfl, Nat.le_of_ble_eq_true rfl⟩) rfl dL_line_296 rfl (Nat.le_of_ble_eq_true rfl) ⟨Nat.le_of_ble_eq_true rfl, Nat.le_of_ble_eq_true rfl⟩ (fun x14 H locs hs hf => ?_)
            refine lv_iconst S.1 S.2.1 dL_line_299 k_iconst_1 ?_
            refine z_icmp_eq (tgt := 312) S hf dL_line_300 (by decide) (fun hf => ?_) (fun hf => ?_)
            · exact J312  hf _ _ _ (lv_sub hl [] rfl) hs
            · refine lv_iload_n S.1 S.2.1 dL_line_303 rfl (lv_at hl 4 rfl) ?_
              refine z_if_ne (tgt := 316) S hf dL_line_304 (by decide) (fun hf => ?_) (fun hf => ?_)
              · refine lv_iconst S.1 S.2.1 dL_line_316 k_iconst_0 ?_
                exact qrB S K hr hk hs (hf.trans (congrArg some hres)) dL_line_317
              · refine lv_iload S.1 S.2.1 dL_line_307 (lv_at hl 5 rfl) ?_
                refine z_if_ne (tgt := 316) S hf dL_line_309 (by decide) (fun hf => ?_) (fun hf => ?_)
                · refine lv_iconst S.1 S.2.1 dL_line_316 k_iconst_0 ?_
                  exact qrB S K hr hk hs (hf.trans (congrArg some hres)) dL_line_317
                · exact J312  hf _ _ _ (lv_sub hl [] rfl) hs
    · refine lv_iload S.1 S.2.1 dL_line_223 (lv_at hl 0 rfl) ?_
      refine z_if_eq (tgt := 264) S hf dL_line_225 (by decide) (fun hf => ?_) (fun hf => ?_)
      · refine lv_iconst S.1 S.2.1 dL_line_264 k_iconst_0 ?_
        exact qrB S K hr hk hs (hf.trans (congrArg some hres)) dL_line_265
      · refine lv_aload_n S.1 S.2.1 dL_line_228 rfl (lv_at hl 1 rfl) ?_
        refine lv_iload_n S.1 S.2.1 dL_line_229 rfl (lv_at hl 2 rfl) ?_
        refine lv_iconst S.1 S.2.1 dL_line_230 k_iconst_5 ?_
        refine qcP (qV0 K hs) S K hs hl.1 hf (fun _ hX => metX8_line _ _ _ _ _ _ _ _ _ _ _ _ hX) (cwL_19 S.2.2.2.2 ⟨Nat.le_of_ble_eq_true rfl, Nat.le_of_ble_eq_true rfl⟩) rfl dL_line_231 rfl (Nat.le_of_ble_eq_true rfl) ⟨Nat.le_of_ble_eq_true rfl, Nat.le_of_ble_eq_true rfl⟩ (fun x15 H locs hs hf => ?_)
        refine lv_iload_n S.1 S.2.1 dL_line_234 rfl (lv_at hl 3 rfl) ?_
        refine z_icmp_ne (tgt := 264) S hf dL_line_235 (by decide) (fun hf => ?_) (fun hf => ?_)
        · refine lv_iconst S.1 S.2.1 dL_line_264 k_iconst_0 ?_
          exact qrB S K hr hk hs (hf.trans (congrArg some hres)) dL_line_265
        · refine lv_aload_n S.1 S.2.1 dL_line_238 rfl (lv_at hl 1 rfl) ?_
          refine lv_iload_n S.1 S.2.1 dL_line_239 rfl (lv_at hl 2 rfl) ?_
          refine lv_bipush S.1 S.2.1 dL_line_240 k_bipush_6 ?_
          refine qcP (qV0 K hs) S K hs hl.1 hf (fun _ hX => metX8_line _ _ _ _ _ _ _ _ _ _ _ _ hX) (cwL_19 S.2.2.2.2 ⟨Nat.le_of_ble_eq_true rfl, Nat.le_of_ble_eq_true rfl⟩) rfl dL_line_242 rfl (Nat.le_of_ble_eq_true rfl) ⟨Nat.le_of_ble_eq_true rfl, Nat.le_of_ble_eq_true rfl⟩ (fun x16 H locs hs hf => ?_)
          refine lv_iload S.1 S.2.1 dL_line_245 (lv_at hl 5 rfl) ?_
          refine z_icmp_ne (tgt := 264) S hf dL_line_247 (by decide) (fun hf => ?_) (fun hf => ?_)
          · refine lv_iconst S.1 S.2.1 dL_line_264 k_iconst_0 ?_
            exact qrB S K hr hk hs (hf.trans (congrArg some hres)) dL_line_265
          · refine lv_aload_n S.1 S.2.1 dL_line_250 rfl (lv_at hl 1 rfl) ?_
            refine lv_iload_n S.1 S.2.1 dL_line_251 rfl (lv_at hl 2 rfl) ?_
            refine lv_bipush S.1 S.2.1 dL_line_252 k_bipush_7 ?_
            refine qcP (qV0 K hs) S K hs hl.1 hf (fun _ hX => metX8_line _ _ _ _ _ _ _ _ _ _ _ _ hX) (cwL_19 S.2.2.2.2 ⟨Nat.le_of_ble_eq_true rfl, Nat.le_of_ble_eq_true rfl⟩) rfl dL_line_254 rfl (Nat.le_of_ble_eq_true rfl) ⟨Nat.le_of_ble_eq_true rfl, Nat.le_of_ble_eq_true rfl⟩ (fun x17 H locs hs hf => ?_)
            refine z_if_ne (tgt := 264) S hf dL_line_257 (by decide) (fun hf => ?_) (fun hf => ?_)
            · refine lv_iconst S.1 S.2.1 dL_line_264 k_iconst_0 ?_
              exact qrB S K hr hk hs (hf.trans (congrArg some hres)) dL_line_265
            · refine lv_iconst S.1 S.2.1 dL_line_260 k_iconst_1 ?_
              refine lv_goto (tgt := 265) S.1 S.2.1 dL_line_261 (by decide) ?_
              exact qrB S K hr hk hs (hf.trans (congrArg some hres)) dL_line_265
  have J210 : ∀ (y1 : Int32) (y2 : Int32) (y3 : Int32) (y4 : Int32), fL_line_j210 σ y1 y2 y3 y4 = some res → qGo p l e rmL_line s m args below meth c (MQ below (qQi D cI cB cM ad6 a A r0 σ) args s 0 0 (A)) D cI cB cM ad6 a A 0 0 8 σ [(0, .ref (a 0 0)), (1, .int y1), (2, .int y2), (3, .int y3), (4, .int y4)] 210 [] := by
    intro y1 y2 y3 y4 hf H locs ls hl hs
    unfold fL_line_j210 at hf
    refine lv_iconst S.1 S.2.1 dL_line_210 k_iconst_0 ?_
    exact J211 _ _ _ _ _ hf _ _ _ (lv_sub hl [0, 1, 2, 3, 4] rfl) hs
  have J206 : ∀ (y1 : Int32) (y2 : Int32) (y3 : Int32) (y4 : Int32), fL_line_j206 σ y1 y2 y3 y4 = some res → qGo p l e rmL_line s m args below meth c (MQ below (qQi D cI cB cM ad6 a A r0 σ) args s 0 0 (A)) D cI cB cM ad6 a A 0 0 8 σ [(0, .ref (a 0 0)), (1, .int y1), (2, .int y2), (3, .int y3), (4, .int y4)] 206 [] := by
    intro y1 y2 y3 y4 hf H locs ls hl hs
    unfold fL_line_j206 at hf
    refine lv_iconst S.1 S.2.1 dL_line_206 k_iconst_1 ?_
    refine lv_goto (tgt := 211) S.1 S.2.1 dL_line_207 (by decide) ?_
    exact J211 _ _ _ _ _ hf _ _ _ (lv_sub hl [0, 1, 2, 3, 4] rfl) hs
  have J179 : ∀ (y1 : Int32) (y2 : Int32) (y3 : Int32) (y4 : Int32) (w0 : Int32), fL_line_j179 σ y1 y2 y3 y4 w0 = some res → qGo p l e rmL_line s m args below meth c (MQ below (qQi D cI cB cM ad6 a A r0 σ) args s 0 0 (A)) D cI cB cM ad6 a A 0 0 8 σ [(0, .ref (a 0 0)), (1, .int y1), (2, .int y2), (3, .int y3), (4, .int y4)] 179 [.int w0] := by
    intro y1 y2 y3 y4 w0 hf H locs ls hl hs
    unfold fL_line_j179 at hf
    refine lv_istore (lv' := [(5, .int w0), (0, .ref (a 0 0)), (1, .int y1), (2, .int y2), (3, .int y3), (4, .int y4)]) S.1 S.2.1 dL_line_179 hl (by decide) rfl (fun ls hl => ?_)
    refine lv_iload S.1 S.2.1 dL_line_181 (lv_at hl 0 rfl) ?_
    refine z_if_eq (tgt := 210) S hf dL_line_183 (by decide) (fun hf => ?_) (fun hf => ?_)
    · exact J210 _ _ _ _ hf _ _ _ (lv_sub hl [1, 2, 3, 4, 5] rfl) hs
    · refine lv_iload_n S.1 S.2.1 dL_line_186 rfl (lv_at hl 4 rfl) ?_
      refine lv_iconst S.1 S.2.1 dL_line_187 k_iconst_1 ?_
      refine z_icmp_eq (tgt := 206) S hf dL_line_188 (by decide) (fun hf => ?_) (fun hf => ?_)
      · exact J206 _ _ _ _ hf _ _ _ (lv_sub hl [1, 2, 3, 4, 5] rfl) hs
      · refine lv_aload_n S.1 S.2.1 dL_line_191 rfl (lv_at hl 1 rfl) ?_
        refine lv_iload_n S.1 S.2.1 dL_line_192 rfl (lv_at hl 2 rfl) ?_
        refine lv_iconst S.1 S.2.1 dL_line_193 k_iconst_0 ?_
        refine qcP (qV0 K hs) S K hs hl.1 hf (fun _ hX => metX8_line _ _ _ _ _ _ _ _ _ _ _ _ hX) (cwL_19 S.2.2.2.2 ⟨Nat.le_of_ble_eq_true rfl, Nat.le_of_ble_eq_true rfl⟩) rfl dL_line_194 rfl (Nat.le_of_ble_eq_true rfl) ⟨Nat.le_of_ble_eq_true rfl, Nat.le_of_ble_eq_true rfl⟩ (fun x18 H locs hs hf => ?_)
        refine lv_aload_n S.1 S.2.1 dL_line_197 rfl (lv_at hl 1 rfl) ?_
        refine lv_iload_n S.1 S.2.1 dL_line_198 rfl (lv_at hl 2 rfl) ?_
        refine lv_iconst S.1 S.2.1 dL_line_199 k_iconst_1 ?_
        refine qcP (qV0 K hs) S K hs hl.1 hf (fun _ hX => metX8_line _ _ _ _ _ _ _ _ _ _ _ _ hX) (cwL_19 S.2.2.2.2 ⟨Nat.le_of_ble_eq_true rfl, Nat.le_of_ble_eq_true rfl⟩) rfl dL_line_200 rfl (Nat.le_of_ble_eq_true rfl) ⟨Nat.le_of_ble_eq_true rfl, Nat.le_of_ble_eq_true rfl⟩ (fun x19 H locs hs hf => ?_)
        refine z_icmp_ne (tgt := 210) S hf dL_line_203 (by decide) (fun hf => ?_) (fun hf => ?_)
        · exact J210 _ _ _ _ hf _ _ _ (lv_sub hl [1, 2, 3, 4, 5] rfl) hs
        · exact J206 _ _ _ _ hf _ _ _ (lv_sub hl [1, 2, 3, 4, 5] rfl) hs
  have J178 : ∀ (y1 : Int32) (y2 : Int32) (y3 : Int32) (y4 : Int32), fL_line_j178 σ y1 y2 y3 y4 = some res → qGo p l e rmL_line s m args below meth c (MQ below (qQi D cI cB cM ad6 a A r0 σ) args s 0 0 (A)) D cI cB cM ad6 a A 0 0 8 σ [(0, .ref (a 0 0)), (1, .int y1), (2, .int y2), (3, .int y3), (4, .int y4)] 178 [] := by
    intro y1 y2 y3 y4 hf H locs ls hl hs
    unfold fL_line_j178 at hf
    refine lv_iconst S.1 S.2.1 dL_line_178 k_iconst_0 ?_
    exact J179 _ _ _ _ _ hf _ _ _ (lv_sub hl [0, 1, 2, 3, 4] rfl) hs
  have J153 : ∀ (y1 : Int32) (y2 : Int32) (y3 : Int32) (y4 : Int32), fL_line_j153 σ y1 y2 y3 y4 = some res → qGo p l e rmL_line s m args below meth c (MQ below (qQi D cI cB cM ad6 a A r0 σ) args s 0 0 (A)) D cI cB cM ad6 a A 0 0 8 σ [(0, .ref (a 0 0)), (1, .int y1), (2, .int y2), (3, .int y3), (4, .int y4)] 153 [] := by
    intro y1 y2 y3 y4 hf H locs ls hl hs
    unfold fL_line_j153 at hf
    refine lv_aload_n S.1 S.2.1 dL_line_153 rfl (lv_at hl 0 rfl) ?_
    refine lv_iload_n S.1 S.2.1 dL_line_154 rfl (lv_at hl 1 rfl) ?_
    refine lv_iconst S.1 S.2.1 dL_line_155 k_iconst_2 ?_
    refine qcP (qV0 K hs) S K hs hl.1 hf (fun _ hX => metX8_line _ _ _ _ _ _ _ _ _ _ _ _ hX) (cwL_19 S.2.2.2.2 ⟨Nat.le_of_ble_eq_true rfl, Nat.le_of_ble_eq_true rfl⟩) rfl dL_line_156 rfl (Nat.le_of_ble_eq_true rfl) ⟨Nat.le_of_ble_eq_true rfl, Nat.le_of_ble_eq_true rfl⟩ (fun x20 H locs hs hf => ?_)
    refine lv_iload_n S.1 S.2.1 dL_line_159 rfl (lv_at hl 2 rfl) ?_
    refine z_icmp_ne (tgt := 178) S hf dL_line_160 (by decide) (fun hf => ?_) (fun hf => ?_)
    · exact J178 _ _ _ _ hf _ _ _ (lv_sub hl [0, 1, 2, 3, 4] rfl) hs
    · refine lv_aload_n S.1 S.2.1 dL_line_163 rfl (lv_at hl 0 rfl) ?_
      refine lv_iload_n S.1 S.2.1 dL_line_164 rfl (lv_at hl 1 rfl) ?_
      refine lv_iconst S.1 S.2.1 dL_line_165 k_iconst_3 ?_
      refine qcP (qV0 K hs) S K hs hl.1 hf (fun _ hX => metX8_line _ _ _ _ _ _ _ _ _ _ _ _ hX) (cwL_19 S.2.2.2.2 ⟨Nat.le_of_ble_eq_true rfl, Nat.le_of_ble_eq_true rfl⟩) rfl dL_line_166 rfl (Nat.le_of_ble_eq_true rfl) ⟨Nat.le_of_ble_eq_true rfl, Nat.le_of_ble_eq_true rfl⟩ (fun x21 H locs hs hf => ?_)
      refine lv_iload S.1 S.2.1 dL_line_169 (lv_at hl 4 rfl) ?_
      refine z_icmp_ne (tgt := 178) S hf dL_line_171 (by decide) (fun hf => ?_) (fun hf => ?_)
      · exact J178 _ _ _ _ hf _ _ _ (lv_sub hl [0, 1, 2, 3, 4] rfl) hs
      · refine lv_iconst S.1 S.2.1 dL_line_174 k_iconst_1 ?_
        refine lv_goto (tgt := 179) S.1 S.2.1 dL_line_175 (by decide) ?_
        exact J179 _ _ _ _ _ hf _ _ _ (lv_sub hl [0, 1, 2, 3, 4] rfl) hs
  unfold fL_line at hf
  refine lv_iconst S.1 S.2.1 dL_line_0 k_iconst_m1 ?_
  refine lv_istore_n (lv' := [(2, .int (-1)), (0, .ref (a 0 0)), (1, .int a1)]) S.1 S.2.1 dL_line_1 rfl hl (by decide) rfl (fun ls hl => ?_)
  refine lv_iconst S.1 S.2.1 dL_line_2 k_iconst_0 ?_
  refine lv_istore_n (lv' := [(3, .int (nI 0)), (2, .int (-1)), (0, .ref (a 0 0)), (1, .int a1)]) S.1 S.2.1 dL_line_3 rfl hl (by decide) rfl (fun ls hl => ?_)
  refine lv_iconst S.1 S.2.1 dL_line_4 k_iconst_0 ?_
  refine lv_istore (lv' := [(4, .int (nI 0)), (3, .int (nI 0)), (2, .int (-1)), (0, .ref (a 0 0)), (1, .int a1)]) S.1 S.2.1 dL_line_5 hl (by decide) rfl (fun ls hl => ?_)
  refine lv_iconst S.1 S.2.1 dL_line_7 k_iconst_1 ?_
  refine lv_istore (lv' := [(5, .int (nI 1)), (4, .int (nI 0)), (3, .int (nI 0)), (2, .int (-1)), (0, .ref (a 0 0)), (1, .int a1)]) S.1 S.2.1 dL_line_8 hl (by decide) rfl (fun ls hl => ?_)
  refine lv_iconst S.1 S.2.1 dL_line_10 k_iconst_0 ?_
  refine lv_istore (lv' := [(6, .int (nI 0)), (5, .int (nI 1)), (4, .int (nI 0)), (3, .int (nI 0)), (2, .int (-1)), (0, .ref (a 0 0)), (1, .int a1)]) S.1 S.2.1 dL_line_11 hl (by decide) rfl (fun ls hl => ?_)
  refine L13 _ (fun x6 x7 x8 x9 x10 hf H locs ls hl hs => ?_) _ _ _ _ _ _ _ hf _ _ _ (lv_sub hl [5, 6, 4, 3, 2, 1, 0] rfl) hs
  refine lv_iload S.1 S.2.1 dL_line_134 (lv_at hl 5 rfl) ?_
  refine z_if_eq (tgt := 178) S hf dL_line_136 (by decide) (fun hf => ?_) (fun hf => ?_)
  · exact J178 _ _ _ _ hf _ _ _ (lv_sub hl [0, 1, 2, 3, 4] rfl) hs
  · refine lv_iload_n S.1 S.2.1 dL_line_139 rfl (lv_at hl 3 rfl) ?_
    refine lv_iconst S.1 S.2.1 dL_line_140 k_iconst_1 ?_
    refine z_icmp_gt (tgt := 178) S hf dL_line_141 (by decide) (fun hf => ?_) (fun hf => ?_)
    · exact J178 _ _ _ _ hf _ _ _ (lv_sub hl [0, 1, 2, 3, 4] rfl) hs
    · refine lv_iload_n S.1 S.2.1 dL_line_144 rfl (lv_at hl 3 rfl) ?_
      refine z_if_eq (tgt := 153) S hf dL_line_145 (by decide) (fun hf => ?_) (fun hf => ?_)
      · exact J153 _ _ _ _ hf _ _ _ (lv_sub hl [0, 1, 2, 3, 4] rfl) hs
      · refine lv_iload S.1 S.2.1 dL_line_148 (lv_at hl 4 rfl) ?_
        refine z_if_ne (tgt := 178) S hf dL_line_150 (by decide) (fun hf => ?_) (fun hf => ?_)
        · exact J178 _ _ _ _ hf _ _ _ (lv_sub hl [0, 1, 2, 3, 4] rfl) hs
        · exact J153 _ _ _ _ hf _ _ _ (lv_sub hl [0, 1, 2, 3, 4] rfl) hs
theorem metL_line (l : Launch) (D : va_G) (cI : ClassId) (cB cM : ClassId) (ad6 : Nat → Nat) (a : Nat → Nat → Nat) (A : Nat → Prop) (a1 : Int32) (σ : cSt) (r0 : Int32) (hf : fL_line a1 σ = some r0) : Met l yL_line (Cond.code yL_line cL_line 8 (some .boolean) :: WA) rmL_line (qPc D cI cB cM ad6 a A σ [.ref (a 0 0), .int a1]) ((qQi D cI cB cM ad6 a A r0 σ)) 0 0 (A) :=
  qMet (by decide) (Nat.le_of_ble_eq_true rfl) (fun p e s m args below meth c H locs ls S K hr hk hl hs => bdL_line S K hr hk _ _ _ hf hl hs)
