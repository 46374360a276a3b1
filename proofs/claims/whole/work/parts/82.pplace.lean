/-! the third step of a miss: room for the copy, in both -/
def hitB (τ : zSt) (c l : Nat) (w : Int32) : Prop := if w = 0 then τ 2 (c * 32 + l) ≠ 0 else τ 2 (c * 32 + l) = nI 2
theorem qx_isHit {τ : zSt} {c l : Nat} {w : Int32} (hc : c < 6) (hl : l < 32) : (hitB τ c l w → fX4_isHit (nI c) (nI l) w τ = some (nI 1)) ∧ (¬ hitB τ c l w → fX4_isHit (nI c) (nI l) w τ = some (nI 0)) := by
  unfold fX4_isHit hitB
  rw [qx_kindOf hc hl, Option.bind_some]
  by_cases hw : w = 0
  · rw [if_pos hw, if_pos hw]
    by_cases h : τ 2 (c * 32 + l) = 0
    · rw [if_pos h]; exact ⟨fun z => absurd h z, fun _ => rfl⟩
    · rw [if_neg h]; exact ⟨fun _ => rfl, fun z => absurd h z⟩
  · rw [if_neg hw, if_neg hw]
    by_cases h : τ 2 (c * 32 + l) = nI 2
    · rw [if_pos h]; exact ⟨fun _ => rfl, fun z => absurd h z⟩
    · rw [if_neg h]; exact ⟨fun z => absurd z h, fun _ => rfl⟩
theorem cop_at {n S U : Nat} {σ τ : zSt} (hn : n ≤ 6) (hS : S ≤ 8) (h : mCop n S U noX σ τ) {c l : Nat} (hc : c < n) (hl : l < 32) (hk : τ 2 (c * 32 + l) ≠ 0) : ∃ s, s < S ∧ τ 4 (c * 32 + l) = nI s ∧ σ 0 (sA c s) = nI l ∧ rcp σ S c (nI l) = some (sA c s) ∧ σ 0 (sA c s + 1) = τ 2 (c * 32 + l) ∧ σ 0 (sA c s + 2) = τ 3 (c * 32 + l) ∧ σ 0 (sA c s + 3) = τ 5 (c * 32 + l) ∧ ∃ a, a ≤ U ∧ τ 5 (c * 32 + l) = nI a := by
  obtain ⟨s, s1, s2, s3, s4⟩ := (rcp_of hS h hc hn hl).2 hk
  obtain ⟨-, t, g2, g3, g4, g5⟩ := h.1 c l (by omega) hl hk
  rw [s2] at g3
  obtain rfl := (nI_eq (by omega) (by omega)).mp g3
  exact ⟨s, s1, s2, s3, s4, g5 id⟩
theorem qr_isHit {n S R P U D c l : Nat} {E : Nat → Prop} {w : Int32} {σ τ : zSt} (h : mInv n S R P U D E noX σ τ) (hc : c < n) (hl : l < 32) : (hitB τ c l w → fX9_isHit (nI c) (nI l) w σ = some (nI 1)) ∧ (¬ hitB τ c l w → fX9_isHit (nI c) (nI l) w σ = some (nI 0)) := by
  obtain ⟨⟨⟨a1, a2, a3, a4, a5, a6, a7⟩, b1, c1, -⟩, -, -, -, -, -, hCo, -, -⟩ := h
  unfold fX9_isHit fX9_isHit_j30 hitB
  rw [qr_copyOf (by omega) a4 c1.1, Option.bind_some]
  by_cases hk : τ 2 (c * 32 + l) = 0
  · rw [(rcp_of a4 hCo hc a2 hl).1 hk, oI_none, if_pos p_neg, hk]
    refine ⟨fun z => ?_, fun _ => rfl⟩
    by_cases hw : w = 0
    · rw [if_pos hw] at z; exact absurd rfl z
    · rw [if_neg hw] at z; exact absurd z (by decide)
  · obtain ⟨s, s1, s2, s3, s4, s5, -⟩ := cop_at a2 a4 hCo hc hl hk
    have ha : sA c s + 3 < 302 := sA_lt (by omega) (by omega) (by omega)
    rw [s4, oI_some, if_neg (nI_pos (by omega)), nI_add, p_ag (by omega) (by omega), Option.bind_some, s5]
    by_cases hw : w = 0
    · rw [if_pos hw, if_pos hw]
      exact ⟨fun _ => rfl, fun z => absurd hk z⟩
    · rw [if_neg hw, if_neg hw]
      by_cases h2 : τ 2 (c * 32 + l) = nI 2
      · rw [if_pos h2]; exact ⟨fun _ => rfl, fun z => absurd h2 z⟩
      · rw [if_neg h2]; exact ⟨fun z => absurd z h2, fun _ => rfl⟩
theorem qx_use {τ : zSt} {l : Nat} (hl : l < 32) : fX4_fetch_j128 (nI l) τ = some (wr (ws τ 12 (τ 12 0 + nI 1)) 6 l (τ 12 0 + nI 1)) := by
  unfold fX4_fetch_j128
  rw [qx_use1 hl, Option.bind_some]
/-- the class's cells behind the filling -/
def fillT (c l s D : Nat) (τ : zSt) : zSt :=
  wr (ws (if τ 2 (c * 32 + l) = 0 then wr (wr (wr τ 2 (c * 32 + l) (nI 1)) 3 (c * 32 + l) (τ 0 l)) 4 (c * 32 + l) (nI s) else τ) 12 (nI (D + 1))) 6 l (nI (D + 1))
theorem fillT_some {τ : zSt} {c l s D : Nat} (hl : l < 32) (h12 : τ 12 0 = nI D) (h : τ 2 (c * 32 + l) ≠ 0) : fX4_fetch_j128 (nI l) τ = some (fillT c l s D τ) := by
  rw [qx_use hl, h12, nI_add]
  unfold fillT
  rw [if_neg h]
theorem fillT_add {τ : zSt} {c l s S D : Nat} (hc : c < 6) (hl : l < 32) (h12 : τ 12 0 = nI D) (h20 : τ 20 0 = nI S) (h : τ 2 (c * 32 + l) = 0) (hf : fX0_freeSlot (nI c) (nI S) τ = some (nI s)) : fX4_fetch_j101 (nI c) (nI l) τ = some (fillT c l s D τ) := by
  unfold fX4_fetch_j101 fX0_add
  rw [p_ag (by omega) (by omega), Option.bind_some, h20, hf, Option.bind_some, p_mul, nI_add, p_wr (by omega) (by omega), Option.bind_some, p_wr (by omega) (by omega), Option.bind_some, p_wr (by omega) (by omega), Option.bind_some, Option.bind_some, qx_use hl]
  unfold fillT
  rw [if_pos h, wr_o (by omega), wr_o (by omega), wr_o (by omega), h12, nI_add]
theorem rl_place {n S R P U D c l m : Nat} {w : Int32} {σ τ : zSt} (h : mInv n S R P U D (fun k => k = l) noX σ τ) (hl : l < 32) (hc : c < n) :
    ∃ s dm σ' τ', s < S ∧ ((fX9_copyOf (nI c) (nI l) σ).bind fun x5 => if 0 ≤ x5 then fX9_misses_j48 (nI c) (nI l) w (nI m) x5 σ else (fX9_copyOf (nI c) (-1) σ).bind fun x19 => fX9_misses_j48 (nI c) (nI l) w (nI m) x19 σ) = fX9_misses_j72 (nI c) (nI l) w (nI (m + dm)) (nI (sA c s)) σ' ∧
      fX4_fetch_j69 (nI c) (nI l) τ = some (fillT c l s D τ') ∧ (∀ y, fX4_costOf_j87 τ (nI c) (nI l) (nI y) = some (nI (y + dm))) ∧ mInv n S R P U D (fun k => k = l) noX σ' τ' ∧
      ((τ' 2 (c * 32 + l) ≠ 0 ∧ τ' 4 (c * 32 + l) = nI s) ∨ (τ' 2 (c * 32 + l) = 0 ∧ σ' 0 (sA c s) = -1)) ∧ (∀ e, τ' 2 (e * 32 + l) = τ 2 (e * 32 + l)) ∧ (∀ i, i ≠ 0 → σ' i = σ i) ∧ (∀ k, k ≠ 11 → (k < 14 ∨ 46 ≤ k) → (k < 110 ∨ 366 ≤ k) → σ' 0 k = σ 0 k) ∧ ∀ i, i ≠ 0 → i ≠ 2 → i ≠ 26 → τ' i = τ i := by
  have hh := h
  obtain ⟨⟨⟨a1, a2, a3, a4, a5, a6, a7⟩, b1, c1, -⟩, -, -, -, -, -, hCo, hPa, -⟩ := h
  have h12 : τ 12 0 = nI D := hPa.2.2.2.2.2.2.2.2.1
  rw [qr_copyOf (by omega) a4 c1.1, Option.bind_some]
  by_cases hk : τ 2 (c * 32 + l) = 0
  · rw [(rcp_of a4 hCo hc a2 hl).1 hk, oI_none, if_neg (fun z => absurd p_neg (Int32.not_lt.mpr z)), qr_copyOf (by omega) a4 c1.1, Option.bind_some]
    have hj69 : ∀ x, fX4_lineToDrop (nI c) τ = some x → fX4_fetch_j69 (nI c) (nI l) τ = if x = -1 then fX4_fetch_j101 (nI c) (nI l) τ else (fX4_throwAway (nI c) x τ).bind fun σ9 => fX4_fetch_j101 (nI c) (nI l) σ9 := fun x hx => by
      unfold fX4_fetch_j69
      rw [qx_kindOf (by omega) hl, Option.bind_some, if_pos hk, hx, Option.bind_some]
    have hj87 : ∀ x y, fX4_lineToDrop (nI c) τ = some x → fX4_costOf_j87 τ (nI c) (nI l) (nI y) = if x = -1 then some (nI y) else (fX0_kindOf (nI c) x τ).bind fun x6 => if x6 = nI 2 then some (nI y + nI 1) else some (nI y) := fun x y hx => by
      unfold fX4_costOf_j87
      rw [qx_kindOf (by omega) hl, Option.bind_some, if_pos hk, hx, Option.bind_some]
    rcases rl_ltd hh hc with ⟨s, s1, s2, s3, s4, s5⟩ | ⟨s1, s2, b, d, q1, q2, q3, q4, q5, q6, q7, q8⟩
    · refine ⟨s, 0, σ, τ, s1, ?_, ?_, fun y => ?_, hh, Or.inr ⟨hk, s3⟩, fun _ => rfl, fun _ _ => rfl, fun _ _ _ _ => rfl, fun _ _ _ _ => rfl⟩
      · have ha : sA c s + 3 < 302 := sA_lt (by omega) (by omega) (by omega)
        rw [s2, oI_some]
        unfold fX9_misses_j48
        rw [if_pos (nI_pos' (by omega))]
        rfl
      · rw [hj69 _ s5, if_pos rfl]
        exact fillT_add (by omega) hl h12 c1.2 hk s4
      · rw [hj87 _ y s5, if_pos rfl]
        rfl
    · have hdl : d ≠ l := fun e => q5 (by rw [e]; exact hk)
      obtain ⟨σ', t1, t2, t3, t4, t5⟩ := rl_drop hh q2 hc hdl q5 q1 q6 q4
      have hix : ∀ e, (dropT c d τ) 2 (e * 32 + l) = τ 2 (e * 32 + l) := fun e => by
        unfold dropT
        rw [wr_n (by omega)]
        split
        · rw [ws_o (by omega), wr_o (by omega)]
        · rfl
      have hrow : ∀ i, i ≠ 0 → i ≠ 2 → i ≠ 26 → (dropT c d τ) i = τ i := fun i i1 i2 i3 => by
        unfold dropT
        rw [wr_o i2]
        split
        · rw [ws_o i3, wr_o i1]
        · rfl
      -- behind it the only free slot is b
      have hd0 : (dropT c d τ) 2 (c * 32 + d) = 0 := by unfold dropT; rw [wr_e]; exact nI_0
      have hkeep : ∀ k, k ≠ c * 32 + d → (dropT c d τ) 2 k = τ 2 k := fun k hk2 => by
        unfold dropT
        rw [wr_n hk2]
        split
        · rw [ws_o (by omega), wr_o (by omega)]
        · rfl
      have hfree : ∃ s, s < S ∧ σ' 0 (sA c s) = -1 ∧ fX0_freeSlot (nI c) (nI S) (dropT c d τ) = some (nI s) := by
        rcases rl_ltd t3 hc with ⟨s, s1, s2, s3, s4, s5⟩ | ⟨u1, u2, -⟩
        · exact ⟨s, s1, s3, s4⟩
        · refine absurd (fun k hk2 hz => ?_) (u2 b q1)
          intro e4
          rw [hrow 4 (by omega) (by omega) (by omega)] at e4
          have hkd : k ≠ d := fun z => hz (by rw [z]; exact hd0)
          rw [hkeep _ (by omega)] at hz
          obtain ⟨-, t, g2, g3, g4, -⟩ := hCo.1 c k (by omega) hk2 hz
          rw [e4] at g3
          obtain rfl := (nI_eq (by omega) (by omega)).mp g3
          rw [q4] at g4
          exact hkd ((nI_eq (by omega) (by omega)).mp g4).symm
      obtain ⟨s, f1, f2, f3⟩ := hfree
      have hsb : s = b := by
        -- the slot that is free now was b's
        by_cases e : s = b
        · exact e
        · exfalso
          rcases hCo.2.1 c s hc f1 with z | ⟨k, z1, z2, z3, z4⟩
          · exact s2 s f1 fun k hk2 hz e4 => by
              obtain ⟨-, t, g2, g3, g4, -⟩ := hCo.1 c k (by omega) hk2 hz
              rw [e4] at g3
              obtain rfl := (nI_eq (by omega) (by omega)).mp g3
              rw [z] at g4
              exact p_nneg' (by omega) g4
          · have hkd : k ≠ d := fun q => by
              rw [q, q6] at z4
              exact e ((nI_eq (by omega) (by omega)).mp z4).symm
            have hz' : (dropT c d τ) 2 (c * 32 + k) ≠ 0 := by rw [hkeep _ (by omega)]; exact z3
            obtain ⟨-, t, g2, g3, g4, -⟩ := t3.2.2.2.2.2.2.1.1 c k (by omega) z1 hz'
            rw [hrow 4 (by omega) (by omega) (by omega), z4] at g3
            obtain rfl := (nI_eq (by omega) (by omega)).mp g3
            rw [f2] at g4
            exact p_nneg' (by omega) g4
      subst hsb
      refine ⟨s, if τ 2 (c * 32 + d) = nI 2 then 1 else 0, σ', dropT c d τ, f1, ?_, ?_, fun y => ?_, t3, Or.inr ⟨by rw [hix]; exact hk, f2⟩, hix, t4, t5, hrow⟩
      · rw [s1, oI_none]
        unfold fX9_misses_j48
        rw [if_neg (fun z => absurd p_neg (Int32.not_lt.mpr z)), q3, Option.bind_some, t1]
        show fX9_misses_j72 _ _ _ (nI m + nI _) _ _ = _
        rw [nI_add]
      · rw [hj69 _ q7, if_neg (p_nneg (by omega)), t2, Option.bind_some]
        exact fillT_add (by omega) hl (by rw [hrow 12 (by omega) (by omega) (by omega)]; exact h12) (by rw [hrow 20 (by omega) (by omega) (by omega)]; exact c1.2) (by rw [hix]; exact hk) f3
      · rw [hj87 _ y q7, if_neg (p_nneg (by omega)), qx_kindOf (by omega) q2, Option.bind_some, nI_add]
        split
        · rfl
        · rfl
  · obtain ⟨s, s1, s2, s3, s4⟩ := (rcp_of a4 hCo hc a2 hl).2 hk
    have ha : sA c s + 3 < 302 := sA_lt (by omega) (by omega) (by omega)
    refine ⟨s, 0, σ, τ, s1, ?_, ?_, fun y => ?_, hh, Or.inl ⟨hk, s2⟩, fun _ => rfl, fun _ _ => rfl, fun _ _ _ _ => rfl, fun _ _ _ _ => rfl⟩
    · rw [s4, oI_some, if_pos (nI_pos' (by omega))]
      unfold fX9_misses_j48
      rw [if_pos (nI_pos' (by omega))]
      rfl
    · unfold fX4_fetch_j69
      rw [qx_kindOf (by omega) hl, Option.bind_some, if_neg hk]
      exact fillT_some hl h12 hk
    · unfold fX4_costOf_j87
      rw [qx_kindOf (by omega) hl, Option.bind_some, if_neg hk]
      rfl
