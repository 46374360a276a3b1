/-! a request is served, in both -/
theorem mInv_rows {n S R P U D : Nat} {E : Nat → Prop} {X : Nat → Nat → Prop} {σ τ τ' : zSt} (h : mInv n S R P U D E X σ τ) (he : ∀ i, i ≠ 7 → i ≠ 8 → i ≠ 9 → i ≠ 10 → i ≠ 18 → i ≠ 21 → i ≠ 22 → i ≠ 23 → i ≠ 24 → i ≠ 25 → τ' i = τ i) : mInv n S R P U D E X σ τ' := by
  have r : ∀ i, (i < 7 ∨ (10 < i ∧ i < 18) ∨ i = 19 ∨ i = 20 ∨ i = 26) → τ' i = τ i := fun i hi => he i (by omega) (by omega) (by omega) (by omega) (by omega) (by omega) (by omega) (by omega) (by omega) (by omega)
  have r0 := r 0 (by omega)
  have r1 := r 1 (by omega)
  have r2 := r 2 (by omega)
  have r3 := r 3 (by omega)
  have r4 := r 4 (by omega)
  have r5 := r 5 (by omega)
  have r6 := r 6 (by omega)
  have r11 := r 11 (by omega)
  have r12 := r 12 (by omega)
  have r13 := r 13 (by omega)
  have r14 := r 14 (by omega)
  have r15 := r 15 (by omega)
  have r16 := r 16 (by omega)
  have r17 := r 17 (by omega)
  have r19 := r 19 (by omega)
  have r20 := r 20 (by omega)
  have r26 := r 26 (by omega)
  unfold mInv mScal mNum mMem mMark mKind mOne mCop mPage mNo ownN kdF at *
  rw [r0, r1, r2, r3, r4, r5, r6, r11, r12, r13, r14, r15, r16, r17, r19, r20, r26]
  exact h
theorem mPage_U {P U U' D : Nat} {E : Nat → Prop} {σ τ : zSt} (h : mPage P U D E σ τ) (hU : U ≤ U') : mPage P U' D E σ τ := by
  obtain ⟨a, b, c, d, e, f, g, i, j⟩ := h
  exact ⟨a, b, c, d, e, fun p l hp hl hq hE => by
    obtain ⟨x, x1, x2⟩ := f p l hp hl hq hE
    exact ⟨x, by omega, x2⟩, g, i, j⟩
/-- the class's way behind the fetching -/
theorem qx_j66 {τ : zSt} {c l U C m : Nat} {w wv : Int32} (hc : c < 6) (hl : l < 32) (hw : w = nI 0 ∨ w = nI 1) (h8 : w ≠ 0 → τ 8 c = wv) (h11 : τ 11 0 = nI U) (h18 : τ 18 0 = nI C) (hC : C ≤ 12) :
    ∃ τ', fX4_serve_j66 (nI c) (nI l) w (nI m) τ = some τ' ∧ τ' 2 = (if w = 0 then τ 2 else upd (τ 2) (c * 32 + l) (nI 2)) ∧ τ' 3 = (if w = 0 then τ 3 else upd (τ 3) (c * 32 + l) wv) ∧ τ' 1 = (if w = 0 then τ 1 else upd (τ 1) l wv) ∧ τ' 5 = upd (τ 5) (c * 32 + l) (nI (U + 1)) ∧ τ' 11 0 = nI (U + 1) ∧ τ' 7 = upd (τ 7) c (-1) ∧
      τ' 18 0 = nI (if C < 12 then C + 1 else C) ∧ (τ' 10 0 = nI c ∧ τ' 10 1 = nI l ∧ τ' 10 2 = w ∧ τ' 10 3 = τ' 3 (c * 32 + l) ∧ τ' 10 4 = nI m ∧ τ' 10 5 = τ 21 0) ∧ (∀ k, 6 ≤ k → k < 72 → τ' 10 k = τ 10 (k - 6)) ∧ ∀ i, i ≠ 1 → i ≠ 2 → i ≠ 3 → i ≠ 5 → i ≠ 7 → i ≠ 10 → i ≠ 11 → i ≠ 18 → τ' i = τ i := by
  have J104 : ∀ ρ : zSt, ρ 11 0 = nI U → ρ 18 0 = nI C → ∃ τ', fX4_serve_j104 (nI c) (nI l) w (nI m) ρ = some τ' ∧ τ' 5 = upd (ρ 5) (c * 32 + l) (nI (U + 1)) ∧ τ' 11 0 = nI (U + 1) ∧ τ' 7 = upd (ρ 7) c (-1) ∧ τ' 18 0 = nI (if C < 12 then C + 1 else C) ∧ (τ' 10 0 = nI c ∧ τ' 10 1 = nI l ∧ τ' 10 2 = w ∧ τ' 10 3 = ρ 3 (c * 32 + l) ∧ τ' 10 4 = nI m ∧ τ' 10 5 = ρ 21 0) ∧ (∀ k, 6 ≤ k → k < 72 → τ' 10 k = ρ 10 (k - 6)) ∧ ∀ i, i ≠ 5 → i ≠ 7 → i ≠ 10 → i ≠ 11 → i ≠ 18 → τ' i = ρ i := by
    intro ρ h1 h2
    unfold fX4_serve_j104 fX0_use
    rw [h1, p_ws, Option.bind_some, nI_add, p_mul, nI_add, ws_e, p_wr (by omega) (by omega), Option.bind_some, Option.bind_some]
    generalize hκ : wr (ws ρ 11 (nI (U + 1))) 5 (c * 32 + l) (nI (U + 1)) = κ
    have k5 : κ 5 = upd (ρ 5) (c * 32 + l) (nI (U + 1)) := by
      rw [← hκ]
      show z_up _ 5 _ 5 = _
      rw [p_ze, ws_o (by omega)]
    have k11 : κ 11 0 = nI (U + 1) := by rw [← hκ, wr_o (by omega), ws_e]
    have ko : ∀ i, i ≠ 5 → i ≠ 11 → κ i = ρ i := fun i e1 e2 => by rw [← hκ, wr_o e1, ws_o e2]
    have J129 : ∀ x0 : Int32, x0 = w → ∃ τ', fX4_serve_j129 (nI c) (nI l) (nI m) x0 (nI l) (nI c) κ = some τ' ∧ τ' 5 = upd (ρ 5) (c * 32 + l) (nI (U + 1)) ∧ τ' 11 0 = nI (U + 1) ∧ τ' 7 = upd (ρ 7) c (-1) ∧ τ' 18 0 = nI (if C < 12 then C + 1 else C) ∧ (τ' 10 0 = nI c ∧ τ' 10 1 = nI l ∧ τ' 10 2 = w ∧ τ' 10 3 = ρ 3 (c * 32 + l) ∧ τ' 10 4 = nI m ∧ τ' 10 5 = ρ 21 0) ∧ (∀ k, 6 ≤ k → k < 72 → τ' 10 k = ρ 10 (k - 6)) ∧ ∀ i, i ≠ 5 → i ≠ 7 → i ≠ 10 → i ≠ 11 → i ≠ 18 → τ' i = ρ i := by
      intro x0 hx0
      unfold fX4_serve_j129 fX7_forget
      obtain ⟨τ1, g1, g2, g3, g4, g5⟩ := qx_add (τ := κ) (nI c) (nI l) x0 (κ 3 (c * 32 + l)) (nI m) (κ 21 0) (by rw [ko 18 (by omega) (by omega)]; exact h2) hC
      rw [qx_valueOf hc hl, Option.bind_some, g1, Option.bind_some, p_wr hc (by omega), Option.bind_some, Option.bind_some]
      refine ⟨_, rfl, ?_, ?_, ?_, ?_, ?_, fun k e1 e2 => ?_, fun i e1 e2 e3 e4 e5 => ?_⟩
      · rw [wr_o (by omega), g2 5 (by omega) (by omega), k5]
      · rw [wr_o (by omega), g2 11 (by omega) (by omega), k11]
      · show z_up _ 7 _ 7 = _
        rw [p_ze, g2 7 (by omega) (by omega), ko 7 (by omega) (by omega)]
      · rw [wr_o (by omega), g3]
      · rw [wr_o (by omega)]
        rw [ko 3 (by omega) (by omega), ko 21 (by omega) (by omega), hx0] at g4
        exact g4
      · rw [wr_o (by omega), g5 k e1 e2, ko 10 (by omega) (by omega)]
      · rw [wr_o e2, g2 i e3 e5, ko i e1 e4]
    rcases hw with hw | hw
    · rw [if_pos (by rw [hw]; exact nI_0)]
      exact J129 _ hw.symm
    · rw [if_neg (by rw [hw]; decide)]
      exact J129 _ hw.symm
  unfold fX4_serve_j66
  by_cases hw0 : w = 0
  · rw [if_pos hw0, if_pos hw0, if_pos hw0, if_pos hw0]
    obtain ⟨τ', u1, u2, u3, u4, u5, u6, u7, u8⟩ := J104 τ h11 h18
    refine ⟨τ', u1, u8 2 (by omega) (by omega) (by omega) (by omega) (by omega), u8 3 (by omega) (by omega) (by omega) (by omega) (by omega), u8 1 (by omega) (by omega) (by omega) (by omega) (by omega), u2, u3, u4, u5, ?_, u7, fun i e1 e2 e3 e4 e5 e6 e7 e8 => u8 i e4 e5 e6 e7 e8⟩
    rw [u8 3 (by omega) (by omega) (by omega) (by omega) (by omega)]
    exact u6
  · rw [if_neg hw0, if_neg hw0, if_neg hw0, if_neg hw0, p_ag hc (by omega), Option.bind_some, h8 hw0]
    unfold fX0_own
    rw [p_mul, nI_add, p_wr (by omega) (by omega), Option.bind_some, p_wr (by omega) (by omega), Option.bind_some, Option.bind_some, p_ag hc (by omega), Option.bind_some, wr_o (by omega), wr_o (by omega), h8 hw0, p_wr hl (by omega), Option.bind_some]
    generalize hκ : wr (wr (wr τ 2 (c * 32 + l) (nI 2)) 3 (c * 32 + l) wv) 1 l wv = κ
    have k2 : κ 2 = upd (τ 2) (c * 32 + l) (nI 2) := by
      rw [← hκ, wr_o (by omega), wr_o (by omega)]
      exact p_ze _ _ _
    have k3 : κ 3 = upd (τ 3) (c * 32 + l) wv := by
      rw [← hκ, wr_o (by omega)]
      show z_up _ 3 _ 3 = _
      rw [p_ze, wr_o (by omega)]
    have k1 : κ 1 = upd (τ 1) l wv := by
      rw [← hκ]
      show z_up _ 1 _ 1 = _
      rw [p_ze, wr_o (by omega), wr_o (by omega)]
    have ko : ∀ i, i ≠ 1 → i ≠ 2 → i ≠ 3 → κ i = τ i := fun i e1 e2 e3 => by rw [← hκ, wr_o e1, wr_o e3, wr_o e2]
    obtain ⟨τ', u1, u2, u3, u4, u5, u6, u7, u8⟩ := J104 κ (by rw [ko 11 (by omega) (by omega) (by omega)]; exact h11) (by rw [ko 18 (by omega) (by omega) (by omega)]; exact h18)
    have t3 := u8 3 (by omega) (by omega) (by omega) (by omega) (by omega)
    refine ⟨τ', u1, by rw [u8 2 (by omega) (by omega) (by omega) (by omega) (by omega), k2], by rw [t3, k3], by rw [u8 1 (by omega) (by omega) (by omega) (by omega) (by omega), k1], by rw [u2, ko 5 (by omega) (by omega) (by omega)], u3, by rw [u4, ko 7 (by omega) (by omega) (by omega)], u5, ?_, fun k e1 e2 => by rw [u7 k e1 e2, ko 10 (by omega) (by omega) (by omega)], fun i e1 e2 e3 e4 e5 e6 e7 e8 => by rw [u8 i e4 e5 e6 e7 e8, ko i e1 e2 e3]⟩
    rw [t3]
    rw [ko 21 (by omega) (by omega) (by omega)] at u6
    exact u6
theorem wv_neg {wv : Int32} (hv : wv = -1 ∨ ∃ x, x < 1000 ∧ wv = nI x) : wv < 0 ↔ wv = -1 := by
  rcases hv with z | ⟨x, x1, x2⟩
  · rw [z]; exact ⟨fun _ => rfl, fun _ => p_neg⟩
  · rw [x2]; exact ⟨fun z => absurd z (nI_pos (by omega)), fun z => absurd z (p_nneg (by omega))⟩
def wB (wv : Int32) : Int32 := if wv = -1 then nI 0 else nI 1
theorem wB_0 {wv : Int32} : wB wv = 0 ↔ wv = -1 := by
  unfold wB
  by_cases h : wv = -1
  · rw [if_pos h]; exact ⟨fun _ => h, fun _ => nI_0⟩
  · rw [if_neg h]; exact ⟨fun z => absurd z (by decide), fun z => absurd z h⟩
theorem wB_or (wv : Int32) : wB wv = nI 0 ∨ wB wv = nI 1 := by
  unfold wB
  by_cases h : wv = -1
  · rw [if_pos h]; exact Or.inl rfl
  · rw [if_neg h]; exact Or.inr rfl
/-- the log's entries alike -/
theorem mLog_add {C : Nat} {σ τ σ' τ' : zSt} (hC : C ≤ 12) (hk : ∀ k, k < 6 * C → σ 0 (384 + k) = τ 10 k) (h12 : σ' 0 12 = nI (if C < 12 then C + 1 else C)) (h18 : τ' 18 0 = nI (if C < 12 then C + 1 else C)) (h0 : ∀ k, k < 6 → σ' 0 (384 + k) = τ' 10 k) (s : ∀ k, 6 ≤ k → k < 72 → σ' 0 (384 + k) = σ 0 (384 + (k - 6))) (t : ∀ k, 6 ≤ k → k < 72 → τ' 10 k = τ 10 (k - 6)) : mLog σ' τ' := by
  refine ⟨if C < 12 then C + 1 else C, by split <;> omega, h12, h18, fun k hk2 => ?_⟩
  have hb : k < 6 * C + 6 ∧ k < 72 := by
    split at hk2 <;> omega
  by_cases e : k < 6
  · exact h0 k e
  · rw [s k (by omega) (by omega), t k (by omega) (by omega), hk (k - 6) (by omega)]
