/-! a page is torn out, in both -/
theorem own_none {τ : zSt} {l : Nat} : oI (ownN τ l) < 0 ↔ ∀ c, c < 6 → τ 2 (c * 32 + l) ≠ nI 2 := by
  unfold ownN
  cases h : pF (fun c => τ 2 (c * 32 + l) = nI 2) 6 0 with
  | none => exact ⟨fun _ c hc => pF_none.mp h c (by omega) (by omega), fun _ => p_neg⟩
  | some c =>
    obtain ⟨h1, h2, h3, -⟩ := pF_some h
    exact ⟨fun z => absurd z (nI_pos (by omega)), fun z => absurd h3 (z c (by omega))⟩
theorem told_iff {τ : zSt} {l : Nat} (hK : mKind τ) (hl : l < 32) : (oI (ownN τ l) < 0 ∧ shF (kdF τ l) 6 = 0) ↔ ∀ c, c < 6 → τ 2 (c * 32 + l) = 0 := by
  rw [own_none, sh_zero]
  refine ⟨fun ⟨h1, h2⟩ c hc => ?_, fun h => ⟨fun c hc => by rw [h c hc]; decide, fun c hc => by show τ 2 (c * 32 + l) ≠ nI 1; rw [h c hc]; decide⟩⟩
  rcases hK c l hc hl with g | g | g
  · exact g
  · exact absurd g (h2 c hc)
  · exact absurd g (h1 c hc)
theorem mPage_tear {P U D p l : Nat} {E : Nat → Prop} {σ τ σ' τ' : zSt} (hP : P < 16) (h : mPage (P + 1) U D E σ τ) (hl : l < 32) (hp : p ≤ P) (h0 : σ 0 (302 + 4 * p) = nI l)
    (g1 : ∀ j, j < 4 → σ' 0 (302 + 4 * p + j) = σ 0 (302 + 4 * P + j)) (g2 : ∀ k, 302 ≤ k → (k < 302 + 4 * p ∨ 302 + 4 * p + 4 ≤ k) → k < 366 → σ' 0 k = σ 0 k) (t6 : τ' 6 = upd (τ 6) l (nI 0)) (t12 : τ' 12 = τ 12) (t2 : τ' 2 = τ 2) : mPage P U D E σ' τ' := by
  obtain ⟨a, b, c, d, e, f, g, i, j⟩ := h
  -- the old place of what stands at q now
  have ho : ∀ q, q < P → ∃ q0, q0 < P + 1 ∧ q0 ≠ p ∧ (q0 = q ∨ (q = p ∧ q0 = P)) ∧ ∀ j, j < 4 → σ' 0 (302 + 4 * q + j) = σ 0 (302 + 4 * q0 + j) := by
    intro q hq
    by_cases e : q = p
    · exact ⟨P, by omega, by omega, Or.inr ⟨e, rfl⟩, by rw [e]; exact g1⟩
    · exact ⟨q, by omega, e, Or.inl rfl, fun j hj => g2 _ (by omega) (by omega) (by omega)⟩
  have hl6 : ∀ q k, q < P + 1 → q ≠ p → σ 0 (302 + 4 * q) = nI k → k < 32 → k ≠ l := by
    intro q k hq hqp hk hk2 e
    rw [e, ← h0] at hk
    exact hqp (d q p hq (by omega) hk)
  have t6n : ∀ k, k ≠ l → τ' 6 k = τ 6 k := fun k hk => by rw [t6, p_upn hk]
  have t6l : τ' 6 l = 0 := by rw [t6, p_upe]; exact nI_0
  have own_e : ∀ k, ownN τ' k = ownN τ k := fun k => by unfold ownN; rw [t2]
  have sh_e : ∀ k, shF (kdF τ' k) 6 = shF (kdF τ k) 6 := fun k => by unfold kdF; rw [t2]
  refine ⟨fun k hk => ?_, fun q hq => ?_, fun k hk h6 => ?_, fun q r hq hr hqr => ?_, fun q k hq hk hqk hE => ?_, fun q k hq hk hqk hE => ?_, fun q r k m hq hr hk hm hqk hrm hE hE' => ?_, fun k m hk hm h6 hkm => ?_, by rw [t12]; exact j⟩
  · by_cases ek : k = l
    · rw [ek]; exact Or.inl t6l
    · rw [t6n k ek]; exact a k hk
  · obtain ⟨q0, o1, o2, -, o4⟩ := ho q hq
    obtain ⟨k, k1, k2, k3⟩ := b q0 o1
    refine ⟨k, k1, ?_, ?_⟩
    · have := o4 0 (by omega)
      rw [Nat.add_zero, Nat.add_zero] at this
      rw [this]; exact k2
    · rw [t6n k (hl6 q0 k o1 o2 k2 k1)]; exact k3
  · have ek : k ≠ l := fun ek => h6 (by rw [ek]; exact t6l)
    rw [t6n k ek] at h6
    obtain ⟨q, q1, q2⟩ := c k hk h6
    have hqp : q ≠ p := fun e => by
      rw [e, h0] at q2
      exact ek ((nI_eq (by omega) (by omega)).mp q2).symm
    by_cases eq : q = P
    · refine ⟨p, by omega, ?_⟩
      have := g1 0 (by omega)
      rw [Nat.add_zero, Nat.add_zero] at this
      rw [this, ← eq]; exact q2
    · refine ⟨q, by omega, ?_⟩
      rw [g2 _ (by omega) (by omega) (by omega)]; exact q2
  · obtain ⟨q0, o1, o2, o3, o4⟩ := ho q hq
    obtain ⟨r0, u1, u2, u3, u4⟩ := ho r hr
    have e1 := o4 0 (by omega)
    have e2 := u4 0 (by omega)
    rw [Nat.add_zero, Nat.add_zero] at e1 e2
    rw [e1, e2] at hqr
    have := d q0 r0 o1 u1 hqr
    omega
  · obtain ⟨q0, o1, o2, o3, o4⟩ := ho q hq
    have e1 := o4 0 (by omega)
    rw [Nat.add_zero, Nat.add_zero] at e1
    rw [o4 1 (by omega), o4 2 (by omega), own_e, sh_e]
    exact e q0 k o1 hk (by rw [← e1]; exact hqk) hE
  · obtain ⟨q0, o1, o2, o3, o4⟩ := ho q hq
    have e1 := o4 0 (by omega)
    rw [Nat.add_zero, Nat.add_zero] at e1
    rw [o4 3 (by omega)]
    exact f q0 k o1 hk (by rw [← e1]; exact hqk) hE
  · obtain ⟨q0, o1, o2, o3, o4⟩ := ho q hq
    obtain ⟨r0, u1, u2, u3, u4⟩ := ho r hr
    have e1 := o4 0 (by omega)
    have e2 := u4 0 (by omega)
    rw [Nat.add_zero, Nat.add_zero] at e1 e2
    rw [e1] at hqk
    rw [e2] at hrm
    rw [o4 3 (by omega), u4 3 (by omega), t6n k (hl6 q0 k o1 o2 hqk hk), t6n m (hl6 r0 m u1 u2 hrm hm)]
    exact g q0 r0 k m o1 u1 hk hm hqk hrm hE hE'
  · have ek : k ≠ l := fun ek => h6 (by rw [ek]; exact t6l)
    by_cases em : m = l
    · rw [em, t6l] at hkm
      exact absurd hkm h6
    · rw [t6n k ek] at h6 hkm
      rw [t6n m em] at hkm
      exact i k m hk hm h6 hkm
theorem rl_tear {n S R P U D l : Nat} {E : Nat → Prop} {σ τ : zSt} (h : mInv n S R (P + 1) U D E noX σ τ) (hl : l < 32) (h6 : τ 6 l ≠ 0) (hE : ¬ E l) (b : Int32) (hb : b = 0 ↔ ∀ c, c < 6 → τ 2 (c * 32 + l) = 0) :
    ∃ p σ' τ', p ≤ P ∧ rpg σ (P + 1) (nI l) = some (302 + 4 * p) ∧ σ 0 (302 + 4 * p) = nI l ∧ fX9_tearOut (nI (302 + 4 * p)) σ = some σ' ∧ fX1_tearOut (nI l) b τ = some τ' ∧ mInv n S R P U D E noX σ' τ' ∧ (∀ i, i ≠ 0 → σ' i = σ i) ∧ (∀ k, k ≠ 3 → k ≠ 10 → (k < 78 ∨ 110 ≤ k) → (k < 302 ∨ 366 ≤ k) → σ' 0 k = σ 0 k) ∧ τ' 6 = upd (τ 6) l (nI 0) ∧ ∀ i, i ≠ 6 → i ≠ 15 → i ≠ 17 → i ≠ 13 → τ' i = τ i := by
  obtain ⟨hSc, hNu, hMe, hMa, hKi, hOn, hCo, hPa, hNo⟩ := h
  obtain ⟨⟨a1, a2, a3, a4, a5, a6, a7⟩, b1, c1, d1, e1⟩ := id hSc
  obtain ⟨p, p1, p2, p3⟩ := (rpg_of hPa hl).2 h6
  have htr := hPa.2.2.2.2.1 p l p1 hl p2 hE
  obtain ⟨σ', s1, s2, s3, s4, s5, s6, s7⟩ := qr_tearOut (σ := σ) (P := P) (p := p) (by omega) (by omega) e1.1 hl p2
  obtain ⟨τ', t1, t2, t3, t4, t5, t6⟩ := qx_tearOut (τ := τ) (b := b) hl
  have hcond : (σ 0 (302 + 4 * p + 1) < 0 ∧ σ 0 (302 + 4 * p + 2) = 0) ↔ b = 0 := by rw [htr.1, htr.2, told_iff hKi hl, hb]
  have r2 : τ' 2 = τ 2 := t6 2 (by omega) (by omega) (by omega) (by omega)
  refine ⟨p, σ', τ', by omega, p3, p2, s1, t1, ⟨?_, ?_, ?_, ?_, ?_, ?_, ?_, ?_, ?_⟩, s2, fun k k1 k2 k3 k4 => s7 k k1 k2 (by omega) (by omega), t2, t6⟩
  · refine ⟨⟨a1, a2, a3, a4, a5, a6, by omega⟩, ?_, ?_, ?_, s4, ?_⟩
    · rw [s7 0 (by omega) (by omega) (by omega) (by omega), t6 19 (by omega) (by omega) (by omega) (by omega)]; exact b1
    · rw [s7 1 (by omega) (by omega) (by omega) (by omega), t6 20 (by omega) (by omega) (by omega) (by omega)]; exact c1
    · rw [s7 2 (by omega) (by omega) (by omega) (by omega), t6 14 (by omega) (by omega) (by omega) (by omega)]; exact d1
    · rw [t3, e1.2, p_sub (by omega), Nat.add_sub_cancel]
  · refine ⟨?_, ?_, ?_⟩
    · rw [s7 9 (by omega) (by omega) (by omega) (by omega), t6 16 (by omega) (by omega) (by omega) (by omega)]; exact hNu.1
    · rw [s5, t4, hNu.2.1]
    · rw [s7 11 (by omega) (by omega) (by omega) (by omega), t6 26 (by omega) (by omega) (by omega) (by omega)]; exact hNu.2.2
  · intro k hk
    rw [s7 (14 + k) (by omega) (by omega) (by omega) (by omega), s7 (46 + k) (by omega) (by omega) (by omega) (by omega), t6 0 (by omega) (by omega) (by omega) (by omega), t6 1 (by omega) (by omega) (by omega) (by omega)]
    exact hMe k hk
  · intro k hk
    rw [t5]
    by_cases ek : k = l
    · rw [ek, s6]
      by_cases hc : b = 0
      · rw [if_pos (hcond.mpr hc), if_pos hc]
        exact hMa l hl
      · rw [if_neg (fun z => hc (hcond.mp z)), if_neg hc, b_set _ hl hl, decide_eq_true rfl, Bool.or_true, if_pos rfl]
    · rw [s7 (78 + k) (by omega) (by omega) (by omega) (by omega), hMa k hk]
      by_cases hc : b = 0
      · rw [if_pos hc]
      · rw [if_neg hc, b_set _ hl hk, decide_eq_false ek, Bool.or_false]
  · intro c k hc hk
    rw [r2]; exact hKi c k hc hk
  · intro c d k hc hd hk
    rw [r2]; exact hOn c d k hc hd hk
  · exact mCop_same a2 a4 hCo (fun k k1 k2 => s7 k (by omega) (by omega) (by omega) (by omega)) (s7 13 (by omega) (by omega) (by omega) (by omega)) r2 (t6 3 (by omega) (by omega) (by omega) (by omega)) (t6 4 (by omega) (by omega) (by omega) (by omega)) (t6 5 (by omega) (by omega) (by omega) (by omega)) (t6 11 (by omega) (by omega) (by omega) (by omega))
  · exact mPage_tear (by omega) hPa hl (by omega) p2 s3 (fun k k1 k2 k3 => s7 k (by omega) (by omega) (by omega) k2) t2 (t6 12 (by omega) (by omega) (by omega) (by omega)) r2
  · intro k hk h60 hbit c hc
    rw [r2]
    rw [t5] at hbit
    rw [t2] at h60
    by_cases ek : k = l
    · rw [ek] at hbit ⊢
      by_cases hc0 : b = 0
      · exact hb.mp hc0 c hc
      · rw [if_neg hc0, b_set _ hl hl, decide_eq_true rfl, Bool.or_true] at hbit
        cases hbit
    · rw [p_upn ek] at h60
      refine hNo k hk h60 ?_ c hc
      by_cases hc0 : b = 0
      · rw [if_pos hc0] at hbit; exact hbit
      · rw [if_neg hc0, b_set _ hl hk, decide_eq_false ek, Bool.or_false] at hbit; exact hbit
