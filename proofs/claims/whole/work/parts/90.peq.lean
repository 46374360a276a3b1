/-! machines that agree where they are read; rows that are copied -/
def gR : Nat → Nat
  | 0 => 32
  | 1 => 32
  | 2 => 192
  | 3 => 192
  | 4 => 192
  | 5 => 192
  | 6 => 32
  | 7 => 6
  | 8 => 6
  | 9 => 6
  | 10 => 72
  | _ => 1
theorem gR_1 : ∀ i, i < 27 → 11 ≤ i → gR i = 1 := by decide
def gEq (τ τ' : zSt) : Prop := ∀ i, i < 27 → ∀ k, k < gR i → τ' i k = τ i k
theorem gEq_trans {a b c : zSt} (h : gEq a b) (g : gEq b c) : gEq a c := fun i hi k hk => (g i hi k hk).trans (h i hi k hk)
theorem gEq_rfl {a : zSt} : gEq a a := fun _ _ _ _ => rfl
theorem mCop_g {n S U : Nat} {X : Nat → Nat → Prop} {σ τ σ' τ' : zSt} (hn : n ≤ 6) (hS : S ≤ 8) (h : mCop n S U X σ τ) (h1 : ∀ k, k < 456 → σ' 0 k = σ 0 k) (t2 : ∀ c l, c < 6 → l < 32 → τ' 2 (c * 32 + l) = τ 2 (c * 32 + l)) (t3 : ∀ c l, c < 6 → l < 32 → τ' 3 (c * 32 + l) = τ 3 (c * 32 + l)) (t4 : ∀ c l, c < 6 → l < 32 → τ' 4 (c * 32 + l) = τ 4 (c * 32 + l)) (t5 : ∀ c l, c < 6 → l < 32 → τ' 5 (c * 32 + l) = τ 5 (c * 32 + l)) (t11 : τ' 11 0 = τ 11 0) : mCop n S U X σ' τ' := by
  obtain ⟨hA, hB, hC, hD⟩ := h
  unfold mCop
  rw [t11, h1 13 (by omega)]
  have e : ∀ c s k, c < 6 → s < 8 → k < 4 → σ' 0 (sA c s + k) = σ 0 (sA c s + k) := fun c s k hc hs hk => h1 _ (by have := sA_lt hc hs hk; omega)
  refine ⟨fun c l hc hl hk => ?_, fun c s hc hs => ?_, fun c l k hc hl hk z1 z2 x1 x2 z3 => ?_, hD⟩
  · rw [t2 c l hc hl] at hk
    obtain ⟨g1, s, g2, g3, g4, g5⟩ := hA c l hc hl hk
    refine ⟨g1, s, g2, ?_, ?_, ?_⟩
    · rw [t4 c l hc hl]; exact g3
    · rw [show sA c s = sA c s + 0 from rfl, e c s 0 hc (by omega) (by omega)]
      exact g4
    · rw [e c s 1 hc (by omega) (by omega), e c s 2 hc (by omega) (by omega), e c s 3 hc (by omega) (by omega), t2 c l hc hl, t3 c l hc hl, t5 c l hc hl]
      exact g5
  · rw [show sA c s = sA c s + 0 from rfl, e c s 0 (by omega) (by omega) (by omega)]
    rcases hB c s hc hs with g | ⟨l, g1, g2, g3, g4⟩
    · exact Or.inl g
    · refine Or.inr ⟨l, g1, g2, ?_, ?_⟩
      · rw [t2 c l (by omega) g1]; exact g3
      · rw [t4 c l (by omega) g1]; exact g4
  · rw [t2 c l hc hl] at z1
    rw [t2 c k hc hk] at z2
    rw [t5 c l hc hl, t5 c k hc hk] at z3
    exact hC c l k hc hl hk z1 z2 x1 x2 z3
theorem ownN_g {τ τ' : zSt} {l : Nat} (hl : l < 32) (t2 : ∀ c l, c < 6 → l < 32 → τ' 2 (c * 32 + l) = τ 2 (c * 32 + l)) : ownN τ' l = ownN τ l := pF_congr fun x _ hx => by rw [t2 x l (by omega) hl]
theorem shF_g {τ τ' : zSt} {l : Nat} (hl : l < 32) (t2 : ∀ c l, c < 6 → l < 32 → τ' 2 (c * 32 + l) = τ 2 (c * 32 + l)) : shF (kdF τ' l) 6 = shF (kdF τ l) 6 := pG_congr fun x _ hx y => by
  show (if τ' 2 (x * 32 + l) = nI 1 then _ else _) = (if τ 2 (x * 32 + l) = nI 1 then _ else _)
  rw [t2 x l (by omega) hl]
theorem mPage_g {P U D : Nat} {E : Nat → Prop} {σ τ σ' τ' : zSt} (hP : P ≤ 16) (h : mPage P U D E σ τ) (h1 : ∀ k, k < 456 → σ' 0 k = σ 0 k) (t6 : ∀ l, l < 32 → τ' 6 l = τ 6 l) (t12 : τ' 12 0 = τ 12 0) (t2 : ∀ c l, c < 6 → l < 32 → τ' 2 (c * 32 + l) = τ 2 (c * 32 + l)) : mPage P U D E σ' τ' := by
  obtain ⟨a, b, c, d, e, f, g, i, j⟩ := h
  have q : ∀ p k, p < P → k < 4 → σ' 0 (302 + 4 * p + k) = σ 0 (302 + 4 * p + k) := fun p k hp hk => h1 _ (by omega)
  have q0 : ∀ p, p < P → σ' 0 (302 + 4 * p) = σ 0 (302 + 4 * p) := fun p hp => q p 0 hp (by omega)
  unfold mPage
  rw [t12]
  refine ⟨fun l hl => ?_, fun p hp => ?_, fun l hl h0 => ?_, fun p p' hp hp' hq => ?_, fun p l hp hl hq hE => ?_, fun p l hp hl hq hE => ?_, fun p p' l k hp hp' hl hk hq hq' hE hE' => ?_, fun l k hl hk z1 z2 => ?_, j⟩
  · rw [t6 l hl]; exact a l hl
  · rw [q0 p hp]
    obtain ⟨l, g1, g2, g3⟩ := b p hp
    exact ⟨l, g1, g2, by rw [t6 l g1]; exact g3⟩
  · rw [t6 l hl] at h0
    obtain ⟨p, h2, h3⟩ := c l hl h0
    exact ⟨p, h2, by rw [q0 p h2]; exact h3⟩
  · rw [q0 p hp, q0 p' hp'] at hq
    exact d p p' hp hp' hq
  · rw [q0 p hp] at hq
    rw [q p 1 hp (by omega), q p 2 hp (by omega), ownN_g hl t2, shF_g hl t2]
    exact e p l hp hl hq hE
  · rw [q0 p hp] at hq
    rw [q p 3 hp (by omega)]
    exact f p l hp hl hq hE
  · rw [q0 p hp] at hq
    rw [q0 p' hp'] at hq'
    rw [q p 3 hp (by omega), q p' 3 hp' (by omega), t6 l hl, t6 k hk]
    exact g p p' l k hp hp' hl hk hq hq' hE hE'
  · rw [t6 l hl] at z1 z2
    rw [t6 k hk] at z2
    exact i l k hl hk z1 z2
theorem mFull_g {n S R P U D T : Nat} {σ τ σ' τ' : zSt} (h : mFull n S R P U D T σ τ) (hs : ∀ k, k < 456 → σ' 0 k = σ 0 k) (ht : gEq τ τ') : mFull n S R P U D T σ' τ' := by
  have sc : ∀ i, i < 27 → 11 ≤ i → τ' i 0 = τ i 0 := fun i hi h2 => ht i hi 0 (by rw [gR_1 i hi h2]; exact Nat.zero_lt_one)
  have t0 : ∀ l, l < 32 → τ' 0 l = τ 0 l := ht 0 (by omega)
  have t1 : ∀ l, l < 32 → τ' 1 l = τ 1 l := ht 1 (by omega)
  have t2 : ∀ c l, c < 6 → l < 32 → τ' 2 (c * 32 + l) = τ 2 (c * 32 + l) := fun c l hc hl => ht 2 (by omega) _ (show c * 32 + l < 192 by omega)
  have t3 : ∀ c l, c < 6 → l < 32 → τ' 3 (c * 32 + l) = τ 3 (c * 32 + l) := fun c l hc hl => ht 3 (by omega) _ (show c * 32 + l < 192 by omega)
  have t4 : ∀ c l, c < 6 → l < 32 → τ' 4 (c * 32 + l) = τ 4 (c * 32 + l) := fun c l hc hl => ht 4 (by omega) _ (show c * 32 + l < 192 by omega)
  have t5 : ∀ c l, c < 6 → l < 32 → τ' 5 (c * 32 + l) = τ 5 (c * 32 + l) := fun c l hc hl => ht 5 (by omega) _ (show c * 32 + l < 192 by omega)
  have t6 : ∀ l, l < 32 → τ' 6 l = τ 6 l := ht 6 (by omega)
  have t7 : ∀ c, c < 6 → τ' 7 c = τ 7 c := ht 7 (by omega)
  have t8 : ∀ c, c < 6 → τ' 8 c = τ 8 c := ht 8 (by omega)
  have t9 : ∀ c, c < 6 → τ' 9 c = τ 9 c := ht 9 (by omega)
  have t10 : ∀ k, k < 72 → τ' 10 k = τ 10 k := ht 10 (by omega)
  obtain ⟨⟨⟨⟨a1, a2, a3, a4, a5, a6, a7⟩, b1, c1, d1, e1⟩, hNu, hMe, hMa, hKi, hOn, hCo, hPa, hNo⟩, hM, hR, ⟨C, l1, l2, l3, l4⟩, hT⟩ := h
  refine ⟨⟨⟨⟨a1, a2, a3, a4, a5, a6, a7⟩, ?_, ?_, ?_, ?_⟩, ⟨?_, ?_, ?_⟩, fun l hl => ?_, fun l hl => ?_, fun c l hc hl => ?_, fun c d l hc hd hl z1 z2 => ?_, ?_, ?_, fun l hl z1 z2 c hc => ?_⟩, ⟨?_, ?_, ?_, ?_⟩, fun c hc => ?_, ⟨C, l1, ?_, ?_, fun k hk => ?_⟩, ?_, ?_, hT.2.2⟩
  · rw [hs 0 (by omega), sc 19 (by omega) (by omega)]; exact b1
  · rw [hs 1 (by omega), sc 20 (by omega) (by omega)]; exact c1
  · rw [hs 2 (by omega), sc 14 (by omega) (by omega)]; exact d1
  · rw [hs 3 (by omega), sc 15 (by omega) (by omega)]; exact e1
  · rw [hs 9 (by omega), sc 16 (by omega) (by omega)]; exact hNu.1
  · rw [hs 10 (by omega), sc 17 (by omega) (by omega)]; exact hNu.2.1
  · rw [hs 11 (by omega), sc 26 (by omega) (by omega)]; exact hNu.2.2
  · rw [hs (14 + l) (by omega), hs (46 + l) (by omega), t0 l hl, t1 l hl]; exact hMe l hl
  · rw [hs (78 + l) (by omega), sc 13 (by omega) (by omega)]; exact hMa l hl
  · rw [t2 c l hc hl]; exact hKi c l hc hl
  · rw [t2 c l hc hl] at z1
    rw [t2 d l hd hl] at z2
    exact hOn c d l hc hd hl z1 z2
  · exact mCop_g a2 a4 hCo hs t2 t3 t4 t5 (sc 11 (by omega) (by omega))
  · exact mPage_g (by omega) hPa hs t6 (sc 12 (by omega) (by omega)) t2
  · rw [t6 l hl] at z1
    rw [sc 13 (by omega) (by omega)] at z2
    rw [t2 c l hc hl]
    exact hNo l hl z1 z2 c hc
  · rw [hs 5 (by omega), sc 22 (by omega) (by omega)]; exact hM.1
  · rw [hs 6 (by omega), sc 23 (by omega) (by omega)]; exact hM.2.1
  · rw [hs 7 (by omega), sc 24 (by omega) (by omega)]; exact hM.2.2.1
  · rw [hs 8 (by omega), sc 25 (by omega) (by omega)]; exact hM.2.2.2
  · rw [hs (366 + 3 * c) (by omega), hs (366 + 3 * c + 1) (by omega), hs (366 + 3 * c + 2) (by omega), t7 c hc, t8 c hc, t9 c hc]
    exact hR c hc
  · rw [hs 12 (by omega)]; exact l2
  · rw [sc 18 (by omega) (by omega)]; exact l3
  · rw [hs (384 + k) (by omega), t10 k (by omega)]; exact l4 k hk
  · rw [hs 4 (by omega)]; exact hT.1
  · rw [sc 21 (by omega) (by omega)]; exact hT.2.1
theorem va_cpy0 {f g : Nat → Int32} {n k : Nat} (h : k < n) : va_cpy f g 0 0 n k = f k := by
  unfold va_cpy
  rw [if_pos ⟨Nat.zero_le _, by omega⟩, Nat.zero_add, Nat.sub_zero]
theorem qx_takeOver (τ σ : zSt) : ∃ σ', fX4_takeOver τ σ = some σ' ∧ gEq τ σ' := by
  refine ⟨_, rfl, fun i hi k hk => ?_⟩
  match i, hi with
  | 0, _ => exact (show va_cpy (τ 0) (σ 0) 0 0 32 k = τ 0 k from va_cpy0 hk)
  | 1, _ => exact (show va_cpy (τ 1) (σ 1) 0 0 32 k = τ 1 k from va_cpy0 hk)
  | 2, _ => exact (show va_cpy (τ 2) (σ 2) 0 0 192 k = τ 2 k from va_cpy0 hk)
  | 3, _ => exact (show va_cpy (τ 3) (σ 3) 0 0 192 k = τ 3 k from va_cpy0 hk)
  | 4, _ => exact (show va_cpy (τ 4) (σ 4) 0 0 192 k = τ 4 k from va_cpy0 hk)
  | 5, _ => exact (show va_cpy (τ 5) (σ 5) 0 0 192 k = τ 5 k from va_cpy0 hk)
  | 6, _ => exact (show va_cpy (τ 6) (σ 6) 0 0 32 k = τ 6 k from va_cpy0 hk)
  | 7, _ => exact (show va_cpy (τ 7) (σ 7) 0 0 6 k = τ 7 k from va_cpy0 hk)
  | 8, _ => exact (show va_cpy (τ 8) (σ 8) 0 0 6 k = τ 8 k from va_cpy0 hk)
  | 9, _ => exact (show va_cpy (τ 9) (σ 9) 0 0 6 k = τ 9 k from va_cpy0 hk)
  | 10, _ => exact (show va_cpy (τ 10) (σ 10) 0 0 72 k = τ 10 k from va_cpy0 hk)
  | i + 11, hi =>
    rw [gR_1 _ hi (by omega)] at hk
    obtain rfl : k = 0 := by omega
    rcases (show i = 0 ∨ i = 1 ∨ i = 2 ∨ i = 3 ∨ i = 4 ∨ i = 5 ∨ i = 6 ∨ i = 7 ∨ i = 8 ∨ i = 9 ∨ i = 10 ∨ i = 11 ∨ i = 12 ∨ i = 13 ∨ i = 14 ∨ i = 15 by omega) with rfl | rfl | rfl | rfl | rfl | rfl | rfl | rfl | rfl | rfl | rfl | rfl | rfl | rfl | rfl | rfl <;> rfl
/-- part of a row is copied, place by place -/
def cpN (i a j b : Nat) : Nat → Nat → zSt → zSt
  | 0, _, σ => σ
  | r + 1, y, σ => cpN i a j b r (y + 1) (wr σ j (b + y) (σ i (a + y)))
theorem cpN_spec {i a j b : Nat} (hab : i ≠ j ∨ b ≤ a) : ∀ (r y : Nat) (σ : zSt), (∀ k, k ≠ j → cpN i a j b r y σ k = σ k) ∧ (∀ t, y ≤ t → t < y + r → cpN i a j b r y σ j (b + t) = σ i (a + t)) ∧ ∀ k, (k < b + y ∨ b + y + r ≤ k) → cpN i a j b r y σ j k = σ j k := by
  intro r
  induction r with
  | zero => exact fun y σ => ⟨fun _ _ => rfl, fun t h1 h2 => by omega, fun _ _ => rfl⟩
  | succ r ih =>
    intro y σ
    obtain ⟨g1, g2, g3⟩ := ih (y + 1) (wr σ j (b + y) (σ i (a + y)))
    refine ⟨fun k hk => ?_, fun t h1 h2 => ?_, fun k hk => ?_⟩
    · rw [cpN, g1 k hk, wr_o hk]
    · rw [cpN]
      by_cases e : t = y
      · rw [g3 (b + t) (by omega), e, wr_e]
      · rw [g2 t (by omega) (by omega)]
        by_cases ij : i = j
        · rw [ij, wr_n (by omega)]
        · rw [wr_o ij]
    · rw [cpN, g3 k (by omega), wr_n (by omega)]
