/-! writes, and what a step leaves alone -/
def w0 (σ : zSt) (k : Nat) (x : Int32) : zSt := z_up σ 0 (upd (σ 0) k x)
theorem w0_e (σ : zSt) (k : Nat) (x : Int32) : w0 σ k x 0 k = x := by unfold w0; rw [p_ze, p_upe]
theorem w0_n {σ : zSt} {k j : Nat} {x : Int32} (h : ¬ j = k) : w0 σ k x 0 j = σ 0 j := by unfold w0; rw [p_ze, p_upn h]
theorem w0_o {σ : zSt} {k i : Nat} {x : Int32} (h : ¬ i = 0) : w0 σ k x i = σ i := by unfold w0; rw [p_zn h]
theorem p_w0 {σ : zSt} {k : Nat} {x : Int32} (hk : k < 456) : z_sg σ 0 456 (nI k) x = some (w0 σ k x) := p_sg hk (by omega)
def wr (τ : zSt) (i k : Nat) (x : Int32) : zSt := z_up τ i (upd (τ i) k x)
theorem wr_e (τ : zSt) (i k : Nat) (x : Int32) : wr τ i k x i k = x := by unfold wr; rw [p_ze, p_upe]
theorem wr_n {τ : zSt} {i k j : Nat} {x : Int32} (h : ¬ j = k) : wr τ i k x i j = τ i j := by unfold wr; rw [p_ze, p_upn h]
theorem wr_o {τ : zSt} {i k j : Nat} {x : Int32} (h : ¬ j = i) : wr τ i k x j = τ j := by unfold wr; rw [p_zn h]
def ws (τ : zSt) (i : Nat) (x : Int32) : zSt := z_up τ i (fun _ => x)
theorem ws_e (τ : zSt) (i k : Nat) (x : Int32) : ws τ i x i k = x := by unfold ws; rw [p_ze]
theorem ws_o {τ : zSt} {i j : Nat} {x : Int32} (h : ¬ j = i) : ws τ i x j = τ j := by unfold ws; rw [p_zn h]
theorem p_ws (τ : zSt) (i : Nat) (x : Int32) : z_sf τ i x = some (ws τ i x) := rfl
theorem p_wr {τ : zSt} {i n k : Nat} {x : Int32} (hk : k < n) (h : n ≤ 2000) : z_sg τ i n (nI k) x = some (wr τ i k x) := p_sg hk h
/-- a part of the reference's row is as it was -/
def rEq (lo hi : Nat) (σ σ' : zSt) : Prop := ∀ k, lo ≤ k → k < hi → σ' 0 k = σ 0 k
theorem mCop_same {n S U : Nat} {X : Nat → Nat → Prop} {σ τ σ' τ' : zSt} (hn : n ≤ 6) (hS : S ≤ 8) (h : mCop n S U X σ τ) (h1 : rEq 110 302 σ σ') (h2 : σ' 0 13 = σ 0 13) (t2 : τ' 2 = τ 2) (t3 : τ' 3 = τ 3) (t4 : τ' 4 = τ 4) (t5 : τ' 5 = τ 5) (t11 : τ' 11 = τ 11) : mCop n S U X σ' τ' := by
  obtain ⟨hA, hB, hC, hD⟩ := h
  unfold mCop
  rw [t2, t3, t4, t5, t11, h2]
  have e : ∀ c s k, c < 6 → s < 8 → k < 4 → σ' 0 (sA c s + k) = σ 0 (sA c s + k) := fun c s k hc hs hk => h1 _ (by unfold sA; omega) (sA_lt hc hs hk)
  refine ⟨fun c l hc hl hk => ?_, fun c s hc hs => ?_, hC, hD⟩
  · obtain ⟨g1, s, g2, g3, g4, g5⟩ := hA c l hc hl hk
    refine ⟨g1, s, g2, g3, ?_, ?_⟩
    · rw [show sA c s = sA c s + 0 from rfl, e c s 0 hc (by omega) (by omega)]
      exact g4
    · rw [e c s 1 hc (by omega) (by omega), e c s 2 hc (by omega) (by omega), e c s 3 hc (by omega) (by omega)]
      exact g5
  · rw [show sA c s = sA c s + 0 from rfl, e c s 0 (by omega) (by omega) (by omega)]
    exact hB c s hc hs
theorem mPage_same {P U D : Nat} {E : Nat → Prop} {σ τ σ' τ' : zSt} (hP : P ≤ 16) (h : mPage P U D E σ τ) (h1 : rEq 302 366 σ σ') (t6 : τ' 6 = τ 6) (t12 : τ' 12 = τ 12) (t2 : ∀ l, l < 32 → ¬ E l → ∀ c, c < 6 → τ' 2 (c * 32 + l) = τ 2 (c * 32 + l)) : mPage P U D E σ' τ' := by
  obtain ⟨a, b, c, d, e, f, g, i, j⟩ := h
  have q : ∀ p k, p < P → k < 4 → σ' 0 (302 + 4 * p + k) = σ 0 (302 + 4 * p + k) := fun p k hp hk => h1 _ (by omega) (by omega)
  have q0 : ∀ p, p < P → σ' 0 (302 + 4 * p) = σ 0 (302 + 4 * p) := fun p hp => q p 0 hp (by omega)
  unfold mPage
  rw [t6, t12]
  refine ⟨a, fun p hp => ?_, fun l hl h0 => ?_, fun p p' hp hp' hq => ?_, fun p l hp hl hq hE => ?_, fun p l hp hl hq hE => ?_, fun p p' l k hp hp' hl hk hq hq' hE hE' => ?_, i, j⟩
  · rw [q0 p hp]; exact b p hp
  · obtain ⟨p, h2, h3⟩ := c l hl h0
    exact ⟨p, h2, by rw [q0 p h2]; exact h3⟩
  · rw [q0 p hp, q0 p' hp'] at hq
    exact d p p' hp hp' hq
  · rw [q0 p hp] at hq
    rw [q p 1 hp (by omega), q p 2 hp (by omega)]
    have e1 : ownN τ' l = ownN τ l := pF_congr fun x _ hx => by rw [t2 l hl hE x (by omega)]
    have e2 : shF (kdF τ' l) 6 = shF (kdF τ l) 6 := pG_congr fun x _ hx y => by
      show (if τ' 2 (x * 32 + l) = nI 1 then _ else _) = (if τ 2 (x * 32 + l) = nI 1 then _ else _)
      rw [t2 l hl hE x (by omega)]
    rw [e1, e2]
    exact e p l hp hl hq hE
  · rw [q0 p hp] at hq
    rw [q p 3 hp (by omega)]
    exact f p l hp hl hq hE
  · rw [q0 p hp] at hq
    rw [q0 p' hp'] at hq'
    rw [q p 3 hp (by omega), q p' 3 hp' (by omega)]
    exact g p p' l k hp hp' hl hk hq hq' hE hE'
theorem mPage_E {P U D : Nat} {E E' : Nat → Prop} {σ τ : zSt} (h : mPage P U D E σ τ) (hE : ∀ l, E l → E' l) : mPage P U D E' σ τ := by
  obtain ⟨a, b, c, d, e, f, g, i, j⟩ := h
  exact ⟨a, b, c, d, fun p l hp hl hq h => e p l hp hl hq fun z => h (hE l z), fun p l hp hl hq h => f p l hp hl hq fun z => h (hE l z), fun p q l k hp hq hl hk h1 h2 h3 h4 => g p q l k hp hq hl hk h1 h2 (fun z => h3 (hE l z)) fun z => h4 (hE k z), i, j⟩
theorem mInv_E {n S R P U D : Nat} {E E' : Nat → Prop} {X : Nat → Nat → Prop} {σ τ : zSt} (h : mInv n S R P U D E X σ τ) (hE : ∀ l, E l → E' l) : mInv n S R P U D E' X σ τ := by
  obtain ⟨a, b, c, d, e, f, g, i, j⟩ := h
  exact ⟨a, b, c, d, e, f, g, mPage_E i hE, j⟩
/-- tearing a page: the reference moves its last page into the hole -/
theorem qr_tear_l {σ : zSt} {P p : Nat} (hP : P < 16) (hp : p ≤ P) (h3 : σ 0 3 = nI P) : ∃ σ', fX9_tearOut_l60 (fun σ11 => some σ11) z_fu (nI (302 + 4 * p)) (nI 0) σ = some σ' ∧ (∀ i, i ≠ 0 → σ' i = σ i) ∧ (∀ j, j < 4 → σ' 0 (302 + 4 * p + j) = σ 0 (302 + 4 * P + j)) ∧ ∀ k, (k < 302 + 4 * p ∨ 302 + 4 * p + 4 ≤ k) → σ' 0 k = σ 0 k := by
  have step : ∀ (n y : Nat) (ρ : zSt), y < 4 → ρ 0 3 = nI P → fX9_tearOut_l60 (fun σ11 => some σ11) (n + 1) (nI (302 + 4 * p)) (nI y) ρ = fX9_tearOut_l60 (fun σ11 => some σ11) n (nI (302 + 4 * p)) (nI (y + 1)) (w0 ρ (302 + 4 * p + y) (ρ 0 (302 + 4 * P + y))) := fun n y ρ hy h => by
    rw [fX9_tearOut_l60, if_neg (nI_ge (by omega) (by omega)), p_ag (by omega) (by omega), Option.bind_some, h, p_mul, nI_add, nI_add, p_ag (by omega) (by omega), Option.bind_some, nI_add, p_w0 (by omega), Option.bind_some, nI_add]
  have last : ∀ (n : Nat) (ρ : zSt), fX9_tearOut_l60 (fun σ11 => some σ11) (n + 1) (nI (302 + 4 * p)) (nI 4) ρ = some ρ := fun n ρ => by
    rw [fX9_tearOut_l60, if_pos (nI_le (by omega) (by omega))]
  have e : z_fu = 1995 + 1 + 1 + 1 + 1 + 1 := rfl
  refine ⟨w0 (w0 (w0 (w0 σ (302 + 4 * p + 0) (σ 0 (302 + 4 * P + 0))) (302 + 4 * p + 1) (σ 0 (302 + 4 * P + 1))) (302 + 4 * p + 2) (σ 0 (302 + 4 * P + 2))) (302 + 4 * p + 3) (σ 0 (302 + 4 * P + 3)), ?_, fun i hi => ?_, fun j hj => ?_, fun k hk => ?_⟩
  · rw [e, step _ 0 σ (by omega) h3, step _ 1 _ (by omega) (by rw [w0_n (by omega)]; exact h3), step _ 2 _ (by omega) (by rw [w0_n (by omega), w0_n (by omega)]; exact h3), step _ 3 _ (by omega) (by rw [w0_n (by omega), w0_n (by omega), w0_n (by omega)]; exact h3), last]
    simp (disch := omega) only [w0_n]
  · simp (disch := omega) only [w0_o]
  · rcases (show j = 0 ∨ j = 1 ∨ j = 2 ∨ j = 3 by omega) with rfl | rfl | rfl | rfl <;> simp (disch := omega) only [w0_n, w0_e]
  · simp (disch := omega) only [w0_n]
theorem qr_tearOut {σ : zSt} {P p l : Nat} (hP : P < 16) (hp : p ≤ P) (h3 : σ 0 3 = nI (P + 1)) (hl : l < 32) (h0 : σ 0 (302 + 4 * p) = nI l) : ∃ σ', fX9_tearOut (nI (302 + 4 * p)) σ = some σ' ∧ (∀ i, i ≠ 0 → σ' i = σ i) ∧ (∀ j, j < 4 → σ' 0 (302 + 4 * p + j) = σ 0 (302 + 4 * P + j)) ∧ σ' 0 3 = nI P ∧ σ' 0 10 = σ 0 10 + nI 1 ∧
    σ' 0 (78 + l) = (if σ 0 (302 + 4 * p + 1) < 0 ∧ σ 0 (302 + 4 * p + 2) = 0 then σ 0 (78 + l) else nI 1) ∧ ∀ k, k ≠ 3 → k ≠ 10 → k ≠ 78 + l → (k < 302 + 4 * p ∨ 302 + 4 * p + 4 ≤ k) → σ' 0 k = σ 0 k := by
  have tail : ∀ ρ : zSt, ρ 0 3 = nI (P + 1) → ∃ σ', fX9_tearOut_j37 (nI (302 + 4 * p)) ρ = some σ' ∧ (∀ i, i ≠ 0 → σ' i = ρ i) ∧ (∀ j, j < 4 → σ' 0 (302 + 4 * p + j) = ρ 0 (302 + 4 * P + j)) ∧ σ' 0 3 = nI P ∧ σ' 0 10 = ρ 0 10 + nI 1 ∧ ∀ k, k ≠ 3 → k ≠ 10 → (k < 302 + 4 * p ∨ 302 + 4 * p + 4 ≤ k) → σ' 0 k = ρ 0 k := by
    intro ρ h
    obtain ⟨σ', g1, g2, g3, g4⟩ := qr_tear_l (σ := w0 (w0 ρ 10 (ρ 0 10 + nI 1)) 3 (nI P)) hP hp (w0_e _ _ _)
    refine ⟨σ', ?_, fun i hi => ?_, fun j hj => ?_, ?_, ?_, fun k k1 k2 k3 => ?_⟩
    · unfold fX9_tearOut_j37
      rw [p_ag (by omega) (by omega), Option.bind_some, p_w0 (by omega), Option.bind_some, p_ag (by omega) (by omega), Option.bind_some, w0_n (by omega), h, p_sub (by omega), Nat.add_sub_cancel, p_w0 (by omega), Option.bind_some]
      exact g1
    · rw [g2 i hi, w0_o hi, w0_o hi]
    · rw [g3 j hj, w0_n (by omega), w0_n (by omega)]
    · rw [g4 3 (by omega), w0_e]
    · rw [g4 10 (by omega), w0_n (by omega), w0_e]
    · rw [g4 k k3, w0_n k1, w0_n k2]
  have hmark : ∃ σ', fX9_tearOut_j22 (nI (302 + 4 * p)) σ = some σ' ∧ (∀ i, i ≠ 0 → σ' i = σ i) ∧ (∀ j, j < 4 → σ' 0 (302 + 4 * p + j) = σ 0 (302 + 4 * P + j)) ∧ σ' 0 3 = nI P ∧ σ' 0 10 = σ 0 10 + nI 1 ∧ σ' 0 (78 + l) = nI 1 ∧ ∀ k, k ≠ 3 → k ≠ 10 → k ≠ 78 + l → (k < 302 + 4 * p ∨ 302 + 4 * p + 4 ≤ k) → σ' 0 k = σ 0 k := by
    obtain ⟨σ', g1, g2, g3, g4, g5, g6⟩ := tail (w0 σ (78 + l) (nI 1)) (by rw [w0_n (by omega)]; exact h3)
    refine ⟨σ', ?_, fun i hi => ?_, fun j hj => ?_, g4, ?_, ?_, fun k k1 k2 k3 k4 => ?_⟩
    · unfold fX9_tearOut_j22
      rw [p_ag (by omega) (by omega), Option.bind_some, h0, nI_add, p_w0 (by omega), Option.bind_some]
      exact g1
    · rw [g2 i hi, w0_o hi]
    · rw [g3 j hj, w0_n (by omega)]
    · rw [g5, w0_n (by omega)]
    · rw [g6 (78 + l) (by omega) (by omega) (by omega), w0_e]
    · rw [g6 k k1 k2 k4, w0_n k3]
  unfold fX9_tearOut
  rw [nI_add, p_ag (by omega) (by omega), Option.bind_some, nI_add, p_ag (by omega) (by omega), Option.bind_some]
  by_cases c1 : 0 ≤ σ 0 (302 + 4 * p + 1)
  · rw [if_pos c1, if_neg (fun z => absurd c1 (Int32.not_le.mpr z.1))]
    exact hmark
  · rw [if_neg c1]
    by_cases c2 : σ 0 (302 + 4 * p + 2) = 0
    · rw [if_pos c2, if_pos ⟨Int32.not_le.mp c1, c2⟩]
      obtain ⟨σ', g1, g2, g3, g4, g5, g6⟩ := tail σ h3
      exact ⟨σ', g1, g2, g3, g4, g5, g6 (78 + l) (by omega) (by omega) (by omega), fun k k1 k2 _ k4 => g6 k k1 k2 k4⟩
    · rw [if_neg c2, if_neg (fun z => c2 z.2)]
      exact hmark
theorem qx_tearOut {τ : zSt} {l : Nat} {b : Int32} (hl : l < 32) : ∃ τ', fX1_tearOut (nI l) b τ = some τ' ∧ τ' 6 = upd (τ 6) l (nI 0) ∧ τ' 15 0 = τ 15 0 - nI 1 ∧ τ' 17 0 = τ 17 0 + nI 1 ∧ τ' 13 0 = (if b = 0 then τ 13 0 else τ 13 0 ||| ((nI 1) <<< (nI l &&& 31))) ∧ ∀ i, i ≠ 6 → i ≠ 15 → i ≠ 17 → i ≠ 13 → τ' i = τ i := by
  unfold fX1_tearOut
  rw [p_wr hl (by omega), Option.bind_some, p_ws, Option.bind_some, p_ws, Option.bind_some]
  by_cases hb : b = 0
  · rw [if_pos hb, if_pos hb]
    refine ⟨_, rfl, ?_, ?_, ?_, ?_, fun i h1 h2 h3 h4 => ?_⟩
    · rw [ws_o (by omega), ws_o (by omega)]
      exact p_ze _ _ _
    · rw [ws_o (by omega), ws_e, wr_o (by omega)]
    · rw [ws_e, ws_o (by omega), wr_o (by omega)]
    · rw [ws_o (by omega), ws_o (by omega), wr_o (by omega)]
    · rw [ws_o h3, ws_o h2, wr_o h1]
  · rw [if_neg hb, if_neg hb, p_ws, Option.bind_some]
    refine ⟨_, rfl, ?_, ?_, ?_, ?_, fun i h1 h2 h3 h4 => ?_⟩
    · rw [ws_o (by omega), ws_o (by omega), ws_o (by omega)]
      exact p_ze _ _ _
    · rw [ws_o (by omega), ws_o (by omega), ws_e, wr_o (by omega)]
    · rw [ws_o (by omega), ws_e, ws_o (by omega), wr_o (by omega)]
    · rw [ws_e, ws_o (by omega), ws_o (by omega), wr_o (by omega)]
    · rw [ws_o h4, ws_o h3, ws_o h2, wr_o h1]
