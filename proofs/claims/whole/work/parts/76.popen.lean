/-! a page is made, in both -/
theorem ifF {α : Type} (a b : α) : (if false = true then a else b) = b := rfl
theorem ifT {α : Type} (a b : α) : (if true = true then a else b) = a := rfl
theorem qr_open33 {σ : zSt} {n S P l : Nat} {mk : Bool} (hn1 : 2 ≤ n) (hn : n ≤ 6) (hS : S ≤ 8) (hP : P < 16) (hl : l < 32) (h0 : σ 0 0 = nI n) (h1 : σ 0 1 = nI S) (h3 : σ 0 3 = nI P) (hm : σ 0 (78 + l) = if mk = true then nI 1 else nI 0) :
    ∃ σ', fX9_opensPage_j33 (nI l) σ = some (if mk = true then nI (n - 1) else nI 1, σ') ∧ (∀ i, i ≠ 0 → σ' i = σ i) ∧ σ' 0 (302 + 4 * P) = nI l ∧ σ' 0 3 = nI (P + 1) ∧ σ' 0 (78 + l) = nI 0 ∧ σ' 0 9 = σ 0 9 + (if mk = true then nI 1 else nI 0) ∧ ∀ k, k ≠ 3 → k ≠ 9 → k ≠ 78 + l → (k < 302 + 4 * P ∨ 302 + 4 * P + 3 ≤ k) → σ' 0 k = σ 0 k := by
  unfold fX9_opensPage_j33
  rw [nI_add, p_ag (by omega) (by omega), Option.bind_some, hm]
  -- the tail, for any owner and sharers
  have tail : ∀ (x y : Int32) (ρ : zSt), (∀ i, i ≠ 0 → ρ i = σ i) → (∀ k, (k < 302 + 4 * P ∨ 302 + 4 * P + 3 ≤ k) → ρ 0 k = σ 0 k) → ρ 0 (302 + 4 * P) = nI l →
      ∃ σ', fX9_opensPage_j113 (nI l) (if mk = true then nI 1 else nI 0) x (nI (302 + 4 * P + 2)) ρ = some (if mk = true then nI (n - 1) else nI 1, σ') ∧ (∀ i, i ≠ 0 → σ' i = σ i) ∧ σ' 0 (302 + 4 * P) = nI l ∧ σ' 0 3 = nI (P + 1) ∧ σ' 0 (78 + l) = nI 0 ∧ σ' 0 9 = σ 0 9 + (if mk = true then nI 1 else nI 0) ∧ ∀ k, k ≠ 3 → k ≠ 9 → k ≠ 78 + l → (k < 302 + 4 * P ∨ 302 + 4 * P + 3 ≤ k) → σ' 0 k = σ 0 k := by
    intro x y ρ r1 r2 r3
    refine ⟨w0 (w0 (w0 (w0 ρ (302 + 4 * P + 2) x) 3 (nI (P + 1))) (78 + l) (nI 0)) 9 (σ 0 9 + (if mk = true then nI 1 else nI 0)), ?_, fun i hi => ?_, ?_, ?_, ?_, ?_, fun k k1 k2 k3 k4 => ?_⟩
    · unfold fX9_opensPage_j113 fX9_opensPage_j151
      rw [p_w0 (by omega), Option.bind_some, p_ag (by omega) (by omega), Option.bind_some, w0_n (by omega), r2 3 (by omega), h3, nI_add, p_w0 (by omega), Option.bind_some, nI_add, p_w0 (by omega), Option.bind_some, p_ag (by omega) (by omega), Option.bind_some]
      have e9 : w0 (w0 (w0 ρ (302 + 4 * P + 2) x) 3 (nI (P + 1))) (78 + l) (nI 0) 0 9 = σ 0 9 := by
        rw [w0_n (by omega), w0_n (by omega), w0_n (by omega), r2 9 (by omega)]
      rw [e9]
      cases mk with
      | false =>
        simp only [ifF]
        rw [if_pos nI_0, p_w0 (by omega), Option.bind_some, if_pos nI_0]
      | true =>
        simp only [ifT, if_true]
        rw [if_neg (by decide), p_w0 (by omega), Option.bind_some, if_neg (by decide), p_ag (by omega) (by omega), Option.bind_some]
        have e0 : w0 (w0 (w0 (w0 ρ (302 + 4 * P + 2) x) 3 (nI (P + 1))) (78 + l) (nI 0)) 9 (σ 0 9 + nI 1) 0 0 = nI n := by
          rw [w0_n (by omega), w0_n (by omega), w0_n (by omega), w0_n (by omega), r2 0 (by omega), h0]
        rw [e0, p_sub (by omega)]
    · rw [w0_o hi, w0_o hi, w0_o hi, w0_o hi, r1 i hi]
    · rw [w0_n (by omega), w0_n (by omega), w0_n (by omega), w0_n (by omega), r3]
    · rw [w0_n (by omega), w0_n (by omega), w0_e]
    · rw [w0_n (by omega), w0_e]
    · rw [w0_e]
    · rw [w0_n k2, w0_n k3, w0_n k1, w0_n (by omega), r2 k k4]
  have mid : ∀ (x : Int32) (w : Int32), w = (if mk = true then nI 1 else nI 0) → ∃ σ', fX9_opensPage_j92 (nI l) w (nI (302 + 4 * P)) x (nI (302 + 4 * P + 1)) (w0 σ (302 + 4 * P) (nI l)) = some (if mk = true then nI (n - 1) else nI 1, σ') ∧ (∀ i, i ≠ 0 → σ' i = σ i) ∧ σ' 0 (302 + 4 * P) = nI l ∧ σ' 0 3 = nI (P + 1) ∧ σ' 0 (78 + l) = nI 0 ∧ σ' 0 9 = σ 0 9 + (if mk = true then nI 1 else nI 0) ∧ ∀ k, k ≠ 3 → k ≠ 9 → k ≠ 78 + l → (k < 302 + 4 * P ∨ 302 + 4 * P + 3 ≤ k) → σ' 0 k = σ 0 k := by
    intro x w hw
    have T : ∀ z, _ := fun z => tail z 0 (w0 (w0 σ (302 + 4 * P) (nI l)) (302 + 4 * P + 1) x) (fun i hi => by rw [w0_o hi, w0_o hi]) (fun k hk => by rw [w0_n (by omega), w0_n (by omega)]) (by rw [w0_n (by omega), w0_e])
    unfold fX9_opensPage_j92
    rw [p_w0 (by omega), Option.bind_some, nI_add]
    by_cases hz : w = 0
    · rw [if_pos hz, hw]
      exact T _
    · rw [if_neg hz, qr_sharersOf (n := n) (S := S) hn hS (by rw [w0_n (by omega), w0_n (by omega)]; exact h0) (by rw [w0_n (by omega), w0_n (by omega)]; exact h1), Option.bind_some, hw]
      exact T _
  have start : ∀ w : Int32, w = (if mk = true then nI 1 else nI 0) → ∃ σ', fX9_opensPage_j51 (nI l) w σ = some (if mk = true then nI (n - 1) else nI 1, σ') ∧ (∀ i, i ≠ 0 → σ' i = σ i) ∧ σ' 0 (302 + 4 * P) = nI l ∧ σ' 0 3 = nI (P + 1) ∧ σ' 0 (78 + l) = nI 0 ∧ σ' 0 9 = σ 0 9 + (if mk = true then nI 1 else nI 0) ∧ ∀ k, k ≠ 3 → k ≠ 9 → k ≠ 78 + l → (k < 302 + 4 * P ∨ 302 + 4 * P + 3 ≤ k) → σ' 0 k = σ 0 k := by
    intro w hw
    unfold fX9_opensPage_j51
    rw [p_ag (by omega) (by omega), Option.bind_some, h3, p_mul, nI_add, p_w0 (by omega), Option.bind_some, nI_add]
    by_cases hz : w = 0
    · rw [if_pos hz]
      exact mid _ w hw
    · rw [if_neg hz, qr_ownerOf (n := n) (S := S) hn hS (by rw [w0_n (by omega)]; exact h0) (by rw [w0_n (by omega)]; exact h1), Option.bind_some]
      exact mid _ w hw
  cases mk with
  | false =>
    rw [if_neg (by decide), if_neg (by decide)]
    exact start (nI 0) rfl
  | true =>
    rw [if_pos rfl, if_pos rfl]
    exact start (nI 1) rfl
theorem qx_use1 {τ : zSt} {l : Nat} (hl : l < 32) : fX1_use (nI l) τ = some (wr (ws τ 12 (τ 12 0 + nI 1)) 6 l (τ 12 0 + nI 1)) := by
  unfold fX1_use
  rw [p_ws, Option.bind_some, p_wr hl (by omega), Option.bind_some, ws_e]
theorem qx_makePage {τ : zSt} {l : Nat} (hl : l < 32) : ∃ τ', fX1_makePage (nI l) τ = some τ' ∧ τ' 6 = upd (τ 6) l (τ 12 0 + nI 1) ∧ τ' 12 0 = τ 12 0 + nI 1 ∧ τ' 15 0 = τ 15 0 + nI 1 ∧ τ' 16 0 = τ 16 0 + (if bt (τ 13 0) l = true then nI 1 else nI 0) ∧ τ' 13 0 = (if bt (τ 13 0) l = true then τ 13 0 &&& (((nI 1) <<< (nI l &&& 31)) ^^^ (-1)) else τ 13 0) ∧ ∀ i, i ≠ 6 → i ≠ 12 → i ≠ 15 → i ≠ 16 → i ≠ 13 → τ' i = τ i := by
  have tail : ∀ ρ : zSt, ∃ τ', fX1_makePage_j32 (nI l) ρ = some τ' ∧ τ' 6 = upd (ρ 6) l (ρ 12 0 + nI 1) ∧ τ' 12 0 = ρ 12 0 + nI 1 ∧ τ' 15 0 = ρ 15 0 + nI 1 ∧ ∀ i, i ≠ 6 → i ≠ 12 → i ≠ 15 → τ' i = ρ i := by
    intro ρ
    unfold fX1_makePage_j32
    rw [p_ws, Option.bind_some, qx_use1 hl, Option.bind_some]
    refine ⟨_, rfl, ?_, ?_, ?_, fun i h1 h2 h3 => ?_⟩
    · rw [ws_o (by omega)]
      show z_up _ 6 _ 6 = _
      rw [p_ze, ws_o (by omega), ws_o (by omega)]
    · rw [wr_o (by omega), ws_e, ws_o (by omega)]
    · rw [wr_o (by omega), ws_o (by omega), ws_e]
    · rw [wr_o h1, ws_o h2, ws_o h3]
  unfold fX1_makePage
  rw [qx_isMarked hl, Option.bind_some]
  cases hb : bt (τ 13 0) l with
  | false =>
    simp only [ifF]
    rw [if_pos nI_0]
    obtain ⟨τ', g1, g2, g3, g4, g5⟩ := tail τ
    exact ⟨τ', g1, g2, g3, g4, by rw [g5 16 (by omega) (by omega) (by omega), nI_0, Int32.add_zero], g5 13 (by omega) (by omega) (by omega) ▸ rfl, fun i h1 h2 h3 _ _ => g5 i h1 h2 h3⟩
  | true =>
    simp only [ifT, if_true]
    rw [if_neg (by decide), p_ws, Option.bind_some, p_ws, Option.bind_some]
    obtain ⟨τ', g1, g2, g3, g4, g5⟩ := tail (ws (ws τ 16 (τ 16 0 + nI 1)) 13 ((ws τ 16 (τ 16 0 + nI 1)) 13 0 &&& (((nI 1) <<< (nI l &&& 31)) ^^^ (-1))))
    refine ⟨τ', g1, ?_, ?_, ?_, ?_, ?_, fun i h1 h2 h3 h4 h5 => ?_⟩
    · rw [g2, ws_o (by omega), ws_o (by omega), ws_o (by omega), ws_o (by omega)]
    · rw [g3, ws_o (by omega), ws_o (by omega)]
    · rw [g4, ws_o (by omega), ws_o (by omega)]
    · rw [g5 16 (by omega) (by omega) (by omega), ws_o (by omega), ws_e]
    · rw [g5 13 (by omega) (by omega) (by omega), ws_e, ws_o (by omega)]
    · rw [g5 i h1 h2 h3, ws_o h5, ws_o h4]
theorem mPage_make {P U D l : Nat} {σ τ σ' τ' : zSt} (hP : P < 16) (h : mPage P U D noE σ τ) (hl : l < 32) (h6 : τ 6 l = 0) (hD : D + 1 ≤ 20000000)
    (g0 : σ' 0 (302 + 4 * P) = nI l) (g2 : ∀ k, 302 ≤ k → (k < 302 + 4 * P ∨ 302 + 4 * P + 3 ≤ k) → k < 366 → σ' 0 k = σ 0 k) (t6 : τ' 6 = upd (τ 6) l (τ 12 0 + nI 1)) (t12 : τ' 12 0 = τ 12 0 + nI 1) (t2 : τ' 2 = τ 2) : mPage (P + 1) U (D + 1) (fun k => k = l) σ' τ' := by
  obtain ⟨a, b, c, d, e, f, g, i, j⟩ := h
  have own_e : ∀ k, ownN τ' k = ownN τ k := fun k => by unfold ownN; rw [t2]
  have sh_e : ∀ k, shF (kdF τ' k) 6 = shF (kdF τ k) 6 := fun k => by unfold kdF; rw [t2]
  rw [j.1, nI_add] at t6 t12
  have t6n : ∀ k, k ≠ l → τ' 6 k = τ 6 k := fun k hk => by rw [t6, p_upn hk]
  have t6l : τ' 6 l = nI (D + 1) := by rw [t6, p_upe]
  have old : ∀ q j, q < P → j < 4 → σ' 0 (302 + 4 * q + j) = σ 0 (302 + 4 * q + j) := fun q j hq hj => g2 _ (by omega) (by omega) (by omega)
  have old0 : ∀ q, q < P → σ' 0 (302 + 4 * q) = σ 0 (302 + 4 * q) := fun q hq => old q 0 hq (by omega)
  have lne : ∀ q k, q < P → k < 32 → σ 0 (302 + 4 * q) = nI k → k ≠ l := by
    intro q k hq hk hqk e
    obtain ⟨m, m1, m2, m3⟩ := b q hq
    rw [m2] at hqk
    have := (nI_eq (by omega) (by omega)).mp hqk
    rw [this, e] at m3
    exact m3 h6
  have notP : ∀ q k, q < P + 1 → k < 32 → σ' 0 (302 + 4 * q) = nI k → ¬ k = l → q < P := by
    intro q k hq hk hqk hkl
    by_cases e : q = P
    · rw [e, g0] at hqk
      exact absurd ((nI_eq (by omega) (by omega)).mp hqk).symm hkl
    · omega
  refine ⟨fun k hk => ?_, fun q hq => ?_, fun k hk hk6 => ?_, fun q r hq hr hqr => ?_, fun q k hq hk hqk hE => ?_, fun q k hq hk hqk hE => ?_, fun q r k m hq hr hk hm hqk hrm hE hE' => ?_, fun k m hk hm hk6 hkm => ?_, ⟨t12, hD⟩⟩
  · by_cases ek : k = l
    · rw [ek]; exact Or.inr ⟨D + 1, by omega, by omega, t6l⟩
    · rw [t6n k ek]
      rcases a k hk with z | ⟨x, x1, x2, x3⟩
      · exact Or.inl z
      · exact Or.inr ⟨x, x1, by omega, x3⟩
  · by_cases eq : q = P
    · exact ⟨l, hl, by rw [eq]; exact g0, by rw [t6l]; exact nI_ne0 (by omega) (by omega)⟩
    · obtain ⟨k, k1, k2, k3⟩ := b q (by omega)
      exact ⟨k, k1, by rw [old0 q (by omega)]; exact k2, by rw [t6n k (lne q k (by omega) k1 k2)]; exact k3⟩
  · by_cases ek : k = l
    · exact ⟨P, by omega, by rw [ek]; exact g0⟩
    · rw [t6n k ek] at hk6
      obtain ⟨q, q1, q2⟩ := c k hk hk6
      exact ⟨q, by omega, by rw [old0 q q1]; exact q2⟩
  · by_cases eq : q = P
    · by_cases er : r = P
      · omega
      · rw [eq, g0, old0 r (by omega)] at hqr
        exact absurd rfl (lne r l (by omega) hl hqr.symm)
    · by_cases er : r = P
      · rw [er, g0, old0 q (by omega)] at hqr
        exact absurd rfl (lne q l (by omega) hl hqr)
      · rw [old0 q (by omega), old0 r (by omega)] at hqr
        exact d q r (by omega) (by omega) hqr
  · have hq' := notP q k hq hk hqk hE
    rw [old q 1 hq' (by omega), old q 2 hq' (by omega), own_e, sh_e]
    exact e q k hq' hk (by rw [← old0 q hq']; exact hqk) id
  · have hq' := notP q k hq hk hqk hE
    rw [old q 3 hq' (by omega)]
    exact f q k hq' hk (by rw [← old0 q hq']; exact hqk) id
  · have hq' := notP q k hq hk hqk hE
    have hr' := notP r m hr hm hrm hE'
    rw [old q 3 hq' (by omega), old r 3 hr' (by omega), t6n k hE, t6n m hE']
    exact g q r k m hq' hr' hk hm (by rw [← old0 q hq']; exact hqk) (by rw [← old0 r hr']; exact hrm) id id
  · by_cases ek : k = l
    · by_cases em : m = l
      · omega
      · rw [ek, t6l, t6n m em] at hkm
        rcases a m hm with z | ⟨x, x1, x2, x3⟩
        · rw [z] at hkm
          exact absurd hkm (nI_ne0 (by omega) (by omega))
        · rw [x3] at hkm
          have := (nI_eq (by omega) (by omega)).mp hkm
          omega
    · rw [t6n k ek] at hkm hk6
      by_cases em : m = l
      · rw [em, t6l] at hkm
        rcases a k hk with z | ⟨x, x1, x2, x3⟩
        · exact absurd z hk6
        · rw [x3] at hkm
          have := (nI_eq (by omega) (by omega)).mp hkm
          omega
      · rw [t6n m em] at hkm
        exact i k m hk hm hk6 hkm
theorem rl_make {n S R P U D l : Nat} {σ τ : zSt} (h : mInv n S R P U D noE noX σ τ) (hl : l < 32) (h6 : τ 6 l = 0) (hP : P < R) (hD : D + 1 ≤ 20000000) :
    ∃ σ' τ', fX9_opensPage_j33 (nI l) σ = some (if bt (τ 13 0) l = true then nI (n - 1) else nI 1, σ') ∧ fX1_makePage (nI l) τ = some τ' ∧ mInv n S R (P + 1) U (D + 1) (fun k => k = l) noX σ' τ' ∧ τ' 6 l ≠ 0 ∧ (∀ i, i ≠ 0 → σ' i = σ i) ∧ (∀ k, k ≠ 3 → k ≠ 9 → (k < 78 ∨ 110 ≤ k) → (k < 302 ∨ 366 ≤ k) → σ' 0 k = σ 0 k) ∧ ∀ i, i ≠ 6 → i ≠ 12 → i ≠ 15 → i ≠ 16 → i ≠ 13 → τ' i = τ i := by
  obtain ⟨hSc, hNu, hMe, hMa, hKi, hOn, hCo, hPa, hNo⟩ := h
  obtain ⟨⟨a1, a2, a3, a4, a5, a6, a7⟩, b1, c1, d1, e1⟩ := id hSc
  obtain ⟨σ', s1, s2, s3, s4, s5, s6, s7⟩ := qr_open33 (mk := bt (τ 13 0) l) a1 a2 a4 (by omega) hl b1.1 c1.1 e1.1 (hMa l hl)
  obtain ⟨τ', t1, t2, t3, t4, t5, t6, t7⟩ := qx_makePage (τ := τ) hl
  have r2 : τ' 2 = τ 2 := t7 2 (by omega) (by omega) (by omega) (by omega) (by omega)
  refine ⟨σ', τ', s1, t1, ⟨?_, ?_, ?_, ?_, ?_, ?_, ?_, ?_, ?_⟩, ?_, s2, fun k k1 k2 k3 k4 => s7 k k1 k2 (by omega) (by omega), t7⟩
  · refine ⟨⟨a1, a2, a3, a4, a5, a6, by omega⟩, ?_, ?_, ?_, s4, ?_⟩
    · rw [s7 0 (by omega) (by omega) (by omega) (by omega), t7 19 (by omega) (by omega) (by omega) (by omega) (by omega)]; exact b1
    · rw [s7 1 (by omega) (by omega) (by omega) (by omega), t7 20 (by omega) (by omega) (by omega) (by omega) (by omega)]; exact c1
    · rw [s7 2 (by omega) (by omega) (by omega) (by omega), t7 14 (by omega) (by omega) (by omega) (by omega) (by omega)]; exact d1
    · rw [t4, e1.2, nI_add]
  · refine ⟨?_, ?_, ?_⟩
    · rw [s6, t5, hNu.1]
    · rw [s7 10 (by omega) (by omega) (by omega) (by omega), t7 17 (by omega) (by omega) (by omega) (by omega) (by omega)]; exact hNu.2.1
    · rw [s7 11 (by omega) (by omega) (by omega) (by omega), t7 26 (by omega) (by omega) (by omega) (by omega) (by omega)]; exact hNu.2.2
  · intro k hk
    rw [s7 (14 + k) (by omega) (by omega) (by omega) (by omega), s7 (46 + k) (by omega) (by omega) (by omega) (by omega), t7 0 (by omega) (by omega) (by omega) (by omega) (by omega), t7 1 (by omega) (by omega) (by omega) (by omega) (by omega)]
    exact hMe k hk
  · intro k hk
    rw [t6]
    by_cases ek : k = l
    · rw [ek, s5]
      cases hb : bt (τ 13 0) l with
      | false => rw [ifF, hb, ifF]
      | true => rw [ifT, b_clr _ hl hl, decide_eq_true rfl, Bool.not_true, Bool.and_false, ifF]
    · rw [s7 (78 + k) (by omega) (by omega) (by omega) (by omega), hMa k hk]
      cases hb : bt (τ 13 0) l with
      | false => rw [ifF]
      | true => rw [ifT, b_clr _ hl hk, decide_eq_false ek, Bool.not_false, Bool.and_true]
  · intro c k hc hk
    rw [r2]; exact hKi c k hc hk
  · intro c d k hc hd hk
    rw [r2]; exact hOn c d k hc hd hk
  · exact mCop_same a2 a4 hCo (fun k k1 k2 => s7 k (by omega) (by omega) (by omega) (by omega)) (s7 13 (by omega) (by omega) (by omega) (by omega)) r2 (t7 3 (by omega) (by omega) (by omega) (by omega) (by omega)) (t7 4 (by omega) (by omega) (by omega) (by omega) (by omega)) (t7 5 (by omega) (by omega) (by omega) (by omega) (by omega)) (t7 11 (by omega) (by omega) (by omega) (by omega) (by omega))
  · exact mPage_make (by omega) hPa hl h6 hD s3 (fun k k1 k2 k3 => s7 k (by omega) (by omega) (by omega) k2) t2 t3 r2
  · intro k hk h60 hbit c hc
    rw [r2]
    rw [t6] at hbit
    rw [t2] at h60
    by_cases ek : k = l
    · rw [ek, p_upe, hPa.2.2.2.2.2.2.2.2.1, nI_add] at h60
      exact absurd h60 (nI_ne0 (by omega) (by omega))
    · rw [p_upn ek] at h60
      refine hNo k hk h60 ?_ c hc
      cases hb : bt (τ 13 0) l with
      | false => rw [hb, if_neg (by decide)] at hbit; exact hbit
      | true => rw [hb, if_pos rfl, b_clr _ hl hk, decide_eq_false ek, Bool.not_false, Bool.and_true] at hbit; exact hbit
  · rw [t2, p_upe, hPa.2.2.2.2.2.2.2.2.1, nI_add]
    exact nI_ne0 (by omega) (by have := hPa.2.2.2.2.2.2.2.2.2; omega)
