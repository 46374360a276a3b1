/-! the first step of a miss: the line has a page, in both -/
theorem pS_eq0 {f : Nat → Nat} : ∀ {r k : Nat}, pS f r k = 0 ↔ ∀ j, k ≤ j → j < k + r → f j = 0 := by
  intro r
  induction r with
  | zero => intro k; exact ⟨fun _ j h1 h2 => by omega, fun _ => rfl⟩
  | succ r ih =>
    intro k
    show f k + pS f r (k + 1) = 0 ↔ _
    refine ⟨fun h j h1 h2 => ?_, fun h => ?_⟩
    · by_cases e : j = k
      · rw [e]; omega
      · exact (ih (k := k + 1)).mp (by omega) j (by omega) (by omega)
    · have h1 := h k (Nat.le_refl _) (by omega)
      have h2 := (ih (k := k + 1)).mpr fun j g1 g2 => h j (by omega) (by omega)
      omega
theorem cnt_zero {τ : zSt} {l : Nat} : pS (fun c => if τ 2 (c * 32 + l) = 0 then 0 else 1) 6 0 = 0 ↔ ∀ c, c < 6 → τ 2 (c * 32 + l) = 0 := by
  rw [pS_eq0]
  refine ⟨fun h c hc => ?_, fun h c _ hc => by rw [if_pos (h c (by omega))]⟩
  have := h c (by omega) (by omega)
  by_cases e : τ 2 (c * 32 + l) = 0
  · exact e
  · rw [if_neg e] at this
    omega
theorem cnt_le {τ : zSt} {l : Nat} : pS (fun c => if τ 2 (c * 32 + l) = 0 then 0 else 1) 6 0 ≤ 6 := by
  have := @pS_le (fun c => if τ 2 (c * 32 + l) = 0 then 0 else 1) 1 (fun j => by split <;> omega) 6 0
  omega
theorem nI_le0 {k : Nat} (h : k < 2 ^ 31) : nI k ≤ 0 ↔ k = 0 := by
  rw [show (0 : Int32) = nI 0 from nI_0.symm, nI_leI h (by omega)]
  omega
theorem pg_le0 {P U D : Nat} {E : Nat → Prop} {σ τ : zSt} (h : mPage P U D E σ τ) {l : Nat} (hl : l < 32) : τ 6 l ≤ 0 ↔ τ 6 l = 0 := by
  refine ⟨fun z => ?_, fun z => by rw [z]; exact Int32.le_refl _⟩
  rcases h.1 l hl with e | ⟨d, d1, d2, d3⟩
  · exact e
  · rw [d3] at z
    have := (nI_le0 (by have := h.2.2.2.2.2.2.2.2.2; omega)).mp z
    omega
/-- the class's way to a page of line l -/
def cOpen (l : Nat) (τ : zSt) : Option zSt := (fX1_hasPage (nI l) τ).bind fun x1 => if x1 = 0 then (fX4_makeRoomInDiary τ).bind fun σ13 => fX1_makePage (nI l) σ13 else some τ
theorem rl_room {n S R P U D l : Nat} {σ τ : zSt} (h : mInv n S R P U D noE noX σ τ) (hl : l < 32) (h6 : τ 6 l = 0) :
    ∃ P' σ' τ', P' < R ∧ fX9_opensPage (nI l) σ = fX9_opensPage_j33 (nI l) σ' ∧ fX4_makeRoomInDiary τ = some τ' ∧ mInv n S R P' U D noE noX σ' τ' ∧ τ' 6 l = 0 ∧ bt (τ' 13 0) l = bt (τ 13 0) l ∧ (∀ i, i ≠ 0 → σ' i = σ i) ∧ (∀ k, k ≠ 3 → k ≠ 10 → (k < 78 ∨ 110 ≤ k) → (k < 302 ∨ 366 ≤ k) → σ' 0 k = σ 0 k) ∧ ∀ i, i ≠ 6 → i ≠ 15 → i ≠ 17 → i ≠ 13 → τ' i = τ i := by
  have hh := h
  obtain ⟨hSc, hNu, hMe, hMa, hKi, hOn, hCo, hPa, hNo⟩ := h
  obtain ⟨⟨a1, a2, a3, a4, a5, a6, a7⟩, b1, c1, d1, e1⟩ := id hSc
  unfold fX9_opensPage
  rw [qr_pageOf (by omega) e1.1, Option.bind_some, (rpg_of hPa hl).1 h6, oI_none, if_pos p_neg, p_ag (by omega) (by omega), Option.bind_some, p_ag (by omega) (by omega), Option.bind_some, e1.1, d1.1]
  by_cases hPR : P = R
  · obtain ⟨Q, rfl⟩ : ∃ Q, P = Q + 1 := ⟨P - 1, by omega⟩
    obtain ⟨b, q1, q2, q3⟩ := qr_oldestPage (σ := σ) (P := Q + 1) (by omega) (by omega) e1.1
    obtain ⟨k, k1, k2, k3⟩ := hPa.2.1 b q2
    obtain ⟨o, m1, m2, m3⟩ := qx_lineToTear (τ := τ) (by rw [d1.2, e1.2]; exact nI_le (by omega) (by omega))
    have hk : o = some k := by
      cases o with
      | none => exact absurd ((pg_le0 hPa k1).mp (m2 rfl k k1)) k3
      | some m =>
        obtain ⟨w1, w2, w3⟩ := m3 m rfl
        have w4 : τ 6 m ≠ 0 := fun z => w2 ((pg_le0 hPa w1).mpr z)
        obtain ⟨pm, v1, v2⟩ := hPa.2.2.1 m w1 w4
        have v3 := (hPa.2.2.2.2.2.2.1 b pm k m q2 v1 k1 w1 k2 v2 id id).mp (q3 pm v1)
        have v4 := w3 k k1 (fun z => k3 ((pg_le0 hPa k1).mp z))
        rw [hPa.2.2.2.2.2.2.2.1 k m k1 w1 k3 (Int32.le_antisymm v3 v4)]
    subst hk
    have hkl : k ≠ l := fun e => k3 (by rw [e]; exact h6)
    rw [if_pos (by rw [hPR]), q1, Option.bind_some]
    have hcl := @cnt_le τ k
    -- the torn page's fate
    have go : ∀ bb : Int32, (bb = 0 ↔ ∀ c, c < 6 → τ 2 (c * 32 + k) = 0) → ∃ P' σ' τ', P' < R ∧ ((fX9_tearOut (nI (302 + 4 * b)) σ).bind fun σ18 => fX9_opensPage_j33 (nI l) σ18) = fX9_opensPage_j33 (nI l) σ' ∧ fX1_tearOut (nI k) bb τ = some τ' ∧ mInv n S R P' U D noE noX σ' τ' ∧ τ' 6 l = 0 ∧ bt (τ' 13 0) l = bt (τ 13 0) l ∧ (∀ i, i ≠ 0 → σ' i = σ i) ∧ (∀ k, k ≠ 3 → k ≠ 10 → (k < 78 ∨ 110 ≤ k) → (k < 302 ∨ 366 ≤ k) → σ' 0 k = σ 0 k) ∧ ∀ i, i ≠ 6 → i ≠ 15 → i ≠ 17 → i ≠ 13 → τ' i = τ i := by
      intro bb hbb
      obtain ⟨p, σ', τ', t1, t2, t3, t4, t5, t6, t7, t8, t9, t10⟩ := rl_tear hh k1 k3 id bb hbb
      have hpb : p = b := hPa.2.2.2.1 p b (by omega) q2 (by rw [t3, k2])
      subst hpb
      obtain ⟨τ'', u1, u2, u3, u4, u5, u6⟩ := qx_tearOut (τ := τ) (b := bb) k1
      obtain rfl : τ' = τ'' := Option.some.inj (t5.symm.trans u1)
      refine ⟨Q, σ', τ', by omega, by rw [t4, Option.bind_some], t5, t6, ?_, ?_, t7, t8, t10⟩
      · rw [t9, p_upn (fun e => hkl e.symm)]; exact h6
      · rw [u5]
        by_cases hb0 : bb = 0
        · rw [if_pos hb0]
        · rw [if_neg hb0, b_set _ k1 hl, decide_eq_false (fun e => hkl e.symm), Bool.or_false]
    unfold fX4_makeRoomInDiary
    rw [m1, Option.bind_some, oI_some, if_neg (p_nneg (by omega)), qx_countOf k1, Option.bind_some]
    unfold fX4_makeRoomInDiary_j34
    by_cases hc0 : pS (fun c => if τ 2 (c * 32 + k) = 0 then 0 else 1) 6 0 = 0
    · obtain ⟨P', σ', τ', g1, g2, g3, g4⟩ := go (nI 0) ⟨fun _ => cnt_zero.mp hc0, fun _ => nI_0⟩
      refine ⟨P', σ', τ', g1, g2, ?_, g4⟩
      rw [if_pos ((nI_le0 (by omega)).mpr hc0), g3, Option.bind_some]
    · obtain ⟨P', σ', τ', g1, g2, g3, g4⟩ := go (nI 1) ⟨fun z => absurd z (by decide), fun z => absurd (cnt_zero.mpr z) hc0⟩
      refine ⟨P', σ', τ', g1, g2, ?_, g4⟩
      rw [if_neg (fun z => hc0 ((nI_le0 (by omega)).mp z)), g3, Option.bind_some]
  · rw [if_neg (fun z => hPR ((nI_eq (by omega) (by omega)).mp z))]
    refine ⟨P, σ, τ, by omega, rfl, ?_, hh, h6, rfl, fun _ _ => rfl, fun _ _ _ _ _ => rfl, fun _ _ _ _ _ => rfl⟩
    unfold fX4_makeRoomInDiary
    rw [qx_lineToTear0 (by rw [d1.2, e1.2]; exact nI_ge (by omega) (by omega)), Option.bind_some, if_pos rfl]
/-- what a miss pays for the page -/
def mPay (n : Nat) (τ : zSt) (l : Nat) : Nat := if τ 6 l = 0 ∧ bt (τ 13 0) l = true then n - 1 else 1
theorem rl_open {n S R P U D l : Nat} {σ τ : zSt} (h : mInv n S R P U D noE noX σ τ) (hl : l < 32) (hD : D + 1 ≤ 20000000) :
    ∃ P' D' σ' τ', fX9_opensPage (nI l) σ = some (nI (mPay n τ l), σ') ∧ cOpen l τ = some τ' ∧ mInv n S R P' U D' (fun k => k = l) noX σ' τ' ∧ τ' 6 l ≠ 0 ∧ D' ≤ D + 1 ∧ (∀ i, i ≠ 0 → σ' i = σ i) ∧ (∀ k, k ≠ 3 → k ≠ 9 → k ≠ 10 → (k < 78 ∨ 110 ≤ k) → (k < 302 ∨ 366 ≤ k) → σ' 0 k = σ 0 k) ∧ ∀ i, i ≠ 6 → i ≠ 12 → i ≠ 13 → i ≠ 15 → i ≠ 16 → i ≠ 17 → τ' i = τ i := by
  have hPa := h.2.2.2.2.2.2.2.1
  unfold cOpen mPay
  rw [qx_hasPage hl, Option.bind_some]
  by_cases h6 : τ 6 l = 0
  · rw [if_pos ((pg_le0 hPa hl).mpr h6), if_pos nI_0]
    obtain ⟨P', σ1, τ1, g1, g2, g3, g4, g5, g6, g7, g8, g9⟩ := rl_room h hl h6
    obtain ⟨σ2, τ2, k1, k2, k3, k4, k5, k6, k7⟩ := rl_make g4 hl g5 g1 hD
    refine ⟨P' + 1, D + 1, σ2, τ2, ?_, ?_, k3, k4, Nat.le_refl _, fun i hi => by rw [k5 i hi, g7 i hi], fun k e1 e2 e3 e4 e5 => by rw [k6 k e1 e2 e4 e5, g8 k e1 e3 e4 e5], fun i e1 e2 e3 e4 e5 e6 => by rw [k7 i e1 e2 e4 e5 e3, g9 i e1 e4 e6 e3]⟩
    · rw [g2, k1, g6]
      cases hb : bt (τ 13 0) l with
      | false => rw [ifF, if_neg (fun z => by cases z.2)]
      | true => rw [ifT, if_pos ⟨h6, rfl⟩]
    · rw [g3, Option.bind_some, k2]
  · rw [if_neg (fun z => h6 ((pg_le0 hPa hl).mp z)), if_neg (fun z : τ 6 l = 0 ∧ bt (τ 13 0) l = true => h6 z.1), if_neg (show ¬ nI 1 = 0 by decide)]
    refine ⟨P, D, σ, τ, ?_, rfl, mInv_E h (fun k z => z.elim), h6, by omega, fun _ _ => rfl, fun _ _ _ _ _ _ => rfl, fun _ _ _ _ _ _ _ => rfl⟩
    obtain ⟨⟨a1, a2, a3, a4, a5, a6, a7⟩, b1, c1, d1, e1⟩ := h.1
    obtain ⟨p, p1, p2, p3⟩ := (rpg_of hPa hl).2 h6
    unfold fX9_opensPage
    rw [qr_pageOf (by omega) e1.1, Option.bind_some, p3, oI_some, if_neg (nI_pos (by omega))]
