/-! the relation of the reference's state and a machine of the class -/
def mScal (n S R P : Nat) (σ τ : zSt) : Prop := (2 ≤ n ∧ n ≤ 6 ∧ 1 ≤ S ∧ S ≤ 8 ∧ 1 ≤ R ∧ R ≤ 16 ∧ P ≤ R) ∧ (σ 0 0 = nI n ∧ τ 19 0 = nI n) ∧ (σ 0 1 = nI S ∧ τ 20 0 = nI S) ∧ (σ 0 2 = nI R ∧ τ 14 0 = nI R) ∧ (σ 0 3 = nI P ∧ τ 15 0 = nI P)
def mNum (σ τ : zSt) : Prop := σ 0 9 = τ 16 0 ∧ σ 0 10 = τ 17 0 ∧ σ 0 11 = τ 26 0
def mMem (σ τ : zSt) : Prop := ∀ l, l < 32 → σ 0 (14 + l) = τ 0 l ∧ σ 0 (46 + l) = τ 1 l
def mMark (σ τ : zSt) : Prop := ∀ l, l < 32 → σ 0 (78 + l) = if bt (τ 13 0) l = true then nI 1 else nI 0
/-- the copies; X: of these only the place is known -/
def mKind (τ : zSt) : Prop := ∀ c l, c < 6 → l < 32 → τ 2 (c * 32 + l) = 0 ∨ τ 2 (c * 32 + l) = nI 1 ∨ τ 2 (c * 32 + l) = nI 2
def mOne (τ : zSt) : Prop := ∀ c d l, c < 6 → d < 6 → l < 32 → τ 2 (c * 32 + l) = nI 2 → τ 2 (d * 32 + l) = nI 2 → c = d
def mCop (n S U : Nat) (X : Nat → Nat → Prop) (σ τ : zSt) : Prop :=
  (∀ c l, c < 6 → l < 32 → τ 2 (c * 32 + l) ≠ 0 → c < n ∧ ∃ s, s < S ∧ τ 4 (c * 32 + l) = nI s ∧ σ 0 (sA c s) = nI l ∧ (¬ X c l → σ 0 (sA c s + 1) = τ 2 (c * 32 + l) ∧ σ 0 (sA c s + 2) = τ 3 (c * 32 + l) ∧ σ 0 (sA c s + 3) = τ 5 (c * 32 + l) ∧ ∃ a, a ≤ U ∧ τ 5 (c * 32 + l) = nI a)) ∧
  (∀ c s, c < n → s < S → σ 0 (sA c s) = -1 ∨ ∃ l, l < 32 ∧ σ 0 (sA c s) = nI l ∧ τ 2 (c * 32 + l) ≠ 0 ∧ τ 4 (c * 32 + l) = nI s) ∧
  (∀ c l k, c < 6 → l < 32 → k < 32 → τ 2 (c * 32 + l) ≠ 0 → τ 2 (c * 32 + k) ≠ 0 → ¬ X c l → ¬ X c k → τ 5 (c * 32 + l) = τ 5 (c * 32 + k) → l = k) ∧
  (σ 0 13 = nI U ∧ τ 11 0 = nI U ∧ U ≤ 10000000)
def ownN (τ : zSt) (l : Nat) : Option Nat := pF (fun c => τ 2 (c * 32 + l) = nI 2) 6 0
def kdF (τ : zSt) (l : Nat) : Nat → Int32 := fun c => τ 2 (c * 32 + l)
/-- the pages; E: what these lines' pages tell isn't known -/
def mPage (P U D : Nat) (E : Nat → Prop) (σ τ : zSt) : Prop :=
  (∀ l, l < 32 → τ 6 l = 0 ∨ ∃ d, 1 ≤ d ∧ d ≤ D ∧ τ 6 l = nI d) ∧
  (∀ p, p < P → ∃ l, l < 32 ∧ σ 0 (302 + 4 * p) = nI l ∧ τ 6 l ≠ 0) ∧
  (∀ l, l < 32 → τ 6 l ≠ 0 → ∃ p, p < P ∧ σ 0 (302 + 4 * p) = nI l) ∧
  (∀ p q, p < P → q < P → σ 0 (302 + 4 * p) = σ 0 (302 + 4 * q) → p = q) ∧
  (∀ p l, p < P → l < 32 → σ 0 (302 + 4 * p) = nI l → ¬ E l → σ 0 (302 + 4 * p + 1) = oI (ownN τ l) ∧ σ 0 (302 + 4 * p + 2) = shF (kdF τ l) 6) ∧
  (∀ p l, p < P → l < 32 → σ 0 (302 + 4 * p) = nI l → ¬ E l → ∃ a, a ≤ U ∧ σ 0 (302 + 4 * p + 3) = nI a) ∧
  (∀ p q l k, p < P → q < P → l < 32 → k < 32 → σ 0 (302 + 4 * p) = nI l → σ 0 (302 + 4 * q) = nI k → ¬ E l → ¬ E k → (σ 0 (302 + 4 * p + 3) ≤ σ 0 (302 + 4 * q + 3) ↔ τ 6 l ≤ τ 6 k)) ∧
  (∀ l k, l < 32 → k < 32 → τ 6 l ≠ 0 → τ 6 l = τ 6 k → l = k) ∧
  (τ 12 0 = nI D ∧ D ≤ 20000000)
def mNo (τ : zSt) : Prop := ∀ l, l < 32 → τ 6 l = 0 → bt (τ 13 0) l = false → ∀ c, c < 6 → τ 2 (c * 32 + l) = 0
def mInv (n S R P U D : Nat) (E : Nat → Prop) (X : Nat → Nat → Prop) (σ τ : zSt) : Prop := mScal n S R P σ τ ∧ mNum σ τ ∧ mMem σ τ ∧ mMark σ τ ∧ mKind τ ∧ mOne τ ∧ mCop n S U X σ τ ∧ mPage P U D E σ τ ∧ mNo τ
def mMsg (σ τ : zSt) : Prop := σ 0 5 = τ 22 0 ∧ σ 0 6 = τ 23 0 ∧ σ 0 7 = τ 24 0 ∧ σ 0 8 = τ 25 0
def mReq (n : Nat) (σ τ : zSt) : Prop := ∀ c, c < 6 → (τ 7 c = -1 ∧ σ 0 (366 + 3 * c) = -1) ∨ (c < n ∧ ∃ l, l < 32 ∧ τ 7 c = nI l ∧ σ 0 (366 + 3 * c) = nI l ∧ σ 0 (366 + 3 * c + 1) = τ 8 c ∧ σ 0 (366 + 3 * c + 2) = τ 9 c ∧ (τ 8 c = -1 ∨ ∃ x, x < 1000 ∧ τ 8 c = nI x))
def mLog (σ τ : zSt) : Prop := ∃ C, C ≤ 12 ∧ σ 0 12 = nI C ∧ τ 18 0 = nI C ∧ ∀ k, k < 6 * C → σ 0 (384 + k) = τ 10 k
def mTime (T : Nat) (σ τ : zSt) : Prop := σ 0 4 = nI T ∧ τ 21 0 = nI T ∧ T ≤ 200000
def noE : Nat → Prop := fun _ => False
def noX : Nat → Nat → Prop := fun _ _ => False
/-- reference's state and machine stand for the same -/
def mRel (σ τ : zSt) : Prop := ∃ n S R P U D T, mInv n S R P U D noE noX σ τ ∧ mMsg σ τ ∧ mReq n σ τ ∧ mLog σ τ ∧ mTime T σ τ ∧ U ≤ 6 * T ∧ D ≤ 12 * T ∧ T ≤ 100006
theorem shF_ext {k k' : Nat → Int32} {n : Nat} (hn : n ≤ 6) (h : ∀ c, c < n → k c = k' c) (h0 : ∀ c, n ≤ c → c < 6 → k' c = 0) : shF k n = shF k' 6 := by
  unfold shF
  rw [show (6 : Nat) = n + (6 - n) by omega, pG_split, pG_id (r := 6 - n) (fun j h1 h2 a => if_neg (by rw [h0 j (by omega) (by omega)]; decide))]
  exact pG_congr fun j h1 h2 a => by rw [h j (by omega)]
/-- the reference finds a copy where the class has one -/
theorem rcp_of {n S U : Nat} {X : Nat → Nat → Prop} {σ τ : zSt} (hS : S ≤ 8) (h : mCop n S U X σ τ) {c l : Nat} (hc : c < n) (hn : n ≤ 6) (hl : l < 32) : (τ 2 (c * 32 + l) = 0 → rcp σ S c (nI l) = none) ∧ (τ 2 (c * 32 + l) ≠ 0 → ∃ s, s < S ∧ τ 4 (c * 32 + l) = nI s ∧ σ 0 (sA c s) = nI l ∧ rcp σ S c (nI l) = some (sA c s)) := by
  obtain ⟨hA, hB, -⟩ := h
  refine ⟨fun h0 => ?_, fun h0 => ?_⟩
  · cases hr : rcp σ S c (nI l) with
    | none => rfl
    | some a =>
      obtain ⟨s, h1, -, h3⟩ := rcp_some hr
      rcases hB c s hc h1 with h4 | ⟨k, h4, h5, h6, -⟩
      · rw [h4] at h3
        exact absurd h3 (p_nneg' (by omega))
      · rw [h3] at h5
        obtain rfl := (nI_eq (by omega) (by omega)).mp h5
        exact absurd h0 h6
  · obtain ⟨-, s, h1, h2, h3, -⟩ := hA c l (by omega) hl h0
    refine ⟨s, h1, h2, h3, rcp_at h1 h3 fun t ht e => ?_⟩
    rcases hB c t hc (by omega) with h4 | ⟨k, h4, h5, h6, h7⟩
    · rw [h4] at e
      exact absurd e (p_nneg' (by omega))
    · rw [e] at h5
      obtain rfl := (nI_eq (by omega) (by omega)).mp h5
      rw [h2] at h7
      have := (nI_eq (by omega) (by omega)).mp h7
      omega
theorem rkd_of {n S U : Nat} {X : Nat → Nat → Prop} {σ τ : zSt} (hS : S ≤ 8) (h : mCop n S U X σ τ) {c l : Nat} (hc : c < n) (hn : n ≤ 6) (hl : l < 32) (hX : ¬ X c l) : rkd σ S c l = τ 2 (c * 32 + l) := by
  unfold rkd
  by_cases h0 : τ 2 (c * 32 + l) = 0
  · rw [(rcp_of hS h hc hn hl).1 h0, h0]
  · obtain ⟨s, h1, h2, h3, h4⟩ := (rcp_of hS h hc hn hl).2 h0
    rw [h4]
    obtain ⟨-, s', g1, g2, g3, g4⟩ := h.1 c l (by omega) hl h0
    rw [h2] at g2
    obtain rfl := (nI_eq (by omega) (by omega)).mp g2
    exact (g4 hX).1
theorem kd_out {n S U : Nat} {X : Nat → Nat → Prop} {σ τ : zSt} (h : mCop n S U X σ τ) {c l : Nat} (hc : n ≤ c) (hc6 : c < 6) (hl : l < 32) : τ 2 (c * 32 + l) = 0 := by
  by_cases h0 : τ 2 (c * 32 + l) = 0
  · exact h0
  · have := (h.1 c l hc6 hl h0).1
    omega
/-- the owner and the sharers, as both read them -/
theorem own_of {n S R P U D : Nat} {E : Nat → Prop} {X : Nat → Nat → Prop} {σ τ : zSt} (h : mInv n S R P U D E X σ τ) {l : Nat} (hl : l < 32) (hX : ∀ c, ¬ X c l) : fX9_ownerOf (nI l) σ = some (oI (ownN τ l)) := by
  obtain ⟨⟨⟨a1, a2, a3, a4, a5, a6, a7⟩, ⟨b1, -⟩, ⟨c1, -⟩, -⟩, -, -, -, -, -, hC, -⟩ := h
  rw [qr_ownerOf a2 a4 b1 c1]
  unfold ownN
  congr 2
  have e1 : pF (fun c => rkd σ S c l = nI 2) n 0 = pF (fun c => τ 2 (c * 32 + l) = nI 2) n 0 := pF_congr fun c _ hc => by rw [rkd_of a4 hC (by omega) a2 hl (hX c)]
  rw [e1]
  cases hp : pF (fun c => τ 2 (c * 32 + l) = nI 2) n 0 with
  | some c =>
    obtain ⟨h1, h2, h3, h4⟩ := pF_some hp
    exact (pF_mk h1 (by omega) h3 h4).symm
  | none =>
    refine (pF_none.mpr fun c _ hc => ?_).symm
    by_cases hcn : c < n
    · exact pF_none.mp hp c (by omega) (by omega)
    · rw [kd_out hC (by omega) (by omega) hl]
      decide
theorem sha_of {n S R P U D : Nat} {E : Nat → Prop} {X : Nat → Nat → Prop} {σ τ : zSt} (h : mInv n S R P U D E X σ τ) {l : Nat} (hl : l < 32) (hX : ∀ c, ¬ X c l) : fX9_sharersOf (nI l) σ = some (shF (kdF τ l) 6) := by
  obtain ⟨⟨⟨a1, a2, a3, a4, a5, a6, a7⟩, ⟨b1, -⟩, ⟨c1, -⟩, -⟩, -, -, -, -, -, hC, -⟩ := h
  rw [qr_sharersOf a2 a4 b1 c1]
  congr 1
  exact shF_ext a2 (fun c hc => rkd_of a4 hC hc a2 hl (hX c)) fun c h1 h2 => kd_out hC h1 h2 hl
/-- a line's page in the reference -/
theorem rpg_of {P U D : Nat} {E : Nat → Prop} {σ τ : zSt} (h : mPage P U D E σ τ) {l : Nat} (hl : l < 32) : (τ 6 l = 0 → rpg σ P (nI l) = none) ∧ (τ 6 l ≠ 0 → ∃ p, p < P ∧ σ 0 (302 + 4 * p) = nI l ∧ rpg σ P (nI l) = some (302 + 4 * p)) := by
  obtain ⟨h1, h2, h3, h4, -⟩ := h
  refine ⟨fun h0 => ?_, fun h0 => ?_⟩
  · cases hr : rpg σ P (nI l) with
    | none => rfl
    | some a =>
      obtain ⟨p, g1, -, g3⟩ := rpg_some hr
      obtain ⟨k, k1, k2, k3⟩ := h2 p g1
      rw [g3] at k2
      obtain rfl := (nI_eq (by omega) (by omega)).mp k2
      exact absurd h0 k3
  · obtain ⟨p, g1, g2⟩ := h3 l hl h0
    refine ⟨p, g1, g2, rpg_at g1 g2 fun t ht e => ?_⟩
    have := h4 t p (by omega) g1 (by rw [e, g2])
    omega
/-- what a set of sharers tells -/
def shB (b : Nat → Bool) : Int32 := pG (fun c a => if b c = true then a ||| ((nI 1) <<< (nI c &&& 31)) else a) 6 0 (nI 0)
theorem shF_B (k : Nat → Int32) : shF k 6 = shB (fun c => decide (k c = nI 1)) := by
  unfold shF shB
  exact pG_congr fun j _ _ a => by
    by_cases h : k j = nI 1
    · rw [if_pos h, if_pos (decide_eq_true h)]
    · rw [if_neg h, if_neg (fun e => h (of_decide_eq_true e))]
def bN (b : Bool) : Nat := if b then 1 else 0
def six (b0 b1 b2 b3 b4 b5 : Bool) : Nat → Bool
  | 0 => b0
  | 1 => b1
  | 2 => b2
  | 3 => b3
  | 4 => b4
  | 5 => b5
  | _ => false
theorem shB_six (b : Nat → Bool) : shB b = shB (six (b 0) (b 1) (b 2) (b 3) (b 4) (b 5)) := by
  unfold shB
  exact pG_congr fun j _ hj a => by
    rcases (show j = 0 ∨ j = 1 ∨ j = 2 ∨ j = 3 ∨ j = 4 ∨ j = 5 by omega) with rfl | rfl | rfl | rfl | rfl | rfl <;> rfl
theorem sh_zero6 : ∀ b0 b1 b2 b3 b4 b5 : Bool, shB (six b0 b1 b2 b3 b4 b5) = 0 ↔ (b0 = false ∧ b1 = false ∧ b2 = false ∧ b3 = false ∧ b4 = false ∧ b5 = false) := by decide +kernel
theorem sh_zero (k : Nat → Int32) : shF k 6 = 0 ↔ ∀ c, c < 6 → k c ≠ nI 1 := by
  rw [shF_B, shB_six, sh_zero6]
  simp only [decide_eq_false_iff_not]
  refine ⟨fun ⟨h0, h1, h2, h3, h4, h5⟩ c hc => ?_, fun h => ⟨h 0 (by omega), h 1 (by omega), h 2 (by omega), h 3 (by omega), h 4 (by omega), h 5 (by omega)⟩⟩
  rcases (show c = 0 ∨ c = 1 ∨ c = 2 ∨ c = 3 ∨ c = 4 ∨ c = 5 by omega) with rfl | rfl | rfl | rfl | rfl | rfl <;> assumption
theorem ones6 : ∀ b0 b1 b2 b3 b4 b5 : Bool, fX9_ones (shB (six b0 b1 b2 b3 b4 b5)) z0 = some (nI (bN b0 + bN b1 + bN b2 + bN b3 + bN b4 + bN b5)) := by decide +kernel
theorem bits6 : ∀ c, c < 6 → ∀ b0 b1 b2 b3 b4 b5 : Bool, fJ6_bitCount_0f7a4 (shB (six b0 b1 b2 b3 b4 b5) &&& (((nI 1) <<< (nI c &&& 31)) ^^^ (-1))) z0 = some (nI ((if c = 0 then 0 else bN b0) + (if c = 1 then 0 else bN b1) + (if c = 2 then 0 else bN b2) + (if c = 3 then 0 else bN b3) + (if c = 4 then 0 else bN b4) + (if c = 5 then 0 else bN b5))) := by decide +kernel
