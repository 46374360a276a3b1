/-! the class's small methods in closed form -/
def oI : Option Nat → Int32
  | some k => nI k
  | none => -1
theorem oI_some (k : Nat) : oI (some k) = nI k := rfl
theorem oI_none : oI none = -1 := rfl
theorem qx_kindOf {τ : zSt} {c l : Nat} (hc : c < 6) (hl : l < 32) : fX0_kindOf (nI c) (nI l) τ = some (τ 2 (c * 32 + l)) := by
  unfold fX0_kindOf
  rw [p_mul, nI_add, p_ag (by omega) (by omega)]
  rfl
theorem qx_valueOf {τ : zSt} {c l : Nat} (hc : c < 6) (hl : l < 32) : fX0_valueOf (nI c) (nI l) τ = some (τ 3 (c * 32 + l)) := by
  unfold fX0_valueOf
  rw [p_mul, nI_add, p_ag (by omega) (by omega)]
  rfl
theorem qx_ownerOf_l {τ : zSt} {l : Nat} (hl : l < 32) : ∀ (r c n : Nat), c + r = 6 → r < n → fX0_ownerOf_l2 τ (some (-1)) n (nI l) (nI c) = some (oI (pF (fun c => τ 2 (c * 32 + l) = nI 2) r c)) := by
  intro r
  induction r with
  | zero =>
    intro c n hc hn
    obtain ⟨n, rfl⟩ : ∃ k, n = k + 1 := ⟨n - 1, by omega⟩
    rw [fX0_ownerOf_l2, if_pos (nI_le (by omega) (by omega))]
    rfl
  | succ r ih =>
    intro c n hc hn
    obtain ⟨n, rfl⟩ : ∃ k, n = k + 1 := ⟨n - 1, by omega⟩
    rw [fX0_ownerOf_l2, if_neg (nI_ge (by omega) (by omega)), p_mul, nI_add, p_ag (by omega) (by omega), Option.bind_some, pF]
    by_cases h : τ 2 (c * 32 + l) = nI 2
    · rw [if_pos h, if_pos h]
      rfl
    · rw [if_neg h, if_neg h, nI_add, ih (c + 1) n (by omega) (by omega)]
theorem qx_ownerOf {τ : zSt} {l : Nat} (hl : l < 32) : fX0_ownerOf (nI l) τ = some (oI (pF (fun c => τ 2 (c * 32 + l) = nI 2) 6 0)) := qx_ownerOf_l hl 6 0 z_fu rfl (by decide)
def shF (k : Nat → Int32) (n : Nat) : Int32 := pG (fun c a => if k c = nI 1 then a ||| ((nI 1) <<< (nI c &&& 31)) else a) n 0 (nI 0)
theorem qx_sharersOf_l {τ : zSt} {l : Nat} (hl : l < 32) : ∀ (r c n : Nat) (a : Int32), c + r = 6 → r < n → fX0_sharersOf_l4 τ (fun x2 => some x2) n (nI l) a (nI c) = some (pG (fun c a => if τ 2 (c * 32 + l) = nI 1 then a ||| ((nI 1) <<< (nI c &&& 31)) else a) r c a) := by
  intro r
  induction r with
  | zero =>
    intro c n a hc hn
    obtain ⟨n, rfl⟩ : ∃ k, n = k + 1 := ⟨n - 1, by omega⟩
    rw [fX0_sharersOf_l4, if_pos (nI_le (by omega) (by omega))]
    rfl
  | succ r ih =>
    intro c n a hc hn
    obtain ⟨n, rfl⟩ : ∃ k, n = k + 1 := ⟨n - 1, by omega⟩
    rw [fX0_sharersOf_l4, if_neg (nI_ge (by omega) (by omega)), p_mul, nI_add, p_ag (by omega) (by omega), Option.bind_some, pG]
    by_cases h : τ 2 (c * 32 + l) = nI 1
    · rw [if_pos h, if_pos h, nI_add, ih (c + 1) n _ (by omega) (by omega)]
    · rw [if_neg h, if_neg h, nI_add, ih (c + 1) n _ (by omega) (by omega)]
theorem qx_sharersOf {τ : zSt} {l : Nat} (hl : l < 32) : fX0_sharersOf (nI l) τ = some (shF (fun c => τ 2 (c * 32 + l)) 6) := qx_sharersOf_l hl 6 0 z_fu (nI 0) rfl (by decide)
theorem qx_countOf_l {τ : zSt} {l : Nat} (hl : l < 32) : ∀ (r c n a : Nat), c + r = 6 → r < n → fX0_countOf_l4 τ (fun x2 => some x2) n (nI l) (nI a) (nI c) = some (nI (a + pS (fun c => if τ 2 (c * 32 + l) = 0 then 0 else 1) r c)) := by
  intro r
  induction r with
  | zero =>
    intro c n a hc hn
    obtain ⟨n, rfl⟩ : ∃ k, n = k + 1 := ⟨n - 1, by omega⟩
    rw [fX0_countOf_l4, if_pos (nI_le (by omega) (by omega))]
    rfl
  | succ r ih =>
    intro c n a hc hn
    obtain ⟨n, rfl⟩ : ∃ k, n = k + 1 := ⟨n - 1, by omega⟩
    rw [fX0_countOf_l4, if_neg (nI_ge (by omega) (by omega)), p_mul, nI_add, p_ag (by omega) (by omega), Option.bind_some, pS]
    by_cases h : τ 2 (c * 32 + l) = 0
    · rw [if_pos h, if_pos h, nI_add, ih (c + 1) n a (by omega) (by omega), Nat.zero_add]
    · rw [if_neg h, if_neg h, nI_add, nI_add, ih (c + 1) n (a + 1) (by omega) (by omega), Nat.add_assoc]
theorem qx_countOf {τ : zSt} {l : Nat} (hl : l < 32) : fX0_countOf (nI l) τ = some (nI (pS (fun c => if τ 2 (c * 32 + l) = 0 then 0 else 1) 6 0)) := by
  have h := qx_countOf_l (τ := τ) hl 6 0 z_fu 0 rfl (by decide)
  rw [Nat.zero_add] at h
  exact h
theorem qx_usedLater_l {τ : zSt} {c : Nat} {u : Int32} (hc : c < 6) : ∀ (r l n a : Nat), l + r = 32 → r < n → fX0_usedLater_l18 τ (fun x4 => some x4) n (nI c) u (nI a) (nI l) = some (nI (a + pS (fun l => if τ 2 (c * 32 + l) = 0 then 0 else if τ 5 (c * 32 + l) ≤ u then 0 else 1) r l)) := by
  intro r
  induction r with
  | zero =>
    intro l n a hc hn
    obtain ⟨n, rfl⟩ : ∃ k, n = k + 1 := ⟨n - 1, by omega⟩
    rw [fX0_usedLater_l18, if_pos (nI_le (by omega) (by omega))]
    rfl
  | succ r ih =>
    intro l n a hl hn
    obtain ⟨n, rfl⟩ : ∃ k, n = k + 1 := ⟨n - 1, by omega⟩
    rw [fX0_usedLater_l18, if_neg (nI_ge (by omega) (by omega)), p_mul, nI_add, p_ag (by omega) (by omega), p_ag (by omega) (by omega), Option.bind_some, Option.bind_some, pS]
    by_cases h : τ 2 (c * 32 + l) = 0
    · rw [if_pos h, if_pos h, nI_add, ih (l + 1) n a (by omega) (by omega), Nat.zero_add]
    · rw [if_neg h, if_neg h]
      by_cases h2 : τ 5 (c * 32 + l) ≤ u
      · rw [if_pos h2, if_pos h2, nI_add, ih (l + 1) n a (by omega) (by omega), Nat.zero_add]
      · rw [if_neg h2, if_neg h2, nI_add, nI_add, ih (l + 1) n (a + 1) (by omega) (by omega), Nat.add_assoc]
theorem qx_usedLater {τ : zSt} {c l : Nat} (hc : c < 6) (hl : l < 32) : fX0_usedLater (nI c) (nI l) τ = some (nI (pS (fun j => if τ 2 (c * 32 + j) = 0 then 0 else if τ 5 (c * 32 + j) ≤ τ 5 (c * 32 + l) then 0 else 1) 32 0)) := by
  unfold fX0_usedLater
  rw [p_mul, nI_add, p_ag (by omega) (by omega), Option.bind_some]
  have h := qx_usedLater_l (τ := τ) (u := τ 5 (c * 32 + l)) hc 32 0 z_fu 0 rfl (by decide)
  rw [Nat.zero_add] at h
  exact h
/-- the set of taken slots, bit by bit -/
theorem qx_free1 {τ : zSt} {c : Nat} (hc : c < 6) (hs : ∀ l, l < 32 → τ 2 (c * 32 + l) ≠ 0 → ∃ s, s < 8 ∧ τ 4 (c * 32 + l) = nI s) (K : Int32 → Int32 → Option Int32) (y2 : Int32) : ∀ (r l n : Nat) (a : Int32), l + r = 32 → r < n → ∃ x, fX0_freeSlot_l5 τ K n (nI c) y2 a (nI l) = K y2 x ∧ ∀ i, i < 32 → (bt x i = true ↔ bt a i = true ∨ ∃ j, l ≤ j ∧ j < 32 ∧ τ 2 (c * 32 + j) ≠ 0 ∧ τ 4 (c * 32 + j) = nI i) := by
  intro r
  induction r with
  | zero =>
    intro l n a hl hn
    obtain ⟨n, rfl⟩ : ∃ k, n = k + 1 := ⟨n - 1, by omega⟩
    rw [fX0_freeSlot_l5, if_pos (nI_le (by omega) (by omega))]
    exact ⟨a, rfl, fun i hi => ⟨fun h => Or.inl h, fun h => h.elim id (fun ⟨j, h1, h2, _⟩ => by omega)⟩⟩
  | succ r ih =>
    intro l n a hl hn
    obtain ⟨n, rfl⟩ : ∃ k, n = k + 1 := ⟨n - 1, by omega⟩
    rw [fX0_freeSlot_l5, if_neg (nI_ge (by omega) (by omega)), p_mul, nI_add, p_ag (by omega) (by omega), Option.bind_some, p_ag (by omega) (by omega), Option.bind_some]
    by_cases h : τ 2 (c * 32 + l) = 0
    · rw [if_pos h, nI_add]
      obtain ⟨x, h1, h2⟩ := ih (l + 1) n a (by omega) (by omega)
      refine ⟨x, h1, fun i hi => (h2 i hi).trans ⟨fun g => g.elim Or.inl (fun ⟨j, g1, g2⟩ => Or.inr ⟨j, by omega, g2⟩), fun g => g.elim Or.inl (fun ⟨j, g1, g2, g3, g4⟩ => Or.inr ⟨j, ?_, g2, g3, g4⟩)⟩⟩
      by_cases e : j = l
      · rw [e] at g3
        exact absurd h g3
      · omega
    · rw [if_neg h, nI_add]
      obtain ⟨s, hs1, hs2⟩ := hs l (by omega) h
      rw [hs2]
      obtain ⟨x, h1, h2⟩ := ih (l + 1) n (a ||| ((nI 1) <<< (nI s &&& 31))) (by omega) (by omega)
      refine ⟨x, h1, fun i hi => (h2 i hi).trans ?_⟩
      rw [b_set a (by omega) hi, Bool.or_eq_true, decide_eq_true_iff]
      refine ⟨fun g => ?_, fun g => ?_⟩
      · rcases g with (g | g) | ⟨j, g1, g2⟩
        · exact Or.inl g
        · exact Or.inr ⟨l, Nat.le_refl _, by omega, h, by rw [hs2, g]⟩
        · exact Or.inr ⟨j, by omega, g2⟩
      · rcases g with g | ⟨j, g1, g2, g3, g4⟩
        · exact Or.inl (Or.inl g)
        · by_cases e : j = l
          · rw [e, hs2] at g4
            exact Or.inl (Or.inr ((nI_eq (by omega) (by omega)).mp g4).symm)
          · exact Or.inr ⟨j, by omega, g2, g3, g4⟩
theorem qx_free2 {τ : zSt} {S : Nat} {x : Int32} (hS : S ≤ 8) : ∀ (r f n : Nat), f + r = S → r < n → fX0_freeSlot_l53 τ (some (-1)) n (nI S) x (nI f) = some (oI (pF (fun f => bt x f = false) r f)) := by
  intro r
  induction r with
  | zero =>
    intro f n hf hn
    obtain ⟨n, rfl⟩ : ∃ k, n = k + 1 := ⟨n - 1, by omega⟩
    rw [fX0_freeSlot_l53, if_pos (nI_le (by omega) (by omega))]
    rfl
  | succ r ih =>
    intro f n hf hn
    obtain ⟨n, rfl⟩ : ∃ k, n = k + 1 := ⟨n - 1, by omega⟩
    rw [fX0_freeSlot_l53, if_neg (nI_ge (by omega) (by omega)), pF]
    by_cases h : bt x f = false
    · rw [if_pos ((b_test x (by omega)).mpr h), if_pos h]
      rfl
    · rw [if_neg (mt (b_test x (by omega)).mp h), if_neg h, nI_add, ih (f + 1) n (by omega) (by omega)]
/-- slot f of cache c holds no copy -/
def isFr (τ : zSt) (c f : Nat) : Prop := ∀ l, l < 32 → τ 2 (c * 32 + l) ≠ 0 → τ 4 (c * 32 + l) ≠ nI f
theorem qx_freeSlot {τ : zSt} {c S : Nat} (hc : c < 6) (hS : S ≤ 8) (hs : ∀ l, l < 32 → τ 2 (c * 32 + l) ≠ 0 → ∃ s, s < 8 ∧ τ 4 (c * 32 + l) = nI s) : ∃ r, fX0_freeSlot (nI c) (nI S) τ = some (oI r) ∧ (r = none → ∀ f, f < S → ¬ isFr τ c f) ∧ ∀ f, r = some f → f < S ∧ isFr τ c f ∧ ∀ g, g < f → ¬ isFr τ c g := by
  unfold fX0_freeSlot
  obtain ⟨x, h1, h2⟩ := qx_free1 hc hs (fun x3 x4 => fX0_freeSlot_l53 τ (some (-1)) z_fu x3 x4 (nI 0)) (nI S) 32 0 z_fu (nI 0) rfl (by decide)
  have key : ∀ f, f < 8 → (bt x f = false ↔ isFr τ c f) := fun f hf => by
    have h3 := h2 f (by omega)
    rw [show nI 0 = 0 from nI_0, b_0] at h3
    refine ⟨fun g l hl hk e => ?_, fun g => ?_⟩
    · have := h3.mpr (Or.inr ⟨l, by omega, hl, hk, e⟩)
      rw [g] at this
      cases this
    · cases hb : bt x f with
      | false => rfl
      | true =>
        rcases h3.mp hb with h4 | ⟨l, -, hl, hk, e⟩
        · cases h4
        · exact absurd e (g l hl hk)
  refine ⟨pF (fun f => bt x f = false) S 0, ?_, fun h f hf => ?_, fun f h => ?_⟩
  · rw [h1]
    exact qx_free2 hS S 0 z_fu (by omega) (Nat.lt_of_le_of_lt hS (by decide))
  · exact fun g => pF_none.mp h f (by omega) (by omega) ((key f (by omega)).mpr g)
  · obtain ⟨g1, g2, g3, g4⟩ := pF_some h
    exact ⟨by omega, (key f (by omega)).mp g3, fun g hg hfr => g4 g (by omega) hg ((key g (by omega)).mpr hfr)⟩
theorem qx_least_l {τ : zSt} {c : Nat} (hc : c < 6) : ∀ (r l n : Nat) (o : Option Nat) (u : Int32), l + r = 32 → r < n → (o = none → ∀ j, j < l → τ 2 (c * 32 + j) = 0) → (∀ m, o = some m → m < l ∧ τ 2 (c * 32 + m) ≠ 0 ∧ u = τ 5 (c * 32 + m) ∧ ∀ j, j < l → τ 2 (c * 32 + j) ≠ 0 → τ 5 (c * 32 + m) ≤ τ 5 (c * 32 + j)) →
    ∃ o', fX0_leastUsed_l7 τ (fun x4 => some x4) n (nI c) (oI o) u (nI l) = some (oI o') ∧ (o' = none → ∀ j, j < 32 → τ 2 (c * 32 + j) = 0) ∧ ∀ m, o' = some m → m < 32 ∧ τ 2 (c * 32 + m) ≠ 0 ∧ ∀ j, j < 32 → τ 2 (c * 32 + j) ≠ 0 → τ 5 (c * 32 + m) ≤ τ 5 (c * 32 + j) := by
  intro r
  induction r with
  | zero =>
    intro l n o u hl hn h1 h2
    obtain ⟨n, rfl⟩ : ∃ k, n = k + 1 := ⟨n - 1, by omega⟩
    obtain rfl : l = 32 := by omega
    rw [fX0_leastUsed_l7, if_pos (nI_le (by omega) (by omega))]
    exact ⟨o, rfl, h1, fun m hm => ⟨(h2 m hm).1, (h2 m hm).2.1, (h2 m hm).2.2.2⟩⟩
  | succ r ih =>
    intro l n o u hl hn h1 h2
    obtain ⟨n, rfl⟩ : ∃ k, n = k + 1 := ⟨n - 1, by omega⟩
    rw [fX0_leastUsed_l7, if_neg (nI_ge (by omega) (by omega)), p_mul, nI_add, p_ag (by omega) (by omega), Option.bind_some, p_ag (by omega) (by omega), Option.bind_some]
    unfold fX0_leastUsed_j49
    rw [p_ag (by omega) (by omega), Option.bind_some, nI_add]
    by_cases hk : τ 2 (c * 32 + l) = 0
    · rw [if_pos hk]
      refine ih (l + 1) n o u (by omega) (by omega) (fun h j hj => ?_) (fun m hm => ?_)
      · by_cases e : j = l
        · rw [e]; exact hk
        · exact h1 h j (by omega)
      · obtain ⟨g1, g2, g3, g4⟩ := h2 m hm
        refine ⟨by omega, g2, g3, fun j hj hkj => ?_⟩
        by_cases e : j = l
        · rw [e] at hkj
          exact absurd hk hkj
        · exact g4 j (by omega) hkj
    · rw [if_neg hk]
      have hnew : ∀ (o : Option Nat) (u : Int32), (∀ j, j < l → τ 2 (c * 32 + j) ≠ 0 → τ 5 (c * 32 + l) ≤ τ 5 (c * 32 + j)) → ∃ o', fX0_leastUsed_l7 τ (fun x4 => some x4) n (nI c) (nI l) (τ 5 (c * 32 + l)) (nI (l + 1)) = some (oI o') ∧ (o' = none → ∀ j, j < 32 → τ 2 (c * 32 + j) = 0) ∧ ∀ m, o' = some m → m < 32 ∧ τ 2 (c * 32 + m) ≠ 0 ∧ ∀ j, j < 32 → τ 2 (c * 32 + j) ≠ 0 → τ 5 (c * 32 + m) ≤ τ 5 (c * 32 + j) := by
        intro o u hmin
        refine ih (l + 1) n (some l) _ (by omega) (by omega) (fun h => by cases h) (fun m hm => ?_)
        obtain rfl := Option.some.inj hm
        refine ⟨by omega, hk, rfl, fun j hj hkj => ?_⟩
        by_cases e : j = l
        · rw [e]; exact Int32.le_refl _
        · exact hmin j (by omega) hkj
      cases o with
      | none =>
        rw [oI_none, if_pos rfl]
        exact hnew none u fun j hj hkj => absurd (h1 rfl j hj) hkj
      | some m =>
        obtain ⟨g1, g2, g3, g4⟩ := h2 m rfl
        rw [oI_some, if_neg (p_nneg (by omega))]
        by_cases h3 : u ≤ τ 5 (c * 32 + l)
        · rw [if_pos h3]
          refine ih (l + 1) n (some m) u (by omega) (by omega) (fun h => by cases h) (fun m' hm => ?_)
          obtain rfl := Option.some.inj hm
          refine ⟨by omega, g2, g3, fun j hj hkj => ?_⟩
          by_cases e : j = l
          · rw [e, ← g3]; exact h3
          · exact g4 j (by omega) hkj
        · rw [if_neg h3]
          refine hnew none u fun j hj hkj => ?_
          have h5 := g4 j hj hkj
          rw [← g3] at h5
          have h6 : τ 5 (c * 32 + l) ≤ u := Int32.le_of_lt (Int32.not_le.mp h3)
          exact Int32.le_trans h6 h5
theorem qx_leastUsed {τ : zSt} {c : Nat} (hc : c < 6) : ∃ o, fX0_leastUsed (nI c) τ = some (oI o) ∧ (o = none → ∀ j, j < 32 → τ 2 (c * 32 + j) = 0) ∧ ∀ m, o = some m → m < 32 ∧ τ 2 (c * 32 + m) ≠ 0 ∧ ∀ j, j < 32 → τ 2 (c * 32 + j) ≠ 0 → τ 5 (c * 32 + m) ≤ τ 5 (c * 32 + j) :=
  qx_least_l hc 32 0 z_fu none (nI 0) rfl (by decide) (fun _ j hj => by omega) (fun m hm => by cases hm)
theorem qx_hasPage {τ : zSt} {l : Nat} (hl : l < 32) : fX1_hasPage (nI l) τ = some (if τ 6 l ≤ 0 then nI 0 else nI 1) := by
  unfold fX1_hasPage
  rw [p_ag (by omega) (by omega), Option.bind_some]
  split <;> rfl
theorem qx_isMarked {τ : zSt} {l : Nat} (hl : l < 32) : fX1_isMarked (nI l) τ = some (if bt (τ 13 0) l = true then nI 1 else nI 0) := by
  unfold fX1_isMarked
  cases h : bt (τ 13 0) l with
  | false => rw [if_pos ((b_test _ hl).mpr h), if_neg (by decide)]; rfl
  | true => rw [if_neg (fun e => by have := (b_test _ hl).mp e; rw [h] at this; cases this), if_pos rfl]; rfl
theorem qx_tear_l {τ : zSt} : ∀ (r l n : Nat) (o : Option Nat) (u : Int32), l + r = 32 → r < n → (o = none → ∀ j, j < l → τ 6 j ≤ 0) → (∀ m, o = some m → m < l ∧ ¬ τ 6 m ≤ 0 ∧ u = τ 6 m ∧ ∀ j, j < l → ¬ τ 6 j ≤ 0 → τ 6 m ≤ τ 6 j) →
    ∃ o', fX1_lineToTear_l19 τ (fun x4 => some x4) n (oI o) u (nI l) = some (oI o') ∧ (o' = none → ∀ j, j < 32 → τ 6 j ≤ 0) ∧ ∀ m, o' = some m → m < 32 ∧ ¬ τ 6 m ≤ 0 ∧ ∀ j, j < 32 → ¬ τ 6 j ≤ 0 → τ 6 m ≤ τ 6 j := by
  intro r
  induction r with
  | zero =>
    intro l n o u hl hn h1 h2
    obtain ⟨n, rfl⟩ : ∃ k, n = k + 1 := ⟨n - 1, by omega⟩
    obtain rfl : l = 32 := by omega
    rw [fX1_lineToTear_l19, if_pos (nI_le (by omega) (by omega))]
    exact ⟨o, rfl, h1, fun m hm => ⟨(h2 m hm).1, (h2 m hm).2.1, (h2 m hm).2.2.2⟩⟩
  | succ r ih =>
    intro l n o u hl hn h1 h2
    obtain ⟨n, rfl⟩ : ∃ k, n = k + 1 := ⟨n - 1, by omega⟩
    rw [fX1_lineToTear_l19, if_neg (nI_ge (by omega) (by omega)), p_ag (by omega) (by omega), Option.bind_some, Option.bind_some]
    unfold fX1_lineToTear_j49
    rw [p_ag (by omega) (by omega), Option.bind_some, nI_add]
    by_cases hk : τ 6 l ≤ 0
    · rw [if_pos hk]
      refine ih (l + 1) n o u (by omega) (by omega) (fun h j hj => ?_) (fun m hm => ?_)
      · by_cases e : j = l
        · rw [e]; exact hk
        · exact h1 h j (by omega)
      · obtain ⟨g1, g2, g3, g4⟩ := h2 m hm
        refine ⟨by omega, g2, g3, fun j hj hkj => ?_⟩
        by_cases e : j = l
        · rw [e] at hkj
          exact absurd hk hkj
        · exact g4 j (by omega) hkj
    · rw [if_neg hk]
      have hnew : (∀ j, j < l → ¬ τ 6 j ≤ 0 → τ 6 l ≤ τ 6 j) → ∃ o', fX1_lineToTear_l19 τ (fun x4 => some x4) n (nI l) (τ 6 l) (nI (l + 1)) = some (oI o') ∧ (o' = none → ∀ j, j < 32 → τ 6 j ≤ 0) ∧ ∀ m, o' = some m → m < 32 ∧ ¬ τ 6 m ≤ 0 ∧ ∀ j, j < 32 → ¬ τ 6 j ≤ 0 → τ 6 m ≤ τ 6 j := by
        intro hmin
        refine ih (l + 1) n (some l) _ (by omega) (by omega) (fun h => by cases h) (fun m hm => ?_)
        obtain rfl := Option.some.inj hm
        refine ⟨by omega, hk, rfl, fun j hj hkj => ?_⟩
        by_cases e : j = l
        · rw [e]; exact Int32.le_refl _
        · exact hmin j (by omega) hkj
      cases o with
      | none =>
        rw [oI_none, if_pos rfl]
        exact hnew fun j hj hkj => absurd (h1 rfl j hj) hkj
      | some m =>
        obtain ⟨g1, g2, g3, g4⟩ := h2 m rfl
        rw [oI_some, if_neg (p_nneg (by omega))]
        by_cases h3 : u ≤ τ 6 l
        · rw [if_pos h3]
          refine ih (l + 1) n (some m) u (by omega) (by omega) (fun h => by cases h) (fun m' hm => ?_)
          obtain rfl := Option.some.inj hm
          refine ⟨by omega, g2, g3, fun j hj hkj => ?_⟩
          by_cases e : j = l
          · rw [e, ← g3]; exact h3
          · exact g4 j (by omega) hkj
        · rw [if_neg h3]
          refine hnew fun j hj hkj => ?_
          have h5 := g4 j hj hkj
          rw [← g3] at h5
          exact Int32.le_trans (Int32.le_of_lt (Int32.not_le.mp h3)) h5
theorem qx_lineToTear {τ : zSt} (h : τ 14 0 ≤ τ 15 0) : ∃ o, fX1_lineToTear τ = some (oI o) ∧ (o = none → ∀ j, j < 32 → τ 6 j ≤ 0) ∧ ∀ m, o = some m → m < 32 ∧ ¬ τ 6 m ≤ 0 ∧ ∀ j, j < 32 → ¬ τ 6 j ≤ 0 → τ 6 m ≤ τ 6 j := by
  unfold fX1_lineToTear
  rw [if_pos h]
  exact qx_tear_l 32 0 z_fu none (nI 0) rfl (by decide) (fun _ j hj => by omega) (fun m hm => by cases hm)
theorem qx_lineToTear0 {τ : zSt} (h : ¬ τ 14 0 ≤ τ 15 0) : fX1_lineToTear τ = some (-1) := by
  unfold fX1_lineToTear
  rw [if_neg h]
theorem qx_count_l {τ : zSt} : ∀ (r c n a : Nat), c + r = 6 → r < n → fX7_count_l4 τ (fun x2 => some x2) n (nI a) (nI c) = some (nI (a + pS (fun c => if τ 7 c = -1 then 0 else 1) r c)) := by
  intro r
  induction r with
  | zero =>
    intro c n a hc hn
    obtain ⟨n, rfl⟩ : ∃ k, n = k + 1 := ⟨n - 1, by omega⟩
    rw [fX7_count_l4, if_pos (nI_le (by omega) (by omega))]
    rfl
  | succ r ih =>
    intro c n a hc hn
    obtain ⟨n, rfl⟩ : ∃ k, n = k + 1 := ⟨n - 1, by omega⟩
    rw [fX7_count_l4, if_neg (nI_ge (by omega) (by omega)), p_ag (by omega) (by omega), Option.bind_some, pS]
    by_cases h : τ 7 c = -1
    · rw [if_pos h, if_pos h, nI_add, ih (c + 1) n a (by omega) (by omega), Nat.zero_add]
    · rw [if_neg h, if_neg h, nI_add, nI_add, ih (c + 1) n (a + 1) (by omega) (by omega), Nat.add_assoc]
theorem qx_count {τ : zSt} : fX7_count τ = some (nI (pS (fun c => if τ 7 c = -1 then 0 else 1) 6 0)) := by
  have h := qx_count_l (τ := τ) 6 0 z_fu 0 rfl (by decide)
  rw [Nat.zero_add] at h
  exact h
