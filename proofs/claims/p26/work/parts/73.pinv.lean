/-! what holds of a machine of the class, and what keeps it -/
def pgs (τ : zSt) : Nat := pS (fun l => if τ 6 l = 0 then 0 else 1) 32 0
def iScal (n S R P : Nat) (τ : zSt) : Prop := (2 ≤ n ∧ n ≤ 6 ∧ 1 ≤ S ∧ S ≤ 8 ∧ 1 ≤ R ∧ R ≤ 16 ∧ P ≤ R) ∧ τ 19 0 = nI n ∧ τ 20 0 = nI S ∧ τ 14 0 = nI R ∧ τ 15 0 = nI P ∧ P = pgs τ
/-- a copy's cache, line, kind, value, slot, and (X aside) its use -/
def iCop (n S U : Nat) (X : Nat → Nat → Prop) (τ : zSt) : Prop := ∀ c l, c < 6 → l < 32 → τ 2 (c * 32 + l) = 0 ∨ (c < n ∧ l < 9 ∧ (τ 2 (c * 32 + l) = nI 1 ∨ τ 2 (c * 32 + l) = nI 2) ∧ τ 3 (c * 32 + l) = τ 1 l ∧ (∃ s, s < S ∧ τ 4 (c * 32 + l) = nI s) ∧ (¬ X c l → ∃ a, a ≤ U ∧ τ 5 (c * 32 + l) = nI a))
def iOne (τ : zSt) : Prop := ∀ c d l, c < 6 → d < 6 → l < 32 → τ 2 (c * 32 + l) = nI 2 → τ 2 (d * 32 + l) ≠ 0 → c = d
def iSlo (τ : zSt) : Prop := ∀ c l k, c < 6 → l < 32 → k < 32 → τ 2 (c * 32 + l) ≠ 0 → τ 2 (c * 32 + k) ≠ 0 → τ 4 (c * 32 + l) = τ 4 (c * 32 + k) → l = k
def iUse (X : Nat → Nat → Prop) (τ : zSt) : Prop := ∀ c l k, c < 6 → l < 32 → k < 32 → τ 2 (c * 32 + l) ≠ 0 → τ 2 (c * 32 + k) ≠ 0 → ¬ X c l → ¬ X c k → τ 5 (c * 32 + l) = τ 5 (c * 32 + k) → l = k
def iPag (D : Nat) (τ : zSt) : Prop := ∀ l, l < 32 → τ 6 l = 0 ∨ (l < 9 ∧ ∃ d, 1 ≤ d ∧ d ≤ D ∧ τ 6 l = nI d)
def iMem (τ : zSt) : Prop := ∀ l, l < 32 → (∀ c, c < 6 → τ 2 (c * 32 + l) ≠ nI 2) → τ 0 l = τ 1 l
def iMrk (τ : zSt) : Prop := ∀ l, l < 32 → (τ 6 l ≠ 0 → bt (τ 13 0) l = false) ∧ (τ 6 l = 0 → bt (τ 13 0) l = false → ∀ c, c < 6 → τ 2 (c * 32 + l) = 0)
def iCnt (U D : Nat) (τ : zSt) : Prop := τ 11 0 = nI U ∧ U ≤ 100000 ∧ τ 12 0 = nI D ∧ D ≤ 100000
def pInv (n S R P U D : Nat) (X : Nat → Nat → Prop) (τ : zSt) : Prop := iScal n S R P τ ∧ iCop n S U X τ ∧ iOne τ ∧ iSlo τ ∧ iUse X τ ∧ iPag D τ ∧ iMem τ ∧ iMrk τ ∧ iCnt U D τ
def noX : Nat → Nat → Prop := fun _ _ => False
def atX (c l : Nat) : Nat → Nat → Prop := fun a b => a = c ∧ b = l
theorem pInv_rows {n S R P U D : Nat} {X : Nat → Nat → Prop} {τ τ' : zSt} (h : pInv n S R P U D X τ) (e : ∀ i, i ≠ 7 → i ≠ 8 → i ≠ 9 → i ≠ 10 → i ≠ 16 → i ≠ 17 → i ≠ 18 → i ≠ 21 → i ≠ 22 → i ≠ 23 → i ≠ 24 → i ≠ 25 → i ≠ 26 → τ' i = τ i) : pInv n S R P U D X τ' := by
  have q : ∀ i, i = 0 ∨ i = 1 ∨ i = 2 ∨ i = 3 ∨ i = 4 ∨ i = 5 ∨ i = 6 ∨ i = 11 ∨ i = 12 ∨ i = 13 ∨ i = 14 ∨ i = 15 ∨ i = 19 ∨ i = 20 → τ' i = τ i := fun i hi => e i (by omega) (by omega) (by omega) (by omega) (by omega) (by omega) (by omega) (by omega) (by omega) (by omega) (by omega) (by omega) (by omega)
  unfold pInv iScal iCop iOne iSlo iUse iPag iMem iMrk iCnt pgs
  rw [q 0 (by omega), q 1 (by omega), q 2 (by omega), q 3 (by omega), q 4 (by omega), q 5 (by omega), q 6 (by omega), q 11 (by omega), q 12 (by omega), q 13 (by omega), q 14 (by omega), q 15 (by omega), q 19 (by omega), q 20 (by omega)]
  exact h
theorem pInv_X {n S R P U D : Nat} {X X' : Nat → Nat → Prop} {τ : zSt} (h : pInv n S R P U D X τ) (hX : ∀ c l, X c l → X' c l) : pInv n S R P U D X' τ := by
  obtain ⟨hS, hC, hO, hL, hU, hP, hM, hK, hN⟩ := h
  refine ⟨hS, fun c l hc hl => ?_, hO, hL, fun c l k hc hl hk z1 z2 x1 x2 => hU c l k hc hl hk z1 z2 (fun z => x1 (hX _ _ z)) (fun z => x2 (hX _ _ z)), hP, hM, hK, hN⟩
  rcases hC c l hc hl with z | ⟨z1, z2, z3, z4, z5, z6⟩
  · exact Or.inl z
  · exact Or.inr ⟨z1, z2, z3, z4, z5, fun x => z6 fun y => x (hX _ _ y)⟩
theorem pS_one {f g : Nat → Nat} {l : Nat} (he : ∀ j, j ≠ l → f j = g j) : ∀ {r k : Nat}, k ≤ l → l < k + r → pS f r k + g l = pS g r k + f l := by
  intro r
  induction r with
  | zero => intro k h1 h2; omega
  | succ r ih =>
    intro k h1 h2
    show f k + pS f r (k + 1) + g l = g k + pS g r (k + 1) + f l
    by_cases e : k = l
    · rw [e, pS_congr (f := f) (g := g) (fun j h3 _ => he j (by omega))]
      omega
    · have := ih (k := k + 1) (by omega) (by omega)
      rw [he k e]
      omega
theorem pgs_upd {τ τ' : zSt} {l : Nat} {x : Int32} (hl : l < 32) (e : τ' 6 = upd (τ 6) l x) : pgs τ + (if x = 0 then 0 else 1) = pgs τ' + (if τ 6 l = 0 then 0 else 1) := by
  have := pS_one (f := fun j => if τ 6 j = 0 then 0 else 1) (g := fun j => if τ' 6 j = 0 then 0 else 1) (l := l) (fun j hj => by
    show (if τ 6 j = 0 then 0 else 1) = (if τ' 6 j = 0 then 0 else 1)
    rw [e, p_upn hj]) (r := 32) (k := 0) (by omega) (by omega)
  have h2 : (if τ' 6 l = 0 then 0 else 1) = (if x = 0 then 0 else 1) := by rw [e, p_upe]
  have h3 : pgs τ + (if τ' 6 l = 0 then 0 else 1) = pgs τ' + (if τ 6 l = 0 then 0 else 1) := this
  rw [h2] at h3
  exact h3
theorem p_upk {f : Nat → Int32} {x : Int32} {c d j l : Nat} (hj : j < 32) (hl : l < 32) (h : ¬ (c = d ∧ j = l)) : upd f (d * 32 + l) x (c * 32 + j) = f (c * 32 + j) := p_upn (by omega)
theorem i_tear {n S R P U D l : Nat} {X : Nat → Nat → Prop} {τ τ' : zSt} {b : Int32} (h : pInv n S R P U D X τ) (hl : l < 32) (h6 : τ 6 l ≠ 0) (hb : b = 0 ↔ ∀ c, c < 6 → τ 2 (c * 32 + l) = 0) (e6 : τ' 6 = upd (τ 6) l (nI 0)) (e15 : τ' 15 0 = τ 15 0 - nI 1) (e13 : τ' 13 0 = if b = 0 then τ 13 0 else τ 13 0 ||| ((nI 1) <<< (nI l &&& 31))) (eo : ∀ i, i ≠ 6 → i ≠ 15 → i ≠ 17 → i ≠ 13 → τ' i = τ i) : ∃ Q, P = Q + 1 ∧ pInv n S R Q U D X τ' := by
  obtain ⟨⟨⟨a1, a2, a3, a4, a5, a6, a7⟩, s19, s20, s14, s15, sP⟩, hC, hO, hL, hU, hP, hM, hK, hN⟩ := h
  have hp := pgs_upd hl e6
  rw [if_pos nI_0, if_neg h6] at hp
  have q : ∀ i, i ≠ 6 → i ≠ 15 → i ≠ 17 → i ≠ 13 → τ' i = τ i := eo
  refine ⟨pgs τ', by omega, ⟨⟨a1, a2, a3, a4, a5, a6, by omega⟩, ?_, ?_, ?_, ?_, rfl⟩, ?_, ?_, ?_, ?_, ?_, ?_, ?_, ?_⟩
  · rw [q 19 (by omega) (by omega) (by omega) (by omega)]; exact s19
  · rw [q 20 (by omega) (by omega) (by omega) (by omega)]; exact s20
  · rw [q 14 (by omega) (by omega) (by omega) (by omega)]; exact s14
  · rw [e15, s15, show P = pgs τ' + 1 by omega, p_sub (by omega), Nat.add_sub_cancel]
  · unfold iCop
    rw [q 1 (by omega) (by omega) (by omega) (by omega), q 2 (by omega) (by omega) (by omega) (by omega), q 3 (by omega) (by omega) (by omega) (by omega), q 4 (by omega) (by omega) (by omega) (by omega), q 5 (by omega) (by omega) (by omega) (by omega)]
    exact hC
  · unfold iOne
    rw [q 2 (by omega) (by omega) (by omega) (by omega)]
    exact hO
  · unfold iSlo
    rw [q 2 (by omega) (by omega) (by omega) (by omega), q 4 (by omega) (by omega) (by omega) (by omega)]
    exact hL
  · unfold iUse
    rw [q 2 (by omega) (by omega) (by omega) (by omega), q 5 (by omega) (by omega) (by omega) (by omega)]
    exact hU
  · intro j hj
    rw [e6]
    by_cases e : j = l
    · rw [e, p_upe]; exact Or.inl nI_0
    · rw [p_upn e]; exact hP j hj
  · unfold iMem
    rw [q 0 (by omega) (by omega) (by omega) (by omega), q 1 (by omega) (by omega) (by omega) (by omega), q 2 (by omega) (by omega) (by omega) (by omega)]
    exact hM
  · intro j hj
    rw [e6, e13, q 2 (by omega) (by omega) (by omega) (by omega)]
    by_cases e : j = l
    · subst e
      rw [p_upe]
      refine ⟨fun z => absurd nI_0 z, fun _ hb0 => ?_⟩
      by_cases b0 : b = 0
      · exact hb.mp b0
      · rw [if_neg b0, b_set _ hl hj, decide_eq_true rfl, Bool.or_true] at hb0
        cases hb0
    · rw [p_upn e]
      have e2 : bt (if b = 0 then τ 13 0 else τ 13 0 ||| ((nI 1) <<< (nI l &&& 31))) j = bt (τ 13 0) j := by
        split
        · rfl
        · rw [b_set _ hl hj, decide_eq_false e, Bool.or_false]
      rw [e2]
      exact hK j hj
  · unfold iCnt
    rw [q 11 (by omega) (by omega) (by omega) (by omega), q 12 (by omega) (by omega) (by omega) (by omega)]
    exact hN
theorem i_make {n S R P U D l : Nat} {X : Nat → Nat → Prop} {τ τ' : zSt} (h : pInv n S R P U D X τ) (hl : l < 9) (h6 : τ 6 l = 0) (hPR : P < R) (hD : D + 1 ≤ 100000) (e6 : τ' 6 = upd (τ 6) l (τ 12 0 + nI 1)) (e12 : τ' 12 0 = τ 12 0 + nI 1) (e15 : τ' 15 0 = τ 15 0 + nI 1) (e13 : τ' 13 0 = (if bt (τ 13 0) l = true then τ 13 0 &&& (((nI 1) <<< (nI l &&& 31)) ^^^ (-1)) else τ 13 0)) (eo : ∀ i, i ≠ 6 → i ≠ 12 → i ≠ 15 → i ≠ 16 → i ≠ 13 → τ' i = τ i) : pInv n S R (P + 1) U (D + 1) X τ' ∧ τ' 6 l ≠ 0 := by
  obtain ⟨⟨⟨a1, a2, a3, a4, a5, a6, a7⟩, s19, s20, s14, s15, sP⟩, hC, hO, hL, hU, hP, hM, hK, hN⟩ := h
  have hv : τ 12 0 + nI 1 = nI (D + 1) := by rw [hN.2.2.1, nI_add]
  rw [hv] at e6 e12
  have hp := pgs_upd (show l < 32 by omega) e6
  rw [if_neg (nI_ne0 (by omega) (by omega)), if_pos h6] at hp
  refine ⟨⟨⟨⟨a1, a2, a3, a4, a5, a6, by omega⟩, ?_, ?_, ?_, ?_, by omega⟩, ?_, ?_, ?_, ?_, ?_, ?_, ?_, ?_⟩, ?_⟩
  · rw [eo 19 (by omega) (by omega) (by omega) (by omega) (by omega)]; exact s19
  · rw [eo 20 (by omega) (by omega) (by omega) (by omega) (by omega)]; exact s20
  · rw [eo 14 (by omega) (by omega) (by omega) (by omega) (by omega)]; exact s14
  · rw [e15, s15, nI_add]
  · unfold iCop
    rw [eo 1 (by omega) (by omega) (by omega) (by omega) (by omega), eo 2 (by omega) (by omega) (by omega) (by omega) (by omega), eo 3 (by omega) (by omega) (by omega) (by omega) (by omega), eo 4 (by omega) (by omega) (by omega) (by omega) (by omega), eo 5 (by omega) (by omega) (by omega) (by omega) (by omega)]
    exact hC
  · unfold iOne
    rw [eo 2 (by omega) (by omega) (by omega) (by omega) (by omega)]
    exact hO
  · unfold iSlo
    rw [eo 2 (by omega) (by omega) (by omega) (by omega) (by omega), eo 4 (by omega) (by omega) (by omega) (by omega) (by omega)]
    exact hL
  · unfold iUse
    rw [eo 2 (by omega) (by omega) (by omega) (by omega) (by omega), eo 5 (by omega) (by omega) (by omega) (by omega) (by omega)]
    exact hU
  · intro j hj
    rw [e6]
    by_cases e : j = l
    · rw [e, p_upe]; exact Or.inr ⟨hl, D + 1, by omega, by omega, rfl⟩
    · rw [p_upn e]
      rcases hP j hj with z | ⟨z1, d, z2, z3, z4⟩
      · exact Or.inl z
      · exact Or.inr ⟨z1, d, z2, by omega, z4⟩
  · unfold iMem
    rw [eo 0 (by omega) (by omega) (by omega) (by omega) (by omega), eo 1 (by omega) (by omega) (by omega) (by omega) (by omega), eo 2 (by omega) (by omega) (by omega) (by omega) (by omega)]
    exact hM
  · intro j hj
    rw [e6, e13, eo 2 (by omega) (by omega) (by omega) (by omega) (by omega)]
    by_cases e : j = l
    · subst e
      rw [p_upe]
      refine ⟨fun _ => ?_, fun z => absurd z (nI_ne0 (by omega) (by omega))⟩
      cases hb : bt (τ 13 0) j with
      | false => rw [if_neg (by decide)]; exact hb
      | true => rw [if_pos rfl, b_clr _ (by omega) hj, decide_eq_true rfl, Bool.not_true, Bool.and_false]
    · rw [p_upn e]
      have e2 : bt (if bt (τ 13 0) l = true then τ 13 0 &&& (((nI 1) <<< (nI l &&& 31)) ^^^ (-1)) else τ 13 0) j = bt (τ 13 0) j := by
        split
        · rw [b_clr _ (by omega) hj, decide_eq_false e, Bool.not_false, Bool.and_true]
        · rfl
      rw [e2]
      exact hK j hj
  · refine ⟨?_, hN.2.1, e12, hD⟩
    rw [eo 11 (by omega) (by omega) (by omega) (by omega) (by omega)]
    exact hN.1
  · rw [e6, p_upe]
    exact nI_ne0 (by omega) (by omega)
/-- an owner brings its value back and shares -/
theorem i_share {n S R P U D d l : Nat} {X : Nat → Nat → Prop} {τ τ' : zSt} (h : pInv n S R P U D X τ) (hd : d < 6) (hl : l < 32) (hk : τ 2 (d * 32 + l) = nI 2) (e0 : τ' 0 = upd (τ 0) l (τ 3 (d * 32 + l))) (e2 : τ' 2 = upd (τ 2) (d * 32 + l) (nI 1)) (eo : ∀ i, i ≠ 0 → i ≠ 2 → i ≠ 26 → τ' i = τ i) : pInv n S R P U D X τ' ∧ ∀ c, c < 6 → τ' 2 (c * 32 + l) ≠ nI 2 := by
  obtain ⟨hS, hC, hO, hL, hU, hP, hM, hK, hN⟩ := h
  have hk0 : τ 2 (d * 32 + l) ≠ 0 := by rw [hk]; decide
  have z0 : ∀ c j, c < 6 → j < 32 → (τ' 2 (c * 32 + j) ≠ 0 ↔ τ 2 (c * 32 + j) ≠ 0) := fun c j hc hj => by
    rw [e2]
    by_cases e : c = d ∧ j = l
    · rw [e.1, e.2, p_upe]; exact ⟨fun _ => hk0, fun _ => by decide⟩
    · rw [p_upk hj hl e]
  have z2 : ∀ c j, c < 6 → j < 32 → τ' 2 (c * 32 + j) = nI 2 → τ 2 (c * 32 + j) = nI 2 ∧ j ≠ l := fun c j hc hj z => by
    rw [e2] at z
    by_cases e : c = d ∧ j = l
    · rw [e.1, e.2, p_upe] at z
      exact absurd z (by decide)
    · rw [p_upk hj hl e] at z
      refine ⟨z, fun ej => e ⟨?_, ej⟩⟩
      rw [ej] at z
      exact hO c d l hc hd hl z hk0
  have hval : τ 3 (d * 32 + l) = τ 1 l := by
    rcases hC d l hd hl with z | ⟨_, _, _, z, _⟩
    · exact absurd z hk0
    · exact z
  refine ⟨⟨?_, fun c j hc hj => ?_, fun c c' j hc hc' hj y1 y2 => hO c c' j hc hc' hj (z2 c j hc hj y1).1 ((z0 c' j hc' hj).mp y2), fun c j k hc hj hk' y1 y2 => ?_, fun c j k hc hj hk' y1 y2 => ?_, ?_, fun j hj y => ?_, fun j hj => ⟨?_, fun y1 y2 c hc => ?_⟩, ?_⟩, fun c hc z => (z2 c l hc hl z).2 rfl⟩
  · unfold iScal pgs
    rw [eo 19 (by omega) (by omega) (by omega), eo 20 (by omega) (by omega) (by omega), eo 14 (by omega) (by omega) (by omega), eo 15 (by omega) (by omega) (by omega), eo 6 (by omega) (by omega) (by omega)]
    exact hS
  · rw [eo 1 (by omega) (by omega) (by omega), eo 3 (by omega) (by omega) (by omega), eo 4 (by omega) (by omega) (by omega), eo 5 (by omega) (by omega) (by omega), e2]
    by_cases e : c = d ∧ j = l
    · rw [e.1, e.2, p_upe]
      rcases hC d l hd hl with z | ⟨y1, y2, y3, y4⟩
      · exact absurd z hk0
      · exact Or.inr ⟨y1, y2, Or.inl rfl, y4⟩
    · rw [p_upk hj hl e]
      exact hC c j hc hj
  · rw [eo 4 (by omega) (by omega) (by omega)]
    exact hL c j k hc hj hk' ((z0 c j hc hj).mp y1) ((z0 c k hc hk').mp y2)
  · rw [eo 5 (by omega) (by omega) (by omega)]
    exact hU c j k hc hj hk' ((z0 c j hc hj).mp y1) ((z0 c k hc hk').mp y2)
  · unfold iPag
    rw [eo 6 (by omega) (by omega) (by omega)]
    exact hP
  · rw [eo 1 (by omega) (by omega) (by omega), e0]
    by_cases e : j = l
    · rw [e, p_upe]; exact hval
    · rw [p_upn e]
      refine hM j hj fun c hc z => y c hc ?_
      rw [e2, p_upk hj hl (fun z => e z.2)]
      exact z
  · rw [eo 6 (by omega) (by omega) (by omega), eo 13 (by omega) (by omega) (by omega)]
    exact (hK j hj).1
  · rw [eo 6 (by omega) (by omega) (by omega)] at y1
    rw [eo 13 (by omega) (by omega) (by omega)] at y2
    have := (hK j hj).2 y1 y2 c hc
    exact Classical.byContradiction fun z => (z0 c j hc hj).mp z this
  · unfold iCnt
    rw [eo 11 (by omega) (by omega) (by omega), eo 12 (by omega) (by omega) (by omega)]
    exact hN
/-- copies that own nothing go -/
theorem i_rem {n S R P U D : Nat} {X : Nat → Nat → Prop} {τ τ' : zSt} (h : pInv n S R P U D X τ) (e2 : ∀ c l, c < 6 → l < 32 → τ' 2 (c * 32 + l) = τ 2 (c * 32 + l) ∨ (τ' 2 (c * 32 + l) = 0 ∧ τ 2 (c * 32 + l) ≠ nI 2)) (eo : ∀ i, i ≠ 2 → τ' i = τ i) : pInv n S R P U D X τ' := by
  obtain ⟨hS, hC, hO, hL, hU, hP, hM, hK, hN⟩ := h
  have z0 : ∀ c j, c < 6 → j < 32 → τ' 2 (c * 32 + j) ≠ 0 → τ' 2 (c * 32 + j) = τ 2 (c * 32 + j) ∧ τ 2 (c * 32 + j) ≠ 0 := fun c j hc hj z => by
    rcases e2 c j hc hj with y | ⟨y, -⟩
    · exact ⟨y, y ▸ z⟩
    · exact absurd y z
  have z2 : ∀ c j, c < 6 → j < 32 → τ' 2 (c * 32 + j) = nI 2 → τ 2 (c * 32 + j) = nI 2 := fun c j hc hj z => by
    rw [← (z0 c j hc hj (by rw [z]; decide)).1]
    exact z
  refine ⟨?_, fun c j hc hj => ?_, fun c c' j hc hc' hj y1 y2 => hO c c' j hc hc' hj (z2 c j hc hj y1) (z0 c' j hc' hj y2).2, fun c j k hc hj hk' y1 y2 => ?_, fun c j k hc hj hk' y1 y2 => ?_, ?_, fun j hj y => ?_, fun j hj => ⟨?_, fun y1 y2 c hc => ?_⟩, ?_⟩
  · unfold iScal pgs
    rw [eo 19 (by omega), eo 20 (by omega), eo 14 (by omega), eo 15 (by omega), eo 6 (by omega)]
    exact hS
  · rw [eo 1 (by omega), eo 3 (by omega), eo 4 (by omega), eo 5 (by omega)]
    rcases e2 c j hc hj with y | ⟨y, -⟩
    · rw [y]; exact hC c j hc hj
    · exact Or.inl y
  · rw [eo 4 (by omega)]
    exact hL c j k hc hj hk' (z0 c j hc hj y1).2 (z0 c k hc hk' y2).2
  · rw [eo 5 (by omega)]
    exact hU c j k hc hj hk' (z0 c j hc hj y1).2 (z0 c k hc hk' y2).2
  · unfold iPag
    rw [eo 6 (by omega)]
    exact hP
  · rw [eo 0 (by omega), eo 1 (by omega)]
    refine hM j hj fun c hc z => ?_
    rcases e2 c j hc hj with w | ⟨-, w⟩
    · exact y c hc (w.trans z)
    · exact w z
  · rw [eo 6 (by omega), eo 13 (by omega)]
    exact (hK j hj).1
  · rw [eo 6 (by omega)] at y1
    rw [eo 13 (by omega)] at y2
    have := (hK j hj).2 y1 y2 c hc
    exact Classical.byContradiction fun z => (z0 c j hc hj z).2 this
  · unfold iCnt
    rw [eo 11 (by omega), eo 12 (by omega)]
    exact hN
/-- a copy out of the memory -/
theorem i_fill {n S R P U D c l s : Nat} {τ τ' : zSt} (h : pInv n S R P U D noX τ) (hc : c < n) (hl : l < 9) (hk : τ 2 (c * 32 + l) = 0) (hno : ∀ d, d < 6 → τ 2 (d * 32 + l) ≠ nI 2) (hs : s < S) (hfr : isFr τ c s) (h6 : τ 6 l ≠ 0) (e2 : τ' 2 = upd (τ 2) (c * 32 + l) (nI 1)) (e3 : τ' 3 = upd (τ 3) (c * 32 + l) (τ 0 l)) (e4 : τ' 4 = upd (τ 4) (c * 32 + l) (nI s)) (eo : ∀ i, i ≠ 2 → i ≠ 3 → i ≠ 4 → τ' i = τ i) : pInv n S R P U D (atX c l) τ' := by
  obtain ⟨hS, hC, hO, hL, hU, hP, hM, hK, hN⟩ := h
  obtain ⟨⟨a1, a2, a3, a4, a5, a6, a7⟩, -⟩ := id hS
  have hl' : l < 32 := by omega
  have hc6 : c < 6 := by omega
  have zo : ∀ d j, j < 32 → ¬ (d = c ∧ j = l) → τ' 2 (d * 32 + j) = τ 2 (d * 32 + j) ∧ τ' 3 (d * 32 + j) = τ 3 (d * 32 + j) ∧ τ' 4 (d * 32 + j) = τ 4 (d * 32 + j) := fun d j hj e => ⟨by rw [e2, p_upk hj hl' e], by rw [e3, p_upk hj hl' e], by rw [e4, p_upk hj hl' e]⟩
  have zi : τ' 2 (c * 32 + l) = nI 1 ∧ τ' 3 (c * 32 + l) = τ 0 l ∧ τ' 4 (c * 32 + l) = nI s := ⟨by rw [e2, p_upe], by rw [e3, p_upe], by rw [e4, p_upe]⟩
  have e5 := eo 5 (by omega) (by omega) (by omega)
  have z2 : ∀ d j, d < 6 → j < 32 → τ' 2 (d * 32 + j) = nI 2 → τ 2 (d * 32 + j) = nI 2 ∧ j ≠ l := fun d j hd hj z => by
    by_cases e : d = c ∧ j = l
    · rw [e.1, e.2, zi.1] at z
      exact absurd z (by decide)
    · rw [(zo d j hj e).1] at z
      exact ⟨z, fun y => hno d hd (by rw [← y]; exact z)⟩
  refine ⟨?_, fun d j hd hj => ?_, fun d d' j hd hd' hj y1 y2 => ?_, fun d j k hd hj hk' y1 y2 y3 => ?_, fun d j k hd hj hk' y1 y2 x1 x2 y3 => ?_, ?_, fun j hj y => ?_, fun j hj => ⟨?_, fun y1 y2 d hd => ?_⟩, ?_⟩
  · unfold iScal pgs
    rw [eo 19 (by omega) (by omega) (by omega), eo 20 (by omega) (by omega) (by omega), eo 14 (by omega) (by omega) (by omega), eo 15 (by omega) (by omega) (by omega), eo 6 (by omega) (by omega) (by omega)]
    exact hS
  · by_cases e : d = c ∧ j = l
    · rw [e.1, e.2, zi.1, zi.2.1, zi.2.2, eo 1 (by omega) (by omega) (by omega)]
      exact Or.inr ⟨hc, hl, Or.inl rfl, hM l hl' hno, ⟨s, hs, rfl⟩, fun z => absurd ⟨rfl, rfl⟩ z⟩
    · rw [(zo d j hj e).1, (zo d j hj e).2.1, (zo d j hj e).2.2, eo 1 (by omega) (by omega) (by omega), e5]
      rcases hC d j hd hj with z | ⟨w1, w2, w3, w4, w5, w6⟩
      · exact Or.inl z
      · exact Or.inr ⟨w1, w2, w3, w4, w5, fun _ => w6 id⟩
  · obtain ⟨y3, y4⟩ := z2 d j hd hj y1
    rw [(zo d' j hj (fun e => y4 e.2)).1] at y2
    exact hO d d' j hd hd' hj y3 y2
  · by_cases ej : d = c ∧ j = l
    · by_cases ek : d = c ∧ k = l
      · rw [ej.2, ek.2]
      · rw [(zo d k hk' ek).1] at y2
        rw [(zo d k hk' ek).2.2, ej.1, ej.2, zi.2.2] at y3
        rw [ej.1] at y2
        exact absurd y3.symm (hfr k hk' y2)
    · by_cases ek : d = c ∧ k = l
      · rw [(zo d j hj ej).1] at y1
        rw [(zo d j hj ej).2.2, ek.1, ek.2, zi.2.2] at y3
        rw [ek.1] at y1
        exact absurd y3 (hfr j hj y1)
      · rw [(zo d j hj ej).1] at y1
        rw [(zo d k hk' ek).1] at y2
        rw [(zo d j hj ej).2.2, (zo d k hk' ek).2.2] at y3
        exact hL d j k hd hj hk' y1 y2 y3
  · rw [(zo d j hj x1).1] at y1
    rw [(zo d k hk' x2).1] at y2
    rw [e5] at y3
    exact hU d j k hd hj hk' y1 y2 id id y3
  · unfold iPag
    rw [eo 6 (by omega) (by omega) (by omega)]
    exact hP
  · rw [eo 0 (by omega) (by omega) (by omega), eo 1 (by omega) (by omega) (by omega)]
    refine hM j hj fun d hd z => ?_
    by_cases e : d = c ∧ j = l
    · exact hno d hd (by rw [← e.2]; exact z)
    · exact y d hd (by rw [(zo d j hj e).1]; exact z)
  · rw [eo 6 (by omega) (by omega) (by omega), eo 13 (by omega) (by omega) (by omega)]
    exact (hK j hj).1
  · rw [eo 6 (by omega) (by omega) (by omega)] at y1
    rw [eo 13 (by omega) (by omega) (by omega)] at y2
    have hjl : ¬ (d = c ∧ j = l) := fun e => h6 (by rw [← e.2]; exact y1)
    rw [(zo d j hj hjl).1]
    exact (hK j hj).2 y1 y2 d hd
  · unfold iCnt
    rw [eo 11 (by omega) (by omega) (by omega), eo 12 (by omega) (by omega) (by omega)]
    exact hN
theorem i_pguse {n S R P U D l : Nat} {X : Nat → Nat → Prop} {τ τ' : zSt} (h : pInv n S R P U D X τ) (hl : l < 9) (h6 : τ 6 l ≠ 0) (hD : D + 1 ≤ 100000) (e6 : τ' 6 = upd (τ 6) l (nI (D + 1))) (e12 : τ' 12 0 = nI (D + 1)) (eo : ∀ i, i ≠ 6 → i ≠ 12 → τ' i = τ i) : pInv n S R P U (D + 1) X τ' := by
  obtain ⟨⟨ha, s19, s20, s14, s15, sP⟩, hC, hO, hL, hU, hP, hM, hK, hN⟩ := h
  have hp := pgs_upd (show l < 32 by omega) e6
  rw [if_neg (nI_ne0 (by omega) (by omega)), if_neg h6] at hp
  have z6 : ∀ j, j < 32 → (τ' 6 j = 0 ↔ τ 6 j = 0) := fun j hj => by
    rw [e6]
    by_cases e : j = l
    · rw [e, p_upe]; exact ⟨fun z => absurd z (nI_ne0 (by omega) (by omega)), fun z => absurd z h6⟩
    · rw [p_upn e]
  refine ⟨⟨ha, ?_, ?_, ?_, ?_, by omega⟩, ?_, ?_, ?_, ?_, fun j hj => ?_, ?_, fun j hj => ?_, ?_, hN.2.1, e12, hD⟩
  · rw [eo 19 (by omega) (by omega)]; exact s19
  · rw [eo 20 (by omega) (by omega)]; exact s20
  · rw [eo 14 (by omega) (by omega)]; exact s14
  · rw [eo 15 (by omega) (by omega)]; exact s15
  · unfold iCop
    rw [eo 1 (by omega) (by omega), eo 2 (by omega) (by omega), eo 3 (by omega) (by omega), eo 4 (by omega) (by omega), eo 5 (by omega) (by omega)]
    exact hC
  · unfold iOne
    rw [eo 2 (by omega) (by omega)]
    exact hO
  · unfold iSlo
    rw [eo 2 (by omega) (by omega), eo 4 (by omega) (by omega)]
    exact hL
  · unfold iUse
    rw [eo 2 (by omega) (by omega), eo 5 (by omega) (by omega)]
    exact hU
  · rw [e6]
    by_cases e : j = l
    · rw [e, p_upe]; exact Or.inr ⟨hl, D + 1, by omega, by omega, rfl⟩
    · rw [p_upn e]
      rcases hP j hj with z | ⟨z1, d, z2, z3, z4⟩
      · exact Or.inl z
      · exact Or.inr ⟨z1, d, z2, by omega, z4⟩
  · unfold iMem
    rw [eo 0 (by omega) (by omega), eo 1 (by omega) (by omega), eo 2 (by omega) (by omega)]
    exact hM
  · rw [eo 2 (by omega) (by omega), eo 13 (by omega) (by omega)]
    exact ⟨fun z => (hK j hj).1 (fun y => z ((z6 j hj).mpr y)), fun z => (hK j hj).2 ((z6 j hj).mp z)⟩
  · rw [eo 11 (by omega) (by omega)]
    exact hN.1
/-- the end of a service: a written value, the use -/
theorem i_fin {n S R P U D c l : Nat} {w wv : Int32} {τ τ' : zSt} (h : pInv n S R P U D (atX c l) τ) (hc : c < 6) (hl : l < 32) (hk : τ 2 (c * 32 + l) ≠ 0) (hw : w ≠ 0 → ∀ d, d < 6 → d ≠ c → τ 2 (d * 32 + l) = 0) (hU1 : U + 1 ≤ 100000) (e2 : τ' 2 = (if w = 0 then τ 2 else upd (τ 2) (c * 32 + l) (nI 2))) (e3 : τ' 3 = (if w = 0 then τ 3 else upd (τ 3) (c * 32 + l) wv)) (e1 : τ' 1 = (if w = 0 then τ 1 else upd (τ 1) l wv)) (e5 : τ' 5 = upd (τ 5) (c * 32 + l) (nI (U + 1))) (e11 : τ' 11 0 = nI (U + 1)) (eo : ∀ i, i ≠ 1 → i ≠ 2 → i ≠ 3 → i ≠ 5 → i ≠ 7 → i ≠ 10 → i ≠ 11 → i ≠ 18 → τ' i = τ i) : pInv n S R P (U + 1) D noX τ' := by
  obtain ⟨hS, hC, hO, hL, hU, hP, hM, hK, hN⟩ := h
  have q : ∀ i, i = 0 ∨ i = 4 ∨ i = 6 ∨ i = 12 ∨ i = 13 ∨ i = 14 ∨ i = 15 ∨ i = 19 ∨ i = 20 → τ' i = τ i := fun i hi => eo i (by omega) (by omega) (by omega) (by omega) (by omega) (by omega) (by omega) (by omega)
  have z0 : ∀ d j, d < 6 → j < 32 → (τ' 2 (d * 32 + j) ≠ 0 ↔ τ 2 (d * 32 + j) ≠ 0) := fun d j hd hj => by
    rw [e2]
    split
    · exact Iff.rfl
    · by_cases e : d = c ∧ j = l
      · rw [e.1, e.2, p_upe]; exact ⟨fun _ => hk, fun _ => by decide⟩
      · rw [p_upk hj hl e]
  have z5o : ∀ d j, j < 32 → ¬ (d = c ∧ j = l) → τ' 5 (d * 32 + j) = τ 5 (d * 32 + j) := fun d j hj e => by rw [e5, p_upk hj hl e]
  have z5i : τ' 5 (c * 32 + l) = nI (U + 1) := by rw [e5, p_upe]
  have old : ∀ d j, d < 6 → j < 32 → ¬ (d = c ∧ j = l) → τ 2 (d * 32 + j) ≠ 0 → ∃ a, a ≤ U ∧ τ 5 (d * 32 + j) = nI a := fun d j hd hj e z => by
    rcases hC d j hd hj with y | ⟨_, _, _, _, _, y⟩
    · exact absurd y z
    · exact y e
  have hUu := hN.2.1
  refine ⟨?_, fun d j hd hj => ?_, fun d d' j hd hd' hj y1 y2 => ?_, fun d j k hd hj hk' y1 y2 => ?_, fun d j k hd hj hk' y1 y2 _ _ y3 => ?_, ?_, fun j hj y => ?_, fun j hj => ⟨?_, fun y1 y2 d hd => ?_⟩, e11, hU1, ?_⟩
  · unfold iScal pgs
    rw [q 19 (by omega), q 20 (by omega), q 14 (by omega), q 15 (by omega), q 6 (by omega)]
    exact hS
  · by_cases hz : τ 2 (d * 32 + j) = 0
    · exact Or.inl (Classical.byContradiction fun y => (z0 d j hd hj).mp y hz)
    · rcases hC d j hd hj with y | ⟨w1, w2, w3, w4, w5, w6⟩
      · exact absurd y hz
      · refine Or.inr ⟨w1, w2, ?_, ?_, ?_, fun _ => ?_⟩
        · rw [e2]
          split
          · exact w3
          · by_cases e : d = c ∧ j = l
            · rw [e.1, e.2, p_upe]; exact Or.inr rfl
            · rw [p_upk hj hl e]; exact w3
        · rw [e3, e1]
          by_cases hw0 : w = 0
          · rw [if_pos hw0, if_pos hw0]; exact w4
          · rw [if_neg hw0, if_neg hw0]
            by_cases e : d = c ∧ j = l
            · rw [e.1, e.2, p_upe, p_upe]
            · have ej : j ≠ l := fun ej => by
                rw [ej] at hz
                exact hz (hw hw0 d hd fun ed => e ⟨ed, ej⟩)
              rw [p_upk hj hl e, p_upn ej]
              exact w4
        · rw [q 4 (by omega)]; exact w5
        · by_cases e : d = c ∧ j = l
          · rw [e.1, e.2, z5i]; exact ⟨U + 1, Nat.le_refl _, rfl⟩
          · rw [z5o d j hj e]
            obtain ⟨a, a1, a2⟩ := w6 e
            exact ⟨a, by omega, a2⟩
  · have y2' := (z0 d' j hd' hj).mp y2
    rw [e2] at y1
    by_cases hw0 : w = 0
    · rw [if_pos hw0] at y1
      exact hO d d' j hd hd' hj y1 y2'
    · rw [if_neg hw0] at y1
      by_cases e : d = c ∧ j = l
      · rw [e.2] at y2'
        refine e.1.trans (Classical.byContradiction fun z => ?_)
        exact y2' (hw hw0 d' hd' fun y => z y.symm)
      · rw [p_upk hj hl e] at y1
        exact hO d d' j hd hd' hj y1 y2'
  · rw [q 4 (by omega)]
    exact hL d j k hd hj hk' ((z0 d j hd hj).mp y1) ((z0 d k hd hk').mp y2)
  · have y1' := (z0 d j hd hj).mp y1
    have y2' := (z0 d k hd hk').mp y2
    by_cases ej : d = c ∧ j = l
    · by_cases ek : d = c ∧ k = l
      · rw [ej.2, ek.2]
      · obtain ⟨a, a1, a2⟩ := old d k hd hk' ek y2'
        rw [z5o d k hk' ek, a2, ej.1, ej.2, z5i] at y3
        have := (nI_eq (by omega) (by omega)).mp y3
        omega
    · obtain ⟨a, a1, a2⟩ := old d j hd hj ej y1'
      by_cases ek : d = c ∧ k = l
      · rw [z5o d j hj ej, a2, ek.1, ek.2, z5i] at y3
        have := (nI_eq (by omega) (by omega)).mp y3
        omega
      · rw [z5o d j hj ej, z5o d k hk' ek] at y3
        exact hU d j k hd hj hk' y1' y2' ej ek y3
  · unfold iPag
    rw [q 6 (by omega)]
    exact hP
  · rw [q 0 (by omega), e1]
    by_cases hw0 : w = 0
    · rw [if_pos hw0]
      refine hM j hj fun d hd => ?_
      have := y d hd
      rw [e2, if_pos hw0] at this
      exact this
    · rw [if_neg hw0]
      by_cases ej : j = l
      · refine absurd ?_ (y c hc)
        rw [e2, if_neg hw0, ej, p_upe]
      · rw [p_upn ej]
        refine hM j hj fun d hd => ?_
        have := y d hd
        rw [e2, if_neg hw0, p_upk hj hl (fun z => ej z.2)] at this
        exact this
  · rw [q 6 (by omega), q 13 (by omega)]
    exact (hK j hj).1
  · rw [q 6 (by omega)] at y1
    rw [q 13 (by omega)] at y2
    have := (hK j hj).2 y1 y2 d hd
    exact Classical.byContradiction fun z => (z0 d j hd hj).mp z this
  · rw [q 12 (by omega)]
    exact hN.2.2
