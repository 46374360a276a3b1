/-! a copy is thrown away, in both -/
theorem b_pG {k : Nat → Int32} {i : Nat} (hi : i < 32) : ∀ (r c : Nat) (a : Int32), c + r ≤ 32 → (bt (pG (fun c a => if k c = nI 1 then a ||| ((nI 1) <<< (nI c &&& 31)) else a) r c a) i = true ↔ bt a i = true ∨ (c ≤ i ∧ i < c + r ∧ k i = nI 1)) := by
  intro r
  induction r with
  | zero => intro c a _; exact ⟨fun h => Or.inl h, fun h => h.elim id fun z => by omega⟩
  | succ r ih =>
    intro c a hc
    show bt (pG _ r (c + 1) (if k c = nI 1 then a ||| ((nI 1) <<< (nI c &&& 31)) else a)) i = true ↔ _
    rw [ih (c + 1) _ (by omega)]
    by_cases h : k c = nI 1
    · rw [if_pos h, b_set a (by omega) hi, Bool.or_eq_true, decide_eq_true_iff]
      refine ⟨fun g => ?_, fun g => ?_⟩
      · rcases g with (g | g) | ⟨g1, g2, g3⟩
        · exact Or.inl g
        · exact Or.inr ⟨by omega, by omega, by rw [g]; exact h⟩
        · exact Or.inr ⟨by omega, by omega, g3⟩
      · rcases g with g | ⟨g1, g2, g3⟩
        · exact Or.inl (Or.inl g)
        · by_cases e : i = c
          · exact Or.inl (Or.inr e)
          · exact Or.inr ⟨by omega, by omega, g3⟩
    · rw [if_neg h]
      refine ⟨fun g => ?_, fun g => ?_⟩
      · rcases g with g | ⟨g1, g2, g3⟩
        · exact Or.inl g
        · exact Or.inr ⟨by omega, by omega, g3⟩
      · rcases g with g | ⟨g1, g2, g3⟩
        · exact Or.inl g
        · by_cases e : i = c
          · rw [e] at g3
            exact absurd g3 h
          · exact Or.inr ⟨by omega, by omega, g3⟩
theorem b_shF {k : Nat → Int32} {i : Nat} (hi : i < 32) : bt (shF k 6) i = true ↔ i < 6 ∧ k i = nI 1 := by
  unfold shF
  rw [b_pG hi 6 0 (nI 0) (by omega), show nI 0 = 0 from nI_0, b_0]
  exact ⟨fun g => g.elim (fun z => by cases z) fun z => ⟨by omega, z.2.2⟩, fun g => Or.inr ⟨by omega, by omega, g.2⟩⟩
theorem sh_clr {k k' : Nat → Int32} {c : Nat} (hc : c < 6) (h : ∀ d, d < 6 → d ≠ c → k' d = k d) (h0 : k' c ≠ nI 1) : shF k' 6 = shF k 6 &&& (((nI 1) <<< (nI c &&& 31)) ^^^ (-1)) := by
  refine b_ext fun i hi => ?_
  rw [b_clr _ (by omega) hi]
  by_cases e : i = c
  · rw [decide_eq_true e, Bool.not_true, Bool.and_false]
    cases hb : bt (shF k' 6) i with
    | false => rfl
    | true =>
      have := (b_shF hi).mp hb
      rw [e] at this
      exact absurd this.2 h0
  · rw [decide_eq_false e, Bool.not_false, Bool.and_true]
    cases hb : bt (shF k' 6) i with
    | true =>
      have h1 := (b_shF hi).mp hb
      exact ((b_shF hi).mpr ⟨h1.1, by rw [← h i h1.1 e]; exact h1.2⟩).symm
    | false =>
      cases hb2 : bt (shF k 6) i with
      | false => rfl
      | true =>
        have h1 := (b_shF hi).mp hb2
        have h2 := (b_shF hi).mpr ⟨h1.1, (h i h1.1 e).trans h1.2⟩
        rw [hb] at h2
        cases h2
theorem own_eq {τ : zSt} {l o : Nat} (hO : mOne τ) (hl : l < 32) (ho : o < 6) (h : τ 2 (o * 32 + l) = nI 2) : ownN τ l = some o :=
  pF_mk (by omega) (by omega) h fun j _ hj z => by
    have := hO j o l (by omega) ho hl z h
    omega
def dropT (c d : Nat) (τ : zSt) : zSt := wr (if τ 2 (c * 32 + d) = nI 2 then ws (wr τ 0 d (τ 3 (c * 32 + d))) 26 (τ 26 0 + nI 1) else τ) 2 (c * 32 + d) (nI 0)
theorem qx_throwAway {τ : zSt} {c d : Nat} (hc : c < 6) (hd : d < 32) : fX4_throwAway (nI c) (nI d) τ = some (dropT c d τ) := by
  unfold fX4_throwAway dropT fX4_throwAway_j19 fX0_remove
  rw [qx_kindOf hc hd, Option.bind_some]
  by_cases h : τ 2 (c * 32 + d) = nI 2
  · rw [if_pos h, if_pos h, qx_bringBack hc hd, Option.bind_some, p_mul, nI_add, p_wr (by omega) (by omega), Option.bind_some, Option.bind_some]
  · rw [if_neg h, if_neg h, p_mul, nI_add, p_wr (by omega) (by omega), Option.bind_some, Option.bind_some]
/-- the reference's cells behind it: page b, if there is one -/
def dropS (c d a : Nat) (own : Bool) (pg : Option Nat) (σ : zSt) : zSt :=
  w0 (match pg with
    | none => if own = true then w0 (w0 σ (14 + d) (σ 0 (a + 2))) 11 (σ 0 11 + nI 1) else σ
    | some b => w0 (w0 (if own = true then w0 (w0 σ (14 + d) (σ 0 (a + 2))) 11 (σ 0 11 + nI 1) else σ) (b + 1) (if σ 0 (b + 1) = nI c then -1 else σ 0 (b + 1))) (b + 2) (σ 0 (b + 2) &&& (((nI 1) <<< (nI c &&& 31)) ^^^ (-1)))) a (-1)
theorem qr_throwAway {σ : zSt} {c d a P : Nat} (hd : d < 32) (ha0 : 110 ≤ a) (ha : a + 3 < 302) (hP : P ≤ 16) (h3 : σ 0 3 = nI P) (h0 : σ 0 a = nI d) : fX9_throwAway (nI c) (nI a) σ = some (nI (if σ 0 (a + 1) = nI 2 then 1 else 0), dropS c d a (decide (σ 0 (a + 1) = nI 2)) (rpg σ P (nI d)) σ) := by
  have pgl : ∀ b, rpg σ P (nI d) = some b → 302 ≤ b ∧ b + 3 < 366 := fun b hb => by
    obtain ⟨p, p1, p2, -⟩ := rpg_some hb
    omega
  have tail : ∀ (o : Bool) (ρ : zSt), (∀ k, k ≠ 11 → (k < 14 ∨ 46 ≤ k) → ρ 0 k = σ 0 k) → ρ = (if o = true then w0 (w0 σ (14 + d) (σ 0 (a + 2))) 11 (σ 0 11 + nI 1) else σ) →
      fX9_throwAway_j27 (nI c) (nI a) (nI (if o = true then 1 else 0)) ρ = some (nI (if o = true then 1 else 0), dropS c d a o (rpg σ P (nI d)) σ) := by
    intro o ρ hρ hρ2
    have hrp : rpg ρ P (nI d) = rpg σ P (nI d) := by
      unfold rpg
      rw [pF_congr fun p _ hp => by rw [hρ _ (by omega) (by omega)]]
    unfold fX9_throwAway_j27
    rw [p_ag (by omega) (by omega), Option.bind_some, hρ a (by omega) (by omega), h0, qr_pageOf hP (by rw [hρ 3 (by omega) (by omega)]; exact h3), Option.bind_some, hrp]
    have fin : ∀ ρ2 : zSt, fX9_throwAway_j96 (nI a) (nI (if o = true then 1 else 0)) ρ2 = some (nI (if o = true then 1 else 0), w0 ρ2 a (-1)) := by
      intro ρ2
      unfold fX9_throwAway_j96
      rw [p_w0 (by omega), Option.bind_some]
      cases o with
      | false => rw [ifF, if_pos nI_0]
      | true => rw [ifT, if_neg (by decide)]
    unfold dropS
    cases hp : rpg σ P (nI d) with
    | none => rw [oI_none, if_pos p_neg, fin, hρ2]
    | some b =>
      obtain ⟨b1, b2⟩ := pgl b hp
      rw [oI_some, if_neg (nI_pos (by omega)), nI_add, p_ag (by omega) (by omega), Option.bind_some, Option.bind_some, hρ _ (by omega) (by omega)]
      unfold fX9_throwAway_j78
      simp only [← hρ2]
      by_cases hb : σ 0 (b + 1) = nI c
      · rw [if_pos hb, if_pos hb, p_w0 (by omega), Option.bind_some, nI_add, p_ag (by omega) (by omega), Option.bind_some, w0_n (by omega), hρ _ (by omega) (by omega), p_w0 (by omega), Option.bind_some, fin]
      · rw [if_neg hb, if_neg hb, p_w0 (by omega), Option.bind_some, nI_add, p_ag (by omega) (by omega), Option.bind_some, w0_n (by omega), hρ _ (by omega) (by omega), p_w0 (by omega), Option.bind_some, fin]
  unfold fX9_throwAway fX9_throwAway_j17
  rw [nI_add, p_ag (by omega) (by omega), Option.bind_some]
  by_cases h : σ 0 (a + 1) = nI 2
  · rw [if_pos h, if_neg (by decide), if_pos h, decide_eq_true h]
    unfold fX9_toMemory
    rw [p_ag (by omega) (by omega), Option.bind_some, h0, nI_add, p_ag (by omega) (by omega), Option.bind_some, nI_add, p_w0 (by omega), Option.bind_some, p_ag (by omega) (by omega), Option.bind_some, w0_n (by omega), p_w0 (by omega), Option.bind_some, Option.bind_some]
    exact tail true _ (fun k k1 k2 => by rw [w0_n (by omega), w0_n (by omega)]) rfl
  · rw [if_neg h, if_pos nI_0, if_neg h, decide_eq_false h]
    exact tail false σ (fun _ _ _ => rfl) rfl
theorem rl_drop {n S R P U D c d : Nat} {E : Nat → Prop} {σ τ : zSt} (h : mInv n S R P U D E noX σ τ) (hd : d < 32) (hc : c < n) (hE : ¬ E d) {s : Nat} (hk : τ 2 (c * 32 + d) ≠ 0) (hs : s < S) (hs4 : τ 4 (c * 32 + d) = nI s) (hsl : σ 0 (sA c s) = nI d) :
    ∃ σ', fX9_throwAway (nI c) (nI (sA c s)) σ = some (nI (if τ 2 (c * 32 + d) = nI 2 then 1 else 0), σ') ∧ fX4_throwAway (nI c) (nI d) τ = some (dropT c d τ) ∧ mInv n S R P U D E noX σ' (dropT c d τ) ∧ (∀ i, i ≠ 0 → σ' i = σ i) ∧ ∀ k, k ≠ 11 → (k < 14 ∨ 46 ≤ k) → (k < 110 ∨ 366 ≤ k) → σ' 0 k = σ 0 k := by
  obtain ⟨hSc, hNu, hMe, hMa, hKi, hOn, hCo, hPa, hNo⟩ := h
  obtain ⟨⟨a1, a2, a3, a4, a5, a6, a7⟩, b1, c1, d1, e1⟩ := id hSc
  have ha : sA c s + 3 < 302 := sA_lt (by omega) (by omega) (by omega)
  have ha0 : 110 ≤ sA c s := by unfold sA; omega
  obtain ⟨-, s', q2, q3, q4, q5⟩ := hCo.1 c d (by omega) hd hk
  rw [hs4] at q3
  obtain rfl := (nI_eq (by omega) (by omega)).mp q3
  obtain ⟨v1, v2, v3, v4⟩ := q5 id
  have hthr := qr_throwAway (c := c) hd ha0 ha (show P ≤ 16 by omega) e1.1 hsl
  rw [v1] at hthr
  have pgl : ∀ b, rpg σ P (nI d) = some b → ∃ p, p < P ∧ b = 302 + 4 * p ∧ σ 0 b = nI d := fun b hb => by
    obtain ⟨p, p1, p2, p3⟩ := rpg_some hb
    exact ⟨p, p1, p2, by rw [p2]; exact p3⟩
  generalize hσ : dropS c d (sA c s) (decide (τ 2 (c * 32 + d) = nI 2)) (rpg σ P (nI d)) σ = σ' at hthr
  unfold dropS at hσ
  -- the first layer
  have L1 : ∀ o : Bool, o = decide (τ 2 (c * 32 + d) = nI 2) → ∀ ρ : zSt, ρ = (if o = true then w0 (w0 σ (14 + d) (σ 0 (sA c s + 2))) 11 (σ 0 11 + nI 1) else σ) → (ρ 0 (14 + d) = if τ 2 (c * 32 + d) = nI 2 then τ 3 (c * 32 + d) else σ 0 (14 + d)) ∧ (ρ 0 11 = if τ 2 (c * 32 + d) = nI 2 then σ 0 11 + nI 1 else σ 0 11) ∧ (∀ k, k ≠ 11 → k ≠ 14 + d → ρ 0 k = σ 0 k) ∧ ∀ i, i ≠ 0 → ρ i = σ i := by
    intro o ho ρ hρ
    by_cases hk2 : τ 2 (c * 32 + d) = nI 2
    · rw [ho, decide_eq_true hk2, ifT] at hρ
      rw [if_pos hk2, if_pos hk2, hρ]
      exact ⟨by rw [w0_n (by omega), w0_e, v2], w0_e _ _ _, fun k k1 k2 => by rw [w0_n k1, w0_n k2], fun i hi => by rw [w0_o hi, w0_o hi]⟩
    · rw [ho, decide_eq_false hk2, ifF] at hρ
      rw [if_neg hk2, if_neg hk2, hρ]
      exact ⟨rfl, rfl, fun _ _ _ => rfl, fun _ _ => rfl⟩
  obtain ⟨m1, m2, m3, m4⟩ := L1 _ rfl _ rfl
  generalize (if decide (τ 2 (c * 32 + d) = nI 2) = true then w0 (w0 σ (14 + d) (σ 0 (sA c s + 2))) 11 (σ 0 11 + nI 1) else σ) = ρ at hσ m1 m2 m3 m4
  have x1 : σ' 0 (sA c s) = -1 := by rw [← hσ, w0_e]
  have x3 : σ' 0 (14 + d) = if τ 2 (c * 32 + d) = nI 2 then τ 3 (c * 32 + d) else σ 0 (14 + d) := by
    rw [← hσ, w0_n (by omega), ← m1]
    cases hp : rpg σ P (nI d) with
    | none => rfl
    | some b =>
      obtain ⟨p, p1, p2, -⟩ := pgl b hp
      show w0 (w0 ρ _ _) _ _ 0 (14 + d) = _
      rw [w0_n (by omega), w0_n (by omega)]
  have x4 : σ' 0 11 = if τ 2 (c * 32 + d) = nI 2 then σ 0 11 + nI 1 else σ 0 11 := by
    rw [← hσ, w0_n (by omega), ← m2]
    cases hp : rpg σ P (nI d) with
    | none => rfl
    | some b =>
      obtain ⟨p, p1, p2, -⟩ := pgl b hp
      show w0 (w0 ρ _ _) _ _ 0 11 = _
      rw [w0_n (by omega), w0_n (by omega)]
  have x5 : ∀ k, k ≠ sA c s → k ≠ 14 + d → k ≠ 11 → (∀ b, rpg σ P (nI d) = some b → k ≠ b + 1 ∧ k ≠ b + 2) → σ' 0 k = σ 0 k := by
    intro k k1 k2 k3 k4
    rw [← hσ, w0_n k1, ← m3 k k3 k2]
    cases hp : rpg σ P (nI d) with
    | none => rfl
    | some b =>
      show w0 (w0 ρ _ _) _ _ 0 k = _
      rw [w0_n (k4 b hp).2, w0_n (k4 b hp).1]
  have x5' : ∀ k, k ≠ sA c s → k ≠ 14 + d → k ≠ 11 → k < 302 → σ' 0 k = σ 0 k := fun k k1 k2 k3 k4 => x5 k k1 k2 k3 fun b hb => by
    obtain ⟨p, p1, p2, -⟩ := pgl b hb
    omega
  have x6 : ∀ b, rpg σ P (nI d) = some b → σ' 0 (b + 1) = (if σ 0 (b + 1) = nI c then -1 else σ 0 (b + 1)) ∧ σ' 0 (b + 2) = (σ 0 (b + 2) &&& (((nI 1) <<< (nI c &&& 31)) ^^^ (-1))) := by
    intro b hb
    obtain ⟨p, p1, p2, -⟩ := pgl b hb
    rw [← hσ, w0_n (by omega), w0_n (by omega), hb]
    show w0 (w0 ρ _ _) _ _ 0 (b + 1) = _ ∧ w0 (w0 ρ _ _) _ _ 0 (b + 2) = _
    exact ⟨by rw [w0_n (by omega), w0_e], w0_e _ _ _⟩
  have x7 : ∀ i, i ≠ 0 → σ' i = σ i := by
    intro i hi
    rw [← hσ, w0_o hi, ← m4 i hi]
    cases hp : rpg σ P (nI d) with
    | none => rfl
    | some b =>
      show w0 (w0 ρ _ _) _ _ i = _
      rw [w0_o hi, w0_o hi]
  refine ⟨σ', hthr, qx_throwAway (by omega) hd, ?_, x7, fun k k1 k2 k3 => x5 k (by omega) (by omega) k1 fun b hb => by
    obtain ⟨p, p1, p2, -⟩ := pgl b hb
    omega⟩
  generalize hτ : dropT c d τ = τ'
  unfold dropT at hτ
  have y1 : τ' 2 (c * 32 + d) = nI 0 := by rw [← hτ, wr_e]
  have y2 : ∀ k, k ≠ c * 32 + d → τ' 2 k = τ 2 k := by
    intro k k1
    rw [← hτ, wr_n k1]
    split
    · rw [ws_o (by omega), wr_o (by omega)]
    · rfl
  have y3 : ∀ k, k < 32 → τ' 0 k = if k = d ∧ τ 2 (c * 32 + d) = nI 2 then τ 3 (c * 32 + d) else τ 0 k := by
    intro k k1
    rw [← hτ, wr_o (by omega)]
    by_cases e : τ 2 (c * 32 + d) = nI 2
    · rw [if_pos e, ws_o (by omega)]
      by_cases ek : k = d
      · rw [ek, wr_e, if_pos ⟨rfl, e⟩]
      · rw [wr_n ek, if_neg (fun z => ek z.1)]
    · rw [if_neg e, if_neg (fun z => e z.2)]
  have y4 : τ' 26 0 = if τ 2 (c * 32 + d) = nI 2 then τ 26 0 + nI 1 else τ 26 0 := by
    rw [← hτ, wr_o (by omega)]
    split
    · rw [ws_e]
    · rfl
  have y5 : ∀ i, i ≠ 2 → i ≠ 0 → i ≠ 26 → τ' i = τ i := by
    intro i i1 i2 i3
    rw [← hτ, wr_o i1]
    split
    · rw [ws_o i3, wr_o i2]
    · rfl
  have kz : ∀ e k, τ' 2 (e * 32 + k) ≠ 0 → e * 32 + k ≠ c * 32 + d ∧ τ 2 (e * 32 + k) ≠ 0 := by
    intro e k z
    by_cases q : e * 32 + k = c * 32 + d
    · rw [q, y1] at z
      exact absurd nI_0 z
    · rw [y2 _ q] at z
      exact ⟨q, z⟩
  refine ⟨?_, ?_, ?_, ?_, ?_, ?_, ?_, ?_, ?_⟩
  · refine ⟨⟨a1, a2, a3, a4, a5, a6, a7⟩, ?_, ?_, ?_, ?_⟩
    · rw [x5' 0 (by omega) (by omega) (by omega) (by omega), y5 19 (by omega) (by omega) (by omega)]; exact b1
    · rw [x5' 1 (by omega) (by omega) (by omega) (by omega), y5 20 (by omega) (by omega) (by omega)]; exact c1
    · rw [x5' 2 (by omega) (by omega) (by omega) (by omega), y5 14 (by omega) (by omega) (by omega)]; exact d1
    · rw [x5' 3 (by omega) (by omega) (by omega) (by omega), y5 15 (by omega) (by omega) (by omega)]; exact e1
  · refine ⟨?_, ?_, ?_⟩
    · rw [x5' 9 (by omega) (by omega) (by omega) (by omega), y5 16 (by omega) (by omega) (by omega)]; exact hNu.1
    · rw [x5' 10 (by omega) (by omega) (by omega) (by omega), y5 17 (by omega) (by omega) (by omega)]; exact hNu.2.1
    · rw [x4, y4, hNu.2.2]
  · intro k hk2
    rw [x5' (46 + k) (by omega) (by omega) (by omega) (by omega), y5 1 (by omega) (by omega) (by omega), y3 k hk2]
    refine ⟨?_, (hMe k hk2).2⟩
    by_cases ek : k = d
    · rw [ek, x3]
      by_cases e : τ 2 (c * 32 + d) = nI 2
      · rw [if_pos e, if_pos ⟨rfl, e⟩]
      · rw [if_neg e, if_neg (fun z => e z.2)]
        exact (hMe d hd).1
    · rw [if_neg (fun z => ek z.1), x5' (14 + k) (by omega) (by omega) (by omega) (by omega)]
      exact (hMe k hk2).1
  · intro k hk2
    rw [x5' (78 + k) (by omega) (by omega) (by omega) (by omega), y5 13 (by omega) (by omega) (by omega)]
    exact hMa k hk2
  · intro e k he hk2
    by_cases q : e * 32 + k = c * 32 + d
    · rw [q, y1]; exact Or.inl nI_0
    · rw [y2 _ q]; exact hKi e k he hk2
  · intro e e' k he he' hk2 z1 z2
    have w1 := kz e k (by rw [z1]; decide)
    have w2 := kz e' k (by rw [z2]; decide)
    rw [y2 _ w1.1] at z1
    rw [y2 _ w2.1] at z2
    exact hOn e e' k he he' hk2 z1 z2
  · obtain ⟨hA, hB, hC, hD⟩ := hCo
    refine ⟨fun e k he hk2 hz => ?_, fun e t he ht => ?_, fun e k m he hk2 hm z1 z2 _ _ z3 => ?_, ?_⟩
    · obtain ⟨hq, hz0⟩ := kz e k hz
      obtain ⟨g1, t, g2, g3, g4, g5⟩ := hA e k he hk2 hz0
      rw [y5 3 (by omega) (by omega) (by omega), y5 4 (by omega) (by omega) (by omega), y5 5 (by omega) (by omega) (by omega), y2 _ hq]
      have hne : ¬ (e = c ∧ t = s) := fun z => by
        obtain ⟨rfl, rfl⟩ := z
        rw [hsl] at g4
        have := (nI_eq (by omega) (by omega)).mp g4
        omega
      have ht8 : t < 8 := by omega
      have hs8 : s < 8 := by omega
      have adr : ∀ j, j < 4 → σ' 0 (sA e t + j) = σ 0 (sA e t + j) := fun j hj => x5' _ (by unfold sA; omega) (by unfold sA; omega) (by unfold sA; omega) (by unfold sA; omega)
      have adr0 : σ' 0 (sA e t) = σ 0 (sA e t) := adr 0 (by omega)
      refine ⟨g1, t, g2, g3, ?_, ?_⟩
      · rw [adr0]; exact g4
      · rw [adr 1 (by omega), adr 2 (by omega), adr 3 (by omega)]; exact g5
    · by_cases q : e = c ∧ t = s
      · obtain ⟨rfl, rfl⟩ := q
        exact Or.inl x1
      · have ht8 : t < 8 := by omega
        have hs8 : s < 8 := by omega
        have adr0 : σ' 0 (sA e t) = σ 0 (sA e t) := x5' _ (by unfold sA; omega) (by unfold sA; omega) (by unfold sA; omega) (by unfold sA; omega)
        rw [adr0]
        rcases hB e t he ht with z | ⟨k, z1, z2, z3, z4⟩
        · exact Or.inl z
        · refine Or.inr ⟨k, z1, z2, ?_, by rw [y5 4 (by omega) (by omega) (by omega)]; exact z4⟩
          rw [y2]
          · exact z3
          · intro eq
            have e1 : e = c := by omega
            have e2 : k = d := by omega
            subst e1; subst e2
            rw [hs4] at z4
            exact q ⟨rfl, ((nI_eq (by omega) (by omega)).mp z4).symm⟩
    · rw [y5 5 (by omega) (by omega) (by omega)] at z3
      exact hC e k m he hk2 hm (kz e k z1).2 (kz e m z2).2 id id z3
    · rw [x5' 13 (by omega) (by omega) (by omega) (by omega), y5 11 (by omega) (by omega) (by omega)]; exact hD
  · obtain ⟨pa, pb, pc, pd, pe, pf, pg, pi, pj⟩ := hPa
    have rp : ∀ b, rpg σ P (nI d) = some b → ∀ p, p < P → b = 302 + 4 * p → ∀ q, q < P → q ≠ p → ∀ j, j < 4 → σ' 0 (302 + 4 * q + j) = σ 0 (302 + 4 * q + j) := fun b hb p hp hbp q hq hqp j hj => x5 _ (by omega) (by omega) (by omega) fun b' hb' => by
      rw [hb] at hb'
      obtain rfl := Option.some.inj hb'
      omega
    have c0 : ∀ q j, q < P → (j = 0 ∨ j = 3) → σ' 0 (302 + 4 * q + j) = σ 0 (302 + 4 * q + j) := fun q j hq hj => x5 _ (by omega) (by omega) (by omega) fun b hb => by
      obtain ⟨p, p1, p2, -⟩ := pgl b hb
      omega
    have c00 : ∀ q, q < P → σ' 0 (302 + 4 * q) = σ 0 (302 + 4 * q) := fun q hq => c0 q 0 hq (Or.inl rfl)
    unfold mPage
    rw [y5 6 (by omega) (by omega) (by omega), y5 12 (by omega) (by omega) (by omega)]
    refine ⟨pa, fun q hq => by rw [c00 q hq]; exact pb q hq, fun k hk2 h6 => ?_, fun q q' hq hq' z => ?_, fun q k hq hk2 z hE' => ?_, fun q k hq hk2 z hE' => ?_, fun q q' k m hq hq' hk2 hm z z' hE1 hE2 => ?_, pi, pj⟩
    · obtain ⟨q, q1, q2⟩ := pc k hk2 h6
      exact ⟨q, q1, by rw [c00 q q1]; exact q2⟩
    · rw [c00 q hq, c00 q' hq'] at z
      exact pd q q' hq hq' z
    · rw [c00 q hq] at z
      obtain ⟨t1, t2⟩ := pe q k hq hk2 z hE'
      by_cases ek : k = d
      · subst ek
        -- the page of the line itself
        obtain ⟨k', k1', k2', k3'⟩ := pb q hq
        rw [z] at k2'
        have := (nI_eq (by omega) (by omega)).mp k2'
        subst this
        obtain ⟨p, p1, p2, p3⟩ := (rpg_of ⟨pa, pb, pc, pd, pe, pf, pg, pi, pj⟩ hk2).2 k3'
        have hpq : p = q := pd p q p1 hq (by rw [p2, z])
        subst hpq
        obtain ⟨u1, u2⟩ := x6 _ p3
        rw [u1, u2, t1, t2]
        refine ⟨?_, ?_⟩
        · by_cases h2 : τ 2 (c * 32 + k) = nI 2
          · rw [own_eq hOn hk2 (by omega) h2, oI_some, if_pos rfl]
            have : ownN τ' k = none := pF_none.mpr fun e _ he => by
              by_cases q : e = c
              · rw [q, y1]; decide
              · rw [y2 _ (by omega)]
                intro z2
                exact q (hOn e c k (by omega) (by omega) hk2 z2 h2)
            rw [this]; rfl
          · have e1 : ownN τ' k = ownN τ k := pF_congr fun e _ he => by
              by_cases q : e = c
              · rw [q, y1]
                exact ⟨fun z => absurd z (by decide), fun z => absurd z h2⟩
              · rw [y2 _ (by omega)]
            rw [e1]
            rw [if_neg]
            intro z2
            cases ho : ownN τ k with
            | none => rw [ho] at z2; exact absurd z2 (p_nneg' (by omega))
            | some o =>
              obtain ⟨-, o2, o3, -⟩ := pF_some ho
              rw [ho] at z2
              obtain rfl := (nI_eq (by omega) (by omega)).mp z2
              exact h2 o3
        · exact (sh_clr (c := c) (by omega) (fun e he hec => by unfold kdF; rw [y2 _ (by omega)]) (by show τ' 2 (c * 32 + k) ≠ nI 1; rw [y1]; decide)).symm
      · have e1 : ownN τ' k = ownN τ k := pF_congr fun e _ he => by rw [y2 _ (by omega)]
        have e2 : shF (kdF τ' k) 6 = shF (kdF τ k) 6 := pG_congr fun x _ hx y => by
          show (if τ' 2 (x * 32 + k) = nI 1 then _ else _) = (if τ 2 (x * 32 + k) = nI 1 then _ else _)
          rw [y2 _ (by omega)]
        rw [e1, e2, ← t1, ← t2]
        have hb : ∀ b, rpg σ P (nI d) = some b → 302 + 4 * q ≠ b := fun b hb e => by
          obtain ⟨p, p1, p2, p3⟩ := pgl b hb
          rw [← e, z] at p3
          exact ek ((nI_eq (by omega) (by omega)).mp p3)
        refine ⟨x5 _ (by omega) (by omega) (by omega) fun b hb2 => ?_, x5 _ (by omega) (by omega) (by omega) fun b hb2 => ?_⟩
        · have := hb b hb2
          obtain ⟨p, p1, p2, -⟩ := pgl b hb2
          omega
        · have := hb b hb2
          obtain ⟨p, p1, p2, -⟩ := pgl b hb2
          omega
    · rw [c00 q hq] at z
      rw [c0 q 3 hq (Or.inr rfl)]
      exact pf q k hq hk2 z hE'
    · rw [c00 q hq] at z
      rw [c00 q' hq'] at z'
      rw [c0 q 3 hq (Or.inr rfl), c0 q' 3 hq' (Or.inr rfl)]
      exact pg q q' k m hq hq' hk2 hm z z' hE1 hE2
  · intro k hk2 z1 z2 e he
    rw [y5 6 (by omega) (by omega) (by omega)] at z1
    rw [y5 13 (by omega) (by omega) (by omega)] at z2
    by_cases q : e * 32 + k = c * 32 + d
    · rw [q, y1]; exact nI_0
    · rw [y2 _ q]; exact hNo k hk2 z1 z2 e he
