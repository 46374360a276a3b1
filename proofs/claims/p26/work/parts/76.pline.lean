/-! the law's check of a line -/
theorem or0 (a : Int32) : a ||| nI 0 = a := b_ext fun i _ => by rw [b_or, show nI 0 = 0 from nI_0, b_0, Bool.or_false]
theorem obs {α : Type} (o : Option α) : (o.bind fun x => some x) = o := by cases o <;> rfl
theorem gIdx {k N : Nat} (h : k < N) (hN : N < 2 ^ 31) : ¬ (nI k < 0 ∨ nI N ≤ nI k) := fun z => z.elim (nI_pos (by omega)) (nI_ge h hN)
theorem gRng {k lo hi : Nat} (h1 : lo ≤ k) (h2 : k ≤ hi) (hh : hi < 2 ^ 31) : ¬ (nI k < nI lo ∨ nI hi < nI k) := fun z => z.elim (nI_nlt h1 (by omega)) (nI_nlt h2 hh)
theorem v_copy {n c l k : Nat} {χ : cSt} (hn : χ 0 19 0 = nI n) (hn6 : n ≤ 6) (hc : c < n) (hl : l < 32) (hk : k < 4) : fX8_copy (nI c) (nI l) (nI k) χ = fX0_fact (nI c) (nI l) (nI k) (χ 0) := by
  unfold fX8_copy
  rw [hn, if_neg (gIdx hc (by omega)), if_neg (gIdx hl (by omega)), if_neg (gRng (by omega) (by omega) (by omega)), obs]
theorem v_line {l k : Nat} {χ : cSt} (hl : l < 32) (hk : k < 8) : fX8_line (nI l) (nI k) χ = fX4_lineFact (nI l) (nI k) (χ 0) := by
  unfold fX8_line
  rw [if_neg (gIdx hl (by omega)), if_neg (gRng (by omega) (by omega) (by omega)), obs]
theorem v_value {k : Nat} {χ : cSt} (hk : k < 14) : fX8_value (nI k) χ = fX4_number (nI k) (χ 0) := by
  unfold fX8_value
  rw [if_neg (gRng (by omega) (by omega) (by omega)), obs]
theorem f_0 {τ : zSt} {c l : Nat} (hc : c < 6) (hl : l < 32) : fX0_fact (nI c) (nI l) (nI 0) τ = some (τ 2 (c * 32 + l)) := by
  unfold fX0_fact
  rw [if_pos nI_0, p_mul, nI_add, p_ag (by omega) (by omega), Option.bind_some]
theorem f_1 {τ : zSt} {c l : Nat} (hc : c < 6) (hl : l < 32) : fX0_fact (nI c) (nI l) (nI 1) τ = some (if τ 2 (c * 32 + l) = 0 then -1 else τ 3 (c * 32 + l)) := by
  unfold fX0_fact
  rw [if_neg (by decide), p_mul, nI_add, p_ag (by omega) (by omega), Option.bind_some, if_pos rfl, p_ag (by omega) (by omega), Option.bind_some]
  split <;> rfl
theorem f_2 {τ : zSt} {c l : Nat} (hc : c < 6) (hl : l < 32) : fX0_fact (nI c) (nI l) (nI 2) τ = some (if τ 2 (c * 32 + l) = 0 then -1 else τ 4 (c * 32 + l)) := by
  unfold fX0_fact
  rw [if_neg (by decide), p_mul, nI_add, p_ag (by omega) (by omega), Option.bind_some, if_neg (show ¬ nI 2 = nI 1 by decide), if_pos rfl, p_ag (by omega) (by omega), Option.bind_some]
  split <;> rfl
/-- how many copies of the cache were used later -/
def rkN (τ : zSt) (c l : Nat) : Nat := pS (fun j => if τ 2 (c * 32 + j) = 0 then 0 else if τ 5 (c * 32 + j) ≤ τ 5 (c * 32 + l) then 0 else 1) 32 0
theorem f_3 {τ : zSt} {c l : Nat} (hc : c < 6) (hl : l < 32) : fX0_fact (nI c) (nI l) (nI 3) τ = some (if τ 2 (c * 32 + l) = 0 then -1 else nI (rkN τ c l)) := by
  unfold fX0_fact
  rw [if_neg (by decide), qx_usedLater hc hl, p_mul, nI_add, p_ag (by omega) (by omega), Option.bind_some, if_neg (show ¬ nI 3 = nI 1 by decide), if_neg (show ¬ nI 3 = nI 2 by decide), Option.bind_some]
  split <;> rfl
def ownO (τ : zSt) (l : Nat) : Option Nat := pF (fun c => τ 2 (c * 32 + l) = nI 2) 6 0
def kdF (τ : zSt) (l : Nat) : Nat → Int32 := fun c => τ 2 (c * 32 + l)
theorem g_0 {τ : zSt} {l : Nat} (hl : l < 32) : fX4_lineFact (nI l) (nI 0) τ = some (τ 0 l) := by
  unfold fX4_lineFact
  rw [if_pos rfl, p_ag hl (by omega), Option.bind_some]
theorem g_1 {τ : zSt} {l : Nat} (hl : l < 32) : fX4_lineFact (nI l) (nI 1) τ = some (τ 1 l) := by
  unfold fX4_lineFact
  rw [if_neg (by decide), if_pos rfl, p_ag hl (by omega), Option.bind_some]
theorem g_2 {τ : zSt} {l : Nat} (hl : l < 32) : fX4_lineFact (nI l) (nI 2) τ = some (oI (ownO τ l)) := by
  unfold fX4_lineFact
  rw [if_neg (by decide), if_neg (by decide), if_pos rfl, qx_ownerOf hl, Option.bind_some]
  rfl
theorem g_3 {τ : zSt} {l : Nat} (hl : l < 32) : fX4_lineFact (nI l) (nI 3) τ = some (shF (kdF τ l) 6) := by
  unfold fX4_lineFact
  rw [if_neg (by decide), if_neg (by decide), if_neg (by decide), if_pos rfl, qx_sharersOf hl, Option.bind_some]
  rfl
theorem g_4 {τ : zSt} {l : Nat} (hl : l < 32) : fX4_lineFact (nI l) (nI 4) τ = some (if τ 6 l ≤ 0 then nI 0 else nI 1) := by
  unfold fX4_lineFact
  rw [if_neg (by decide), if_neg (by decide), if_neg (by decide), if_neg (by decide), if_pos rfl, qx_hasPage hl, Option.bind_some]
  split
  · rw [if_pos nI_0]
  · rw [if_neg (by decide)]
theorem g_5 {τ : zSt} {l : Nat} (hl : l < 32) : fX4_lineFact (nI l) (nI 5) τ = some (if τ 6 l ≤ 0 then -1 else oI (ownO τ l)) := by
  unfold fX4_lineFact
  rw [if_neg (by decide), if_neg (by decide), if_neg (by decide), if_neg (by decide), if_neg (by decide), if_pos rfl, qx_hasPage hl, Option.bind_some]
  split
  · rw [if_pos nI_0]
  · rw [if_neg (by decide), qx_ownerOf hl, Option.bind_some]
    rfl
theorem g_6 {τ : zSt} {l : Nat} (hl : l < 32) : fX4_lineFact (nI l) (nI 6) τ = some (if τ 6 l ≤ 0 then -1 else shF (kdF τ l) 6) := by
  unfold fX4_lineFact
  rw [if_neg (by decide), if_neg (by decide), if_neg (by decide), if_neg (by decide), if_neg (by decide), if_neg (by decide), if_pos rfl, qx_hasPage hl, Option.bind_some]
  split
  · rw [if_pos nI_0]
  · rw [if_neg (by decide), qx_sharersOf hl, Option.bind_some]
    rfl
theorem g_7 {τ : zSt} {l : Nat} (hl : l < 32) : fX4_lineFact (nI l) (nI 7) τ = some (if bt (τ 13 0) l = true then nI 1 else nI 0) := by
  unfold fX4_lineFact
  rw [if_neg (by decide), if_neg (by decide), if_neg (by decide), if_neg (by decide), if_neg (by decide), if_neg (by decide), if_neg (by decide), qx_isMarked hl, Option.bind_some]
  cases hb : bt (τ 13 0) l with
  | false => simp only [ifF]; rw [if_pos nI_0]
  | true =>
    simp only [ifT]
    rw [if_neg (by decide)]
    exact congrArg some (if_pos trivial).symm
theorem pF_snoc {p : Nat → Prop} [DecidablePred p] : ∀ {r k : Nat}, pF p (r + 1) k = match pF p r k with | some t => some t | none => if p (k + r) then some (k + r) else none := by
  intro r
  induction r with
  | zero => intro k; rfl
  | succ r ih =>
    intro k
    show (if p k then some k else pF p (r + 1) (k + 1)) = match (if p k then some k else pF p r (k + 1)) with | some t => some t | none => if p (k + (r + 1)) then some (k + (r + 1)) else none
    by_cases h : p k
    · rw [if_pos h, if_pos h]
    · rw [if_neg h, if_neg h, ih, show k + 1 + r = k + (r + 1) by omega]
theorem pF_ext {p : Nat → Prop} [DecidablePred p] {n : Nat} : ∀ (d : Nat), (∀ j, n ≤ j → j < n + d → ¬ p j) → pF p n 0 = pF p (n + d) 0 := by
  intro d
  induction d with
  | zero => intro _; rfl
  | succ d ih =>
    intro h
    rw [ih fun j h1 h2 => h j h1 (by omega), show n + (d + 1) = (n + d) + 1 by omega, pF_snoc]
    cases hp : pF p (n + d) 0 with
    | some t => rfl
    | none => rw [Nat.zero_add, if_neg (h (n + d) (by omega) (by omega))]
theorem shF_snoc (k : Nat → Int32) (c : Nat) : shF k (c + 1) = if k c = nI 1 then shF k c ||| ((nI 1) <<< (nI c &&& 31)) else shF k c := by
  unfold shF
  rw [pG_split, Nat.zero_add]
  rfl
/-- whether an owner has been found -/
def owB (τ : zSt) (l c : Nat) : Int32 := match pF (fun c => τ 2 (c * 32 + l) = nI 2) c 0 with
  | some _ => nI 1
  | none => nI 0
theorem kd_n {n S R P U D c l : Nat} {X : Nat → Nat → Prop} {τ : zSt} (h : pInv n S R P U D X τ) (hc : n ≤ c) (hc6 : c < 6) (hl : l < 32) : τ 2 (c * 32 + l) = 0 := by
  rcases h.2.1 c l hc6 hl with z | ⟨z, -⟩
  · exact z
  · omega
theorem s_line_l {n S R P U D l : Nat} {χ : cSt} {K : Int32 → Int32 → Int32 → Int32 → Int32 → Option Int32} (h : pInv n S R P U D noX (χ 0)) (hl : l < 32) : ∀ (r c m : Nat), c + r = n → r < m → fL_line_l13 χ K m (nI l) (oI (pF (fun c => χ 0 2 (c * 32 + l) = nI 2) c 0)) (owB (χ 0) l c) (shF (kdF (χ 0) l) c) (nI 1) (nI c) = K (nI l) (oI (pF (fun c => χ 0 2 (c * 32 + l) = nI 2) n 0)) (owB (χ 0) l n) (shF (kdF (χ 0) l) n) (nI 1) := by
  obtain ⟨⟨⟨a1, a2, -⟩, s19, -⟩, hC, hO, -⟩ := id h
  have v0 : fX8_value (nI 0) χ = some (nI n) := by
    rw [v_value (by omega)]
    unfold fX4_number
    rw [if_pos rfl, s19]
  intro r
  induction r with
  | zero =>
    intro c m hc hm
    obtain ⟨m, rfl⟩ : ∃ k, m = k + 1 := ⟨m - 1, by omega⟩
    obtain rfl : c = n := by omega
    rw [fL_line_l13, v0, Option.bind_some, if_pos (nI_le (by omega) (by omega))]
  | succ r ih =>
    intro c m hc hm
    obtain ⟨m, rfl⟩ : ∃ k, m = k + 1 := ⟨m - 1, by omega⟩
    have hcn : c < n := by omega
    rw [fL_line_l13, v0, Option.bind_some, if_neg (nI_ge (by omega) (by omega)), v_copy s19 a2 hcn hl (by omega), f_0 (by omega) hl, Option.bind_some]
    have hval : χ 0 2 (c * 32 + l) ≠ 0 → χ 0 3 (c * 32 + l) = χ 0 1 l := fun z => by
      rcases hC c l (by omega) hl with y | ⟨_, _, _, y, _⟩
      · exact absurd y z
      · exact y
    have j76 : ∀ (C : Int32 → Int32 → Int32 → Int32 → Int32 → Int32 → Option Int32) (y2 y3 w0 w1 : Int32), fL_line_j76 χ C (nI l) y2 y3 (nI 1) (nI c) (χ 0 2 (c * 32 + l)) w0 w1 = C (nI l) y2 y3 (w1 ||| w0) (nI 1) (nI (c + 1)) := fun C y2 y3 w0 w1 => by
      unfold fL_line_j76 fL_line_j121
      rw [if_neg (by decide), v_copy s19 a2 hcn hl (by omega), f_1 (by omega) hl, Option.bind_some, Option.bind_some, v_line hl (by omega), g_1 hl, Option.bind_some, nI_add]
      by_cases hk : χ 0 2 (c * 32 + l) = 0
      · rw [if_pos hk, if_pos hk, if_pos rfl]
      · rw [if_neg hk, if_neg hk, if_pos (hval hk)]
    have j58 : ∀ (C : Int32 → Int32 → Int32 → Int32 → Int32 → Int32 → Option Int32) (y2 y4 w0 w1 : Int32), y4 = shF (kdF (χ 0) l) c → fL_line_j58 χ C (nI l) y2 y4 (nI 1) (nI c) (χ 0 2 (c * 32 + l)) w0 w1 = C (nI l) y2 (w1 + w0) (shF (kdF (χ 0) l) (c + 1)) (nI 1) (nI (c + 1)) := fun C y2 y4 w0 w1 e => by
      unfold fL_line_j58
      rw [j76, j76, shF_snoc, e]
      show (if χ 0 2 (c * 32 + l) = nI 1 then _ else _) = C _ _ _ (if χ 0 2 (c * 32 + l) = nI 1 then _ else _) _ _
      by_cases h1 : χ 0 2 (c * 32 + l) = nI 1
      · rw [if_pos h1, if_pos h1]
      · rw [if_neg h1, if_neg h1, or0]
    unfold fL_line_j45
    rw [j58 _ _ _ _ _ rfl, j58 _ _ _ _ _ rfl, j58 _ _ _ _ _ rfl, j58 _ _ _ _ _ rfl]
    have e := ih (c + 1) m (by omega) (by omega)
    unfold owB at e
    rw [pF_snoc, Nat.zero_add] at e
    unfold owB
    by_cases h2 : χ 0 2 (c * 32 + l) = nI 2
    · rw [if_pos h2, if_pos h2]
      have hn0 : pF (fun c => χ 0 2 (c * 32 + l) = nI 2) c 0 = none := pF_none.mpr fun d _ hd z => by
        have := hO d c l (by omega) (by omega) hl z (by rw [h2]; decide)
        omega
      rw [hn0] at e ⊢
      simp only [] at e ⊢
      rw [if_pos h2] at e
      exact e
    · rw [if_neg h2, if_neg h2]
      rw [if_neg h2] at e
      cases hp : pF (fun c => χ 0 2 (c * 32 + l) = nI 2) c 0 with
      | some t =>
        rw [hp] at e
        exact e
      | none =>
        rw [hp] at e
        exact e
theorem s_line {n S R P U D l : Nat} {χ : cSt} (h : pInv n S R P U D noX (χ 0)) (hl : l < 32) : fL_line (nI l) χ = some (nI 1) := by
  obtain ⟨⟨⟨a1, a2, -⟩, s19, -⟩, hC, hO, -, -, hP, hM, hK, -⟩ := id h
  unfold fL_line
  have e := s_line_l (K := fun x6 x7 x8 x9 x10 => (if x10 = 0 then
  fL_line_j178 χ x6 x7 x8 x9
  else
  (if (nI 1) < x8 then
  fL_line_j178 χ x6 x7 x8 x9
  else
  (if x8 = 0 then
  fL_line_j153 χ x6 x7 x8 x9
  else
  (if x9 = 0 then
  fL_line_j153 χ x6 x7 x8 x9
  else
  fL_line_j178 χ x6 x7 x8 x9))))) h hl n 0 z_fu (by omega) (Nat.lt_of_le_of_lt a2 (by decide))
  refine Eq.trans e ?_
  have e1 : pF (fun c => χ 0 2 (c * 32 + l) = nI 2) n 0 = ownO (χ 0) l := by
    have := pF_ext (p := fun c => χ 0 2 (c * 32 + l) = nI 2) (n := n) (6 - n) (fun j h1 h2 => by
      show ¬ χ 0 2 (j * 32 + l) = nI 2
      rw [kd_n h h1 (by omega) hl]
      decide)
    rw [this, show n + (6 - n) = 6 by omega]
    rfl
  have e2 : shF (kdF (χ 0) l) n = shF (kdF (χ 0) l) 6 := shF_ext a2 (fun _ _ => rfl) fun c h1 h2 => kd_n h h1 h2 hl
  unfold owB
  rw [e1, e2, if_neg (show ¬ nI 1 = 0 by decide)]
  -- the tail
  have tail : ∀ (y3 : Int32), ((y3 = nI 1 ∧ ∃ d, d < 6 ∧ χ 0 2 (d * 32 + l) = nI 2) ∨ ((∀ c, c < 6 → χ 0 2 (c * 32 + l) ≠ nI 2) ∧ y3 = nI 0)) → fL_line_j153 χ (nI l) (oI (ownO (χ 0) l)) y3 (shF (kdF (χ 0) l) 6) = some (nI 1) := by
    intro y3 hy
    unfold fL_line_j153
    rw [v_line hl (by omega), g_2 hl, Option.bind_some, if_pos rfl, v_line hl (by omega), g_3 hl, Option.bind_some, if_pos rfl]
    have j206 : fL_line_j206 χ (nI l) (oI (ownO (χ 0) l)) y3 (shF (kdF (χ 0) l) 6) = some (nI 1) := by
      unfold fL_line_j206 fL_line_j211
      rw [v_line hl (by omega), g_4 hl, Option.bind_some]
      by_cases h6 : χ 0 6 l ≤ 0
      · have h60 := (pg_pos h hl).mp h6
        rw [if_pos h6, if_neg (show ¬ nI 0 = nI 1 by decide), if_neg (show ¬ nI 1 = 0 by decide), v_line hl (by omega), g_5 hl, Option.bind_some, if_pos h6, if_pos rfl, v_line hl (by omega), g_6 hl, Option.bind_some, if_pos h6, if_pos rfl, v_line hl (by omega), g_7 hl, Option.bind_some]
        cases hb : bt (χ 0 13 0) l with
        | true =>
          simp only [ifT]
          rw [if_pos trivial]
          rfl
        | false =>
          have hz := (hK l hl).2 h60 hb
          simp only [ifF]
          rw [if_neg (show ¬ nI 0 = nI 1 by decide)]
          rcases hy with ⟨-, d, hd, hd2⟩ | ⟨-, hy⟩
          · rw [hz d hd] at hd2
            exact absurd hd2 (by decide)
          · rw [if_pos (by rw [hy]; exact nI_0), if_pos ((sh_zero _).mpr fun c hc => by
              show χ 0 2 (c * 32 + l) ≠ nI 1
              rw [hz c hc]
              decide)]
            rfl
      · have h60 : χ 0 6 l ≠ 0 := fun z => h6 ((pg_pos h hl).mpr z)
        rw [if_neg h6, if_pos rfl, if_neg (show ¬ nI 1 = 0 by decide), v_line hl (by omega), g_5 hl, Option.bind_some, if_neg h6, if_pos rfl, v_line hl (by omega), g_6 hl, Option.bind_some, if_neg h6, if_pos rfl, v_line hl (by omega), g_7 hl, Option.bind_some, (hK l hl).1 h60]
        simp only [ifF]
        rw [if_pos nI_0]
        rfl
    unfold fL_line_j179
    rw [if_neg (show ¬ nI 1 = 0 by decide)]
    rcases hy with ⟨hy, -⟩ | ⟨hn, hy⟩
    · rw [if_pos hy]; exact j206
    · rw [if_neg (by rw [hy]; decide), v_line hl (by omega), g_0 hl, Option.bind_some, v_line hl (by omega), g_1 hl, Option.bind_some, if_pos (hM l hl hn)]
      exact j206
  cases ho : ownO (χ 0) l with
  | none =>
    simp only []
    rw [if_neg (show ¬ nI 1 < nI 0 by decide), if_pos nI_0]
    rw [← ho]
    exact tail _ (Or.inr ⟨fun c hc z => pF_none.mp ho c (by omega) (by omega) z, rfl⟩)
  | some d =>
    obtain ⟨d1, d2, d3, -⟩ := pF_some ho
    simp only []
    rw [if_neg (show ¬ nI 1 < nI 1 by decide), if_neg (show ¬ nI 1 = 0 by decide), if_pos ((sh_zero _).mpr fun c hc z => by
      have z' : χ 0 2 (c * 32 + l) = nI 1 := z
      have := hO d c l (by omega) hc hl d3 (by rw [z']; decide)
      rw [← this, d3] at z'
      exact absurd z' (by decide))]
    rw [← ho]
    exact tail _ (Or.inl ⟨rfl, d, by omega, d3⟩)
