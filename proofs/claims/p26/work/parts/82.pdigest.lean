/-! the digest -/
def hs (a : Int64) (x : Int32) : Int64 := ((31 : Int64) * a) + x.toInt64
section DC
variable {χ : cSt} {n C : Nat} {N : Nat → Int32} {Lv : Nat → Nat → Int32} {Cv : Nat → Nat → Nat → Int32} {Pv : Nat → Nat → Int32} {Gv : Nat → Nat → Int32}
theorem qd_12 {K : Int64 → Option Int64} (hN : ∀ k, k < 14 → fX4_number (nI k) (χ 0) = some (N k)) : ∀ (r k m : Nat) (a : Int64), k + r = 14 → r < m → fX8_digest_l12 χ K m a (nI k) = K (pG (fun k a => hs a (N k)) r k a) := by
  intro r
  induction r with
  | zero =>
    intro k m a hk hm
    obtain ⟨m, rfl⟩ : ∃ k, m = k + 1 := ⟨m - 1, by omega⟩
    rw [fX8_digest_l12, if_pos (nI_le (by omega) (by omega))]
    rfl
  | succ r ih =>
    intro k m a hk hm
    obtain ⟨m, rfl⟩ : ∃ k, m = k + 1 := ⟨m - 1, by omega⟩
    rw [fX8_digest_l12, if_neg (nI_ge (by omega) (by omega)), hN k (by omega), Option.bind_some, nI_add, ih (k + 1) m _ (by omega) (by omega)]
    rfl
theorem qd_6 {K : Int32 → Int64 → Option Int64} {l : Nat} (hL : ∀ k, k < 8 → fX4_lineFact (nI l) (nI k) (χ 0) = some (Lv l k)) : ∀ (r k m : Nat) (a : Int64), k + r = 8 → r < m → fX8_hashLine_l6 χ K m (nI l) a (nI k) = K (nI l) (pG (fun k a => hs a (Lv l k)) r k a) := by
  intro r
  induction r with
  | zero =>
    intro k m a hk hm
    obtain ⟨m, rfl⟩ : ∃ k, m = k + 1 := ⟨m - 1, by omega⟩
    rw [fX8_hashLine_l6, if_pos (nI_le (by omega) (by omega))]
    rfl
  | succ r ih =>
    intro k m a hk hm
    obtain ⟨m, rfl⟩ : ∃ k, m = k + 1 := ⟨m - 1, by omega⟩
    rw [fX8_hashLine_l6, if_neg (nI_ge (by omega) (by omega)), hL k (by omega), Option.bind_some, nI_add, ih (k + 1) m _ (by omega) (by omega)]
    rfl
theorem qd_57 {K : Int32 → Int64 → Int32 → Option Int64} {l c : Nat} (hC : ∀ k, k < 4 → fX0_fact (nI c) (nI l) (nI k) (χ 0) = some (Cv c l k)) : ∀ (r k m : Nat) (a : Int64), k + r = 4 → r < m → fX8_hashLine_l57 χ K m (nI l) a (nI c) (nI k) = K (nI l) (pG (fun k a => hs a (Cv c l k)) r k a) (nI c) := by
  intro r
  induction r with
  | zero =>
    intro k m a hk hm
    obtain ⟨m, rfl⟩ : ∃ k, m = k + 1 := ⟨m - 1, by omega⟩
    rw [fX8_hashLine_l57, if_pos (nI_le (by omega) (by omega))]
    rfl
  | succ r ih =>
    intro k m a hk hm
    obtain ⟨m, rfl⟩ : ∃ k, m = k + 1 := ⟨m - 1, by omega⟩
    rw [fX8_hashLine_l57, if_neg (nI_ge (by omega) (by omega)), hC k (by omega), Option.bind_some, nI_add, ih (k + 1) m _ (by omega) (by omega)]
    rfl
theorem qd_42h {K : Int64 → Option Int64} {l : Nat} (hn : n ≤ 6) (h19 : χ 0 19 0 = nI n) (hC : ∀ c k, c < n → k < 4 → fX0_fact (nI c) (nI l) (nI k) (χ 0) = some (Cv c l k)) : ∀ (r c m : Nat) (a : Int64), c + r = n → r < m → fX8_hashLine_l42 χ K m (nI l) a (nI c) = K (pG (fun c a => pG (fun k a => hs a (Cv c l k)) 4 0 a) r c a) := by
  intro r
  induction r with
  | zero =>
    intro c m a hk hm
    obtain ⟨m, rfl⟩ : ∃ k, m = k + 1 := ⟨m - 1, by omega⟩
    rw [fX8_hashLine_l42, h19, if_pos (nI_le (by omega) (by omega))]
    rfl
  | succ r ih =>
    intro c m a hk hm
    obtain ⟨m, rfl⟩ : ∃ k, m = k + 1 := ⟨m - 1, by omega⟩
    rw [fX8_hashLine_l42, h19, if_neg (nI_ge (by omega) (by omega)), qd_57 (fun k hk4 => hC c k (by omega) hk4) 4 0 z_fu a rfl (by decide), nI_add, ih (c + 1) m _ (by omega) (by omega)]
    rfl
theorem qd_line {l : Nat} (hn : n ≤ 6) (h19 : χ 0 19 0 = nI n) (hL : ∀ k, k < 8 → fX4_lineFact (nI l) (nI k) (χ 0) = some (Lv l k)) (hC : ∀ c k, c < n → k < 4 → fX0_fact (nI c) (nI l) (nI k) (χ 0) = some (Cv c l k)) (a : Int64) : fX8_hashLine a (nI l) χ = some (pG (fun c a => pG (fun k a => hs a (Cv c l k)) 4 0 a) n 0 (pG (fun k a => hs a (Lv l k)) 8 0 a)) := by
  unfold fX8_hashLine
  rw [qd_6 hL 8 0 z_fu a rfl (by decide), qd_42h hn h19 hC n 0 z_fu _ (by omega) (Nat.lt_of_le_of_lt hn (by decide))]
theorem qd_42 {K : Int64 → Option Int64} (hn : n ≤ 6) (h19 : χ 0 19 0 = nI n) (hL : ∀ l k, l < 32 → k < 8 → fX4_lineFact (nI l) (nI k) (χ 0) = some (Lv l k)) (hC : ∀ l c k, l < 32 → c < n → k < 4 → fX0_fact (nI c) (nI l) (nI k) (χ 0) = some (Cv c l k)) : ∀ (r l m : Nat) (a : Int64), l + r = 32 → r < m → fX8_digest_l42 χ K m a (nI l) = K (pG (fun l a => pG (fun c a => pG (fun k a => hs a (Cv c l k)) 4 0 a) n 0 (pG (fun k a => hs a (Lv l k)) 8 0 a)) r l a) := by
  intro r
  induction r with
  | zero =>
    intro l m a hk hm
    obtain ⟨m, rfl⟩ : ∃ k, m = k + 1 := ⟨m - 1, by omega⟩
    rw [fX8_digest_l42, if_pos (nI_le (by omega) (by omega))]
    rfl
  | succ r ih =>
    intro l m a hk hm
    obtain ⟨m, rfl⟩ : ∃ k, m = k + 1 := ⟨m - 1, by omega⟩
    rw [fX8_digest_l42, if_neg (nI_ge (by omega) (by omega)), qd_line hn h19 (fun k hk8 => hL l k (by omega) hk8) (fun c k hc hk4 => hC l c k (by omega) hc hk4) a, Option.bind_some, nI_add, ih (l + 1) m _ (by omega) (by omega)]
    rfl
theorem qd_77 {K : Int64 → Int32 → Option Int64} {c : Nat} (hP : ∀ k, k < 3 → fX7_fact (nI c) (nI k) (χ 0) = some (Pv c k)) : ∀ (r k m : Nat) (a : Int64), k + r = 3 → r < m → fX8_digest_l77 χ K m a (nI c) (nI k) = K (pG (fun k a => hs a (Pv c k)) r k a) (nI c) := by
  intro r
  induction r with
  | zero =>
    intro k m a hk hm
    obtain ⟨m, rfl⟩ : ∃ k, m = k + 1 := ⟨m - 1, by omega⟩
    rw [fX8_digest_l77, if_pos (nI_le (by omega) (by omega))]
    rfl
  | succ r ih =>
    intro k m a hk hm
    obtain ⟨m, rfl⟩ : ∃ k, m = k + 1 := ⟨m - 1, by omega⟩
    rw [fX8_digest_l77, if_neg (nI_ge (by omega) (by omega)), hP k (by omega), Option.bind_some, nI_add, ih (k + 1) m _ (by omega) (by omega)]
    rfl
theorem qd_63 {K : Int64 → Option Int64} (hn : n ≤ 6) (h19 : χ 0 19 0 = nI n) (hP : ∀ c k, c < n → k < 3 → fX7_fact (nI c) (nI k) (χ 0) = some (Pv c k)) : ∀ (r c m : Nat) (a : Int64), c + r = n → r < m → fX8_digest_l63 χ K m a (nI c) = K (pG (fun c a => pG (fun k a => hs a (Pv c k)) 3 0 a) r c a) := by
  intro r
  induction r with
  | zero =>
    intro c m a hk hm
    obtain ⟨m, rfl⟩ : ∃ k, m = k + 1 := ⟨m - 1, by omega⟩
    rw [fX8_digest_l63, h19, if_pos (nI_le (by omega) (by omega))]
    rfl
  | succ r ih =>
    intro c m a hk hm
    obtain ⟨m, rfl⟩ : ∃ k, m = k + 1 := ⟨m - 1, by omega⟩
    rw [fX8_digest_l63, h19, if_neg (nI_ge (by omega) (by omega)), qd_77 (fun k hk4 => hP c k (by omega) hk4) 3 0 z_fu a rfl (by decide), nI_add, ih (c + 1) m _ (by omega) (by omega)]
    rfl
theorem qd_135 {K : Int64 → Int32 → Option Int64} {c : Nat} (hG : ∀ k, k < 6 → fX3_fact (nI c) (nI k) (χ 0) = some (Gv c k)) : ∀ (r k m : Nat) (a : Int64), k + r = 6 → r < m → fX8_digest_l135 χ K m a (nI c) (nI k) = K (pG (fun k a => hs a (Gv c k)) r k a) (nI c) := by
  intro r
  induction r with
  | zero =>
    intro k m a hk hm
    obtain ⟨m, rfl⟩ : ∃ k, m = k + 1 := ⟨m - 1, by omega⟩
    rw [fX8_digest_l135, if_pos (nI_le (by omega) (by omega))]
    rfl
  | succ r ih =>
    intro k m a hk hm
    obtain ⟨m, rfl⟩ : ∃ k, m = k + 1 := ⟨m - 1, by omega⟩
    rw [fX8_digest_l135, if_neg (nI_ge (by omega) (by omega)), hG k (by omega), Option.bind_some, nI_add, ih (k + 1) m _ (by omega) (by omega)]
    rfl
theorem qd_118 {K : Int64 → Option Int64} (hC : C ≤ 12) (h18 : χ 0 18 0 = nI C) (hG : ∀ c k, c < C → k < 6 → fX3_fact (nI c) (nI k) (χ 0) = some (Gv c k)) : ∀ (r c m : Nat) (a : Int64), c + r = C → r < m → fX8_digest_l118 χ K m a (nI c) = K (pG (fun c a => pG (fun k a => hs a (Gv c k)) 6 0 a) r c a) := by
  intro r
  induction r with
  | zero =>
    intro c m a hk hm
    obtain ⟨m, rfl⟩ : ∃ k, m = k + 1 := ⟨m - 1, by omega⟩
    rw [fX8_digest_l118, h18, if_pos (nI_le (by omega) (by omega))]
    rfl
  | succ r ih =>
    intro c m a hk hm
    obtain ⟨m, rfl⟩ : ∃ k, m = k + 1 := ⟨m - 1, by omega⟩
    rw [fX8_digest_l118, h18, if_neg (nI_ge (by omega) (by omega)), qd_135 (fun k hk4 => hG c k (by omega) hk4) 6 0 z_fu a rfl (by decide), nI_add, ih (c + 1) m _ (by omega) (by omega)]
    rfl
end DC

def dV (n C : Nat) (N : Nat → Int32) (Lv : Nat → Nat → Int32) (Cv : Nat → Nat → Nat → Int32) (Pv Gv : Nat → Nat → Int32) (L H x : Int32) : Int64 := ((31 : Int64) * (((31 : Int64) * (pG (fun c a => pG (fun k a => hs a (Gv c k)) 6 0 a) C 0 (pG (fun c a => pG (fun k a => hs a (Pv c k)) 3 0 a) n 0 (pG (fun l a => pG (fun c a => pG (fun k a => hs a (Cv c l k)) 4 0 a) n 0 (pG (fun k a => hs a (Lv l k)) 8 0 a)) 32 0 (pG (fun k a => hs a (N k)) 14 0 ((113987 : Int64) + (L.toInt64))))))) + x.toInt64)) + (H.toInt64)
theorem dg {χ : cSt} {n C : Nat} {N : Nat → Int32} {Lv : Nat → Nat → Int32} {Cv : Nat → Nat → Nat → Int32} {Pv Gv : Nat → Nat → Int32} {x : Int32} (a2 : n ≤ 6) (h19 : χ 0 19 0 = nI n) (l1 : C ≤ 12) (h18 : χ 0 18 0 = nI C) (hN : ∀ k, k < 14 → fX4_number (nI k) (χ 0) = some (N k)) (hL : ∀ l k, l < 32 → k < 8 → fX4_lineFact (nI l) (nI k) (χ 0) = some (Lv l k)) (hC : ∀ l c k, l < 32 → c < n → k < 4 → fX0_fact (nI c) (nI l) (nI k) (χ 0) = some (Cv c l k)) (hP : ∀ c k, c < n → k < 3 → fX7_fact (nI c) (nI k) (χ 0) = some (Pv c k)) (hG : ∀ c k, c < C → k < 6 → fX3_fact (nI c) (nI k) (χ 0) = some (Gv c k)) (ht : fX1_lineToTear (χ 0) = some x) : fX8_digest χ = some (dV n C N Lv Cv Pv Gv (χ 7 0 0) (χ 7 1 0) x) := by
  unfold fX8_digest
  rw [qd_12 hN 14 0 z_fu _ rfl (by decide), qd_42 a2 h19 hL hC 32 0 z_fu _ rfl (by decide), qd_63 a2 h19 hP n 0 z_fu _ (by omega) (Nat.lt_of_le_of_lt a2 (by decide)), qd_118 l1 h18 hG C 0 z_fu _ (by omega) (Nat.lt_of_le_of_lt l1 (by decide)), ht, Option.bind_some]
  rfl
theorem ownO_g {τ τ' : zSt} {l : Nat} (hl : l < 32) (t2 : ∀ c l, c < 6 → l < 32 → τ' 2 (c * 32 + l) = τ 2 (c * 32 + l)) : ownO τ' l = ownO τ l := pF_congr fun x _ hx => by rw [t2 x l (by omega) hl]
theorem shF_g {τ τ' : zSt} {l : Nat} (hl : l < 32) (t2 : ∀ c l, c < 6 → l < 32 → τ' 2 (c * 32 + l) = τ 2 (c * 32 + l)) : shF (kdF τ' l) 6 = shF (kdF τ l) 6 := pG_congr fun x _ hx y => by
  show (if τ' 2 (x * 32 + l) = nI 1 then _ else _) = (if τ 2 (x * 32 + l) = nI 1 then _ else _)
  rw [t2 x l (by omega) hl]
theorem tear_g_l {τ τ' : zSt} {K : Int32 → Option Int32} (t6 : ∀ l, l < 32 → τ' 6 l = τ 6 l) : ∀ (r l m : Nat) (y1 y2 : Int32), l + r = 32 → r < m → fX1_lineToTear_l19 τ' K m y1 y2 (nI l) = fX1_lineToTear_l19 τ K m y1 y2 (nI l) := by
  intro r
  induction r with
  | zero =>
    intro l m y1 y2 hl hm
    obtain ⟨m, rfl⟩ : ∃ k, m = k + 1 := ⟨m - 1, by omega⟩
    rw [fX1_lineToTear_l19, fX1_lineToTear_l19, if_pos (nI_le (by omega) (by omega)), if_pos (nI_le (by omega) (by omega))]
  | succ r ih =>
    intro l m y1 y2 hl hm
    obtain ⟨m, rfl⟩ : ∃ k, m = k + 1 := ⟨m - 1, by omega⟩
    have hl32 : l < 32 := by omega
    rw [fX1_lineToTear_l19, fX1_lineToTear_l19]
    unfold fX1_lineToTear_j49
    rw [p_ag (f := τ' 6) hl32 (by omega), p_ag (f := τ 6) hl32 (by omega), Option.bind_some, Option.bind_some, Option.bind_some, Option.bind_some, t6 l hl32, nI_add, ih (l + 1) m _ _ (by omega) (by omega), ih (l + 1) m _ _ (by omega) (by omega)]
    rfl
theorem number_g {τ τ' : zSt} (ht : gEq τ τ') : ∀ k, k < 14 → fX4_number (nI k) τ' = fX4_number (nI k) τ := by
  have sc : ∀ i, i < 27 → 11 ≤ i → τ' i 0 = τ i 0 := fun i hi h2 => ht i hi 0 (by rw [gR_1 i hi h2]; exact Nat.zero_lt_one)
  have hc : fX7_count τ' = fX7_count τ := by
    rw [qx_count, qx_count]
    congr 2
    exact pS_congr fun c _ hc => by rw [ht 7 (by omega) c (show c < 6 by omega)]
  intro k _
  unfold fX4_number
  rw [sc 19 (by omega) (by omega), sc 20 (by omega) (by omega), sc 14 (by omega) (by omega), sc 15 (by omega) (by omega), sc 21 (by omega) (by omega), sc 22 (by omega) (by omega), sc 23 (by omega) (by omega), sc 24 (by omega) (by omega), sc 25 (by omega) (by omega), sc 16 (by omega) (by omega), sc 17 (by omega) (by omega), sc 26 (by omega) (by omega), sc 18 (by omega) (by omega), hc]
theorem ex_ite {α : Type} {c : Prop} [Decidable c] {a b : Option α} (h1 : ∃ x, a = some x) (h2 : ∃ x, b = some x) : ∃ x, (if c then a else b) = some x := by
  by_cases h : c
  · rw [if_pos h]; exact h1
  · rw [if_neg h]; exact h2
theorem number_some (τ : zSt) (k : Nat) : ∃ x, fX4_number (nI k) τ = some x := by
  unfold fX4_number
  rw [qx_count]
  simp only [Option.bind_some]
  repeat (refine ex_ite ⟨_, rfl⟩ ?_)
  exact ⟨_, rfl⟩
theorem lf_cases {k : Nat} (hk : k < 8) : k = 0 ∨ k = 1 ∨ k = 2 ∨ k = 3 ∨ k = 4 ∨ k = 5 ∨ k = 6 ∨ k = 7 := by omega
theorem lineFact_g {τ τ' : zSt} (ht : gEq τ τ') {l k : Nat} (hl : l < 32) (hk : k < 8) : fX4_lineFact (nI l) (nI k) τ' = fX4_lineFact (nI l) (nI k) τ ∧ ∃ x, fX4_lineFact (nI l) (nI k) τ = some x := by
  have t2 : ∀ c l, c < 6 → l < 32 → τ' 2 (c * 32 + l) = τ 2 (c * 32 + l) := fun c l hc hl => ht 2 (by omega) _ (show c * 32 + l < 192 by omega)
  have t6 : τ' 6 l = τ 6 l := ht 6 (by omega) l hl
  have t13 : τ' 13 0 = τ 13 0 := ht 13 (by omega) 0 (by rw [gR_1 13 (by omega) (by omega)]; exact Nat.zero_lt_one)
  rcases lf_cases hk with rfl | rfl | rfl | rfl | rfl | rfl | rfl | rfl
  · rw [g_0 hl, g_0 hl, ht 0 (by omega) l hl]; exact ⟨rfl, _, rfl⟩
  · rw [g_1 hl, g_1 hl, ht 1 (by omega) l hl]; exact ⟨rfl, _, rfl⟩
  · rw [g_2 hl, g_2 hl, ownO_g hl t2]; exact ⟨rfl, _, rfl⟩
  · rw [g_3 hl, g_3 hl, shF_g hl t2]; exact ⟨rfl, _, rfl⟩
  · rw [g_4 hl, g_4 hl, t6]; exact ⟨rfl, _, rfl⟩
  · rw [g_5 hl, g_5 hl, ownO_g hl t2, t6]; exact ⟨rfl, _, rfl⟩
  · rw [g_6 hl, g_6 hl, shF_g hl t2, t6]; exact ⟨rfl, _, rfl⟩
  · rw [g_7 hl, g_7 hl, t13]; exact ⟨rfl, _, rfl⟩
theorem fact_g {τ τ' : zSt} (ht : gEq τ τ') {c l k : Nat} (hc : c < 6) (hl : l < 32) (hk : k < 4) : fX0_fact (nI c) (nI l) (nI k) τ' = fX0_fact (nI c) (nI l) (nI k) τ ∧ ∃ x, fX0_fact (nI c) (nI l) (nI k) τ = some x := by
  have t2 : ∀ l, l < 32 → τ' 2 (c * 32 + l) = τ 2 (c * 32 + l) := fun l hl => ht 2 (by omega) _ (show c * 32 + l < 192 by omega)
  have t5 : ∀ l, l < 32 → τ' 5 (c * 32 + l) = τ 5 (c * 32 + l) := fun l hl => ht 5 (by omega) _ (show c * 32 + l < 192 by omega)
  rcases (show k = 0 ∨ k = 1 ∨ k = 2 ∨ k = 3 by omega) with rfl | rfl | rfl | rfl
  · rw [f_0 hc hl, f_0 hc hl, t2 l hl]; exact ⟨rfl, _, rfl⟩
  · rw [f_1 hc hl, f_1 hc hl, t2 l hl, ht 3 (by omega) (c * 32 + l) (show c * 32 + l < 192 by omega)]; exact ⟨rfl, _, rfl⟩
  · rw [f_2 hc hl, f_2 hc hl, t2 l hl, ht 4 (by omega) (c * 32 + l) (show c * 32 + l < 192 by omega)]; exact ⟨rfl, _, rfl⟩
  · have e : rkN τ' c l = rkN τ c l := pS_congr fun j _ hj => by rw [t2 j (by omega), t5 j (by omega), t5 l hl]
    rw [f_3 hc hl, f_3 hc hl, t2 l hl, e]; exact ⟨rfl, _, rfl⟩
theorem pfact_g {τ τ' : zSt} (ht : gEq τ τ') {c k : Nat} (hc : c < 6) : fX7_fact (nI c) (nI k) τ' = fX7_fact (nI c) (nI k) τ ∧ ∃ x, fX7_fact (nI c) (nI k) τ = some x := by
  unfold fX7_fact
  rw [p_ag (f := τ' 7) hc (by omega), p_ag (f := τ 7) hc (by omega), p_ag (f := τ' 8) hc (by omega), p_ag (f := τ 8) hc (by omega), p_ag (f := τ' 9) hc (by omega), p_ag (f := τ 9) hc (by omega), ht 7 (by omega) c hc, ht 8 (by omega) c hc, ht 9 (by omega) c hc]
  refine ⟨rfl, ?_⟩
  simp only [Option.bind_some]
  repeat (refine ex_ite ⟨_, rfl⟩ ?_)
  exact ⟨_, rfl⟩
theorem lfact_g {τ τ' : zSt} (ht : gEq τ τ') {c k : Nat} (hc : c < 12) (hk : k < 6) : fX3_fact (nI c) (nI k) τ' = fX3_fact (nI c) (nI k) τ ∧ ∃ x, fX3_fact (nI c) (nI k) τ = some x := by
  unfold fX3_fact
  rw [p_mul, nI_add, p_ag (f := τ' 10) (by omega) (by omega), p_ag (f := τ 10) (by omega) (by omega), ht 10 (by omega) (c * 6 + k) (show c * 6 + k < 72 by omega)]
  exact ⟨rfl, _, rfl⟩
theorem gdS {o : Option Int32} (h : ∃ x, o = some x) : o = some (o.getD 0) := by
  obtain ⟨x, h⟩ := h
  rw [h]
  rfl
theorem o_dig {n S R P U D T V : Nat} {χ χ' : cSt} (h : mach n S R P U D T V (χ 0)) (ht : gEq (χ 0) (χ' 0)) (e0 : χ' 7 0 0 = χ 7 0 0) (e1 : χ' 7 1 0 = χ 7 1 0) : fX8_digest χ' = fX8_digest χ ∧ ∃ d, fX8_digest χ = some d := by
  obtain ⟨⟨⟨a1, a2, -⟩, s19, -⟩, -⟩ := id h.1
  have h' := mach_g h ht
  have hl := iLogN_le V
  have hx : ∃ x, fX1_lineToTear (χ 0) = some x := by
    rcases i_torn h.1 with ⟨_, e⟩ | ⟨_, m, _, _, e⟩
    · exact ⟨_, e⟩
    · exact ⟨_, e⟩
  obtain ⟨x, hx⟩ := hx
  have hx' : fX1_lineToTear (χ' 0) = some x := by
    rw [← hx]
    unfold fX1_lineToTear
    rw [ht 14 (by omega) 0 (by rw [gR_1 14 (by omega) (by omega)]; exact Nat.zero_lt_one), ht 15 (by omega) 0 (by rw [gR_1 15 (by omega) (by omega)]; exact Nat.zero_lt_one), tear_g_l (ht 6 (by omega)) 32 0 z_fu _ _ rfl (by decide)]
  have A := dg (χ := χ) (n := n) (C := iLogN V) (N := fun k => (fX4_number (nI k) (χ 0)).getD 0) (Lv := fun l k => (fX4_lineFact (nI l) (nI k) (χ 0)).getD 0) (Cv := fun c l k => (fX0_fact (nI c) (nI l) (nI k) (χ 0)).getD 0) (Pv := fun c k => (fX7_fact (nI c) (nI k) (χ 0)).getD 0) (Gv := fun c k => (fX3_fact (nI c) (nI k) (χ 0)).getD 0) a2 s19 hl h.2.2.1 (fun k _ => gdS (number_some _ k)) (fun l k hl hk => gdS (lineFact_g gEq_rfl hl hk).2) (fun l c k hl hc hk => gdS (fact_g gEq_rfl (by omega) hl hk).2) (fun c k hc hk => gdS (pfact_g gEq_rfl (by omega)).2) (fun c k hc hk => gdS (lfact_g gEq_rfl (by omega) hk).2) hx
  have B := dg (χ := χ') (n := n) (C := iLogN V) (N := fun k => (fX4_number (nI k) (χ 0)).getD 0) (Lv := fun l k => (fX4_lineFact (nI l) (nI k) (χ 0)).getD 0) (Cv := fun c l k => (fX0_fact (nI c) (nI l) (nI k) (χ 0)).getD 0) (Pv := fun c k => (fX7_fact (nI c) (nI k) (χ 0)).getD 0) (Gv := fun c k => (fX3_fact (nI c) (nI k) (χ 0)).getD 0) a2 h'.1.1.2.1 hl h'.2.2.1 (fun k hk => (number_g ht k hk).trans (gdS (number_some _ k))) (fun l k hl hk => (lineFact_g ht hl hk).1.trans (gdS (lineFact_g gEq_rfl hl hk).2)) (fun l c k hl hc hk => (fact_g ht (by omega) hl hk).1.trans (gdS (fact_g gEq_rfl (by omega) hl hk).2)) (fun c k hc hk => (pfact_g ht (by omega)).1.trans (gdS (pfact_g gEq_rfl (by omega)).2)) (fun c k hc hk => (lfact_g ht (by omega) hk).1.trans (gdS (lfact_g gEq_rfl (by omega) hk).2)) hx'
  rw [e0, e1] at B
  exact ⟨B.trans A.symm, _, A⟩
