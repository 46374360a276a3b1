/-! the digest -/
def hs (a : Int64) (x : Int32) : Int64 := ((31 : Int64) * a) + x.toInt64
theorem gd_some {o o' : Option Int32} (h : ∃ x, o = some x ∧ o' = some x) : o = some (o.getD 0) ∧ o' = some (o.getD 0) := by
  obtain ⟨x, h1, h2⟩ := h
  rw [h1]
  exact ⟨rfl, h2⟩
theorem b2_g {α β γ : Type} {x : α} {y : β} {f : α → β → Option γ} : z_b2 (some (x, y)) f = f x y := rfl
theorem z_dv_nI {a d : Nat} (ha : a < 2 ^ 31) (h0 : 0 < d) (hd : d < 2 ^ 31) : z_dv (nI a) (nI d) = some (nI (a / d)) := by
  unfold z_dv
  rw [if_neg (nI_ne0 h0 hd), pk_div ha h0 hd]
theorem pG_shift {α : Type} {f : Nat → α → α} {k0 : Nat} : ∀ (r k : Nat) (a : α), pG f r (k0 + k) a = pG (fun w => f (k0 + w)) r k a := by
  intro r
  induction r with
  | zero => exact fun _ _ => rfl
  | succ r ih => exact fun k a => ih (k + 1) _
theorem pG_flat {F : Nat → Nat → Int64 → Int64} {d : Nat} (hd : 0 < d) : ∀ (r c : Nat) (a : Int64), pG (fun k a => F (k / d) (k % d) a) (d * r) (d * c) a = pG (fun c a => pG (fun w a => F c w a) d 0 a) r c a := by
  intro r
  induction r with
  | zero => exact fun _ _ => rfl
  | succ r ih =>
    intro c a
    rw [show d * (r + 1) = d + d * r by rw [Nat.mul_succ, Nat.add_comm], pG_split, show d * c + d = d * (c + 1) by rw [Nat.mul_succ], ih (c + 1)]
    show _ = pG _ r (c + 1) (pG (fun w a => F c w a) d 0 a)
    congr 1
    have := pG_shift (f := fun k a => F (k / d) (k % d) a) (k0 := d * c) d 0 a
    rw [Nat.add_zero] at this
    rw [this]
    exact pG_congr fun w _ hw b => by
      rw [Nat.zero_add] at hw
      show F ((d * c + w) / d) ((d * c + w) % d) b = F c w b
      rw [Nat.mul_add_div hd, Nat.div_eq_of_lt hw, Nat.add_zero, Nat.mul_add_mod, Nat.mod_eq_of_lt hw]
section DC
variable {χ : cSt} {n C : Nat} {N : Nat → Int32} {Lv : Nat → Nat → Int32} {Cv : Nat → Nat → Nat → Int32} {Pv : Nat → Nat → Int32} {Gv : Nat → Nat → Int32}
theorem qd_12 {K : Int64 → Option Int64} (hN : ∀ k, k < 14 → fX4_number (nI k) (χ 0) = some (N k)) : ∀ (r k m : Nat) (a : Int64), k + r = 14 → r < m → fX8_digest_l12 χ K m a (nI k) = K (pG (fun k a => hs a (N k)) r k a) := by
  intro r
  induction r with
  | zero =>
    intro k m a hk hm
    obtain ⟨m, rfl⟩ : ∃ k, m = k + 1 := ⟨m - 1, by omega⟩
    rw [fX8_digest_l12, if_pos (nI_le (by omega) (by omega))]
    rfl
  | succ r ih =>
    intro k m a hk hm
    obtain ⟨m, rfl⟩ : ∃ k, m = k + 1 := ⟨m - 1, by omega⟩
    rw [fX8_digest_l12, if_neg (nI_ge (by omega) (by omega)), hN k (by omega), Option.bind_some, nI_add, ih (k + 1) m _ (by omega) (by omega)]
    rfl
theorem qd_6 {K : Int32 → Int64 → Option Int64} {l : Nat} (hL : ∀ k, k < 8 → fX4_lineFact (nI l) (nI k) (χ 0) = some (Lv l k)) : ∀ (r k m : Nat) (a : Int64), k + r = 8 → r < m → fX8_hashLine_l6 χ K m (nI l) a (nI k) = K (nI l) (pG (fun k a => hs a (Lv l k)) r k a) := by
  intro r
  induction r with
  | zero =>
    intro k m a hk hm
    obtain ⟨m, rfl⟩ : ∃ k, m = k + 1 := ⟨m - 1, by omega⟩
    rw [fX8_hashLine_l6, if_pos (nI_le (by omega) (by omega))]
    rfl
  | succ r ih =>
    intro k m a hk hm
    obtain ⟨m, rfl⟩ : ∃ k, m = k + 1 := ⟨m - 1, by omega⟩
    rw [fX8_hashLine_l6, if_neg (nI_ge (by omega) (by omega)), hL k (by omega), Option.bind_some, nI_add, ih (k + 1) m _ (by omega) (by omega)]
    rfl
theorem qd_57 {K : Int32 → Int64 → Int32 → Option Int64} {l c : Nat} (hC : ∀ k, k < 4 → fX0_fact (nI c) (nI l) (nI k) (χ 0) = some (Cv c l k)) : ∀ (r k m : Nat) (a : Int64), k + r = 4 → r < m → fX8_hashLine_l57 χ K m (nI l) a (nI c) (nI k) = K (nI l) (pG (fun k a => hs a (Cv c l k)) r k a) (nI c) := by
  intro r
  induction r with
  | zero =>
    intro k m a hk hm
    obtain ⟨m, rfl⟩ : ∃ k, m = k + 1 := ⟨m - 1, by omega⟩
    rw [fX8_hashLine_l57, if_pos (nI_le (by omega) (by omega))]
    rfl
  | succ r ih =>
    intro k m a hk hm
    obtain ⟨m, rfl⟩ : ∃ k, m = k + 1 := ⟨m - 1, by omega⟩
    rw [fX8_hashLine_l57, if_neg (nI_ge (by omega) (by omega)), hC k (by omega), Option.bind_some, nI_add, ih (k + 1) m _ (by omega) (by omega)]
    rfl
theorem qd_42h {K : Int64 → Option Int64} {l : Nat} (hn : n ≤ 6) (h19 : χ 0 19 0 = nI n) (hC : ∀ c k, c < n → k < 4 → fX0_fact (nI c) (nI l) (nI k) (χ 0) = some (Cv c l k)) : ∀ (r c m : Nat) (a : Int64), c + r = n → r < m → fX8_hashLine_l42 χ K m (nI l) a (nI c) = K (pG (fun c a => pG (fun k a => hs a (Cv c l k)) 4 0 a) r c a) := by
  intro r
  induction r with
  | zero =>
    intro c m a hk hm
    obtain ⟨m, rfl⟩ : ∃ k, m = k + 1 := ⟨m - 1, by omega⟩
    rw [fX8_hashLine_l42, h19, if_pos (nI_le (by omega) (by omega))]
    rfl
  | succ r ih =>
    intro c m a hk hm
    obtain ⟨m, rfl⟩ : ∃ k, m = k + 1 := ⟨m - 1, by omega⟩
    rw [fX8_hashLine_l42, h19, if_neg (nI_ge (by omega) (by omega)), qd_57 (fun k hk4 => hC c k (by omega) hk4) 4 0 z_fu a rfl (by decide), nI_add, ih (c + 1) m _ (by omega) (by omega)]
    rfl
theorem qd_line {l : Nat} (hn : n ≤ 6) (h19 : χ 0 19 0 = nI n) (hL : ∀ k, k < 8 → fX4_lineFact (nI l) (nI k) (χ 0) = some (Lv l k)) (hC : ∀ c k, c < n → k < 4 → fX0_fact (nI c) (nI l) (nI k) (χ 0) = some (Cv c l k)) (a : Int64) : fX8_hashLine a (nI l) χ = some (pG (fun c a => pG (fun k a => hs a (Cv c l k)) 4 0 a) n 0 (pG (fun k a => hs a (Lv l k)) 8 0 a)) := by
  unfold fX8_hashLine
  rw [qd_6 hL 8 0 z_fu a rfl (by decide), qd_42h hn h19 hC n 0 z_fu _ (by omega) (Nat.lt_of_le_of_lt hn (by decide))]
theorem qd_42 {K : Int64 → Option Int64} (hn : n ≤ 6) (h19 : χ 0 19 0 = nI n) (hL : ∀ l k, l < 32 → k < 8 → fX4_lineFact (nI l) (nI k) (χ 0) = some (Lv l k)) (hC : ∀ l c k, l < 32 → c < n → k < 4 → fX0_fact (nI c) (nI l) (nI k) (χ 0) = some (Cv c l k)) : ∀ (r l m : Nat) (a : Int64), l + r = 32 → r < m → fX8_digest_l42 χ K m a (nI l) = K (pG (fun l a => pG (fun c a => pG (fun k a => hs a (Cv c l k)) 4 0 a) n 0 (pG (fun k a => hs a (Lv l k)) 8 0 a)) r l a) := by
  intro r
  induction r with
  | zero =>
    intro l m a hk hm
    obtain ⟨m, rfl⟩ : ∃ k, m = k + 1 := ⟨m - 1, by omega⟩
    rw [fX8_digest_l42, if_pos (nI_le (by omega) (by omega))]
    rfl
  | succ r ih =>
    intro l m a hk hm
    obtain ⟨m, rfl⟩ : ∃ k, m = k + 1 := ⟨m - 1, by omega⟩
    rw [fX8_digest_l42, if_neg (nI_ge (by omega) (by omega)), qd_line hn h19 (fun k hk8 => hL l k (by omega) hk8) (fun c k hc hk4 => hC l c k (by omega) hc hk4) a, Option.bind_some, nI_add, ih (l + 1) m _ (by omega) (by omega)]
    rfl
theorem qd_77 {K : Int64 → Int32 → Option Int64} {c : Nat} (hP : ∀ k, k < 3 → fX7_fact (nI c) (nI k) (χ 0) = some (Pv c k)) : ∀ (r k m : Nat) (a : Int64), k + r = 3 → r < m → fX8_digest_l77 χ K m a (nI c) (nI k) = K (pG (fun k a => hs a (Pv c k)) r k a) (nI c) := by
  intro r
  induction r with
  | zero =>
    intro k m a hk hm
    obtain ⟨m, rfl⟩ : ∃ k, m = k + 1 := ⟨m - 1, by omega⟩
    rw [fX8_digest_l77, if_pos (nI_le (by omega) (by omega))]
    rfl
  | succ r ih =>
    intro k m a hk hm
    obtain ⟨m, rfl⟩ : ∃ k, m = k + 1 := ⟨m - 1, by omega⟩
    rw [fX8_digest_l77, if_neg (nI_ge (by omega) (by omega)), hP k (by omega), Option.bind_some, nI_add, ih (k + 1) m _ (by omega) (by omega)]
    rfl
theorem qd_63 {K : Int64 → Option Int64} (hn : n ≤ 6) (h19 : χ 0 19 0 = nI n) (hP : ∀ c k, c < n → k < 3 → fX7_fact (nI c) (nI k) (χ 0) = some (Pv c k)) : ∀ (r c m : Nat) (a : Int64), c + r = n → r < m → fX8_digest_l63 χ K m a (nI c) = K (pG (fun c a => pG (fun k a => hs a (Pv c k)) 3 0 a) r c a) := by
  intro r
  induction r with
  | zero =>
    intro c m a hk hm
    obtain ⟨m, rfl⟩ : ∃ k, m = k + 1 := ⟨m - 1, by omega⟩
    rw [fX8_digest_l63, h19, if_pos (nI_le (by omega) (by omega))]
    rfl
  | succ r ih =>
    intro c m a hk hm
    obtain ⟨m, rfl⟩ : ∃ k, m = k + 1 := ⟨m - 1, by omega⟩
    rw [fX8_digest_l63, h19, if_neg (nI_ge (by omega) (by omega)), qd_77 (fun k hk4 => hP c k (by omega) hk4) 3 0 z_fu a rfl (by decide), nI_add, ih (c + 1) m _ (by omega) (by omega)]
    rfl
theorem qd_135 {K : Int64 → Int32 → Option Int64} {c : Nat} (hG : ∀ k, k < 6 → fX3_fact (nI c) (nI k) (χ 0) = some (Gv c k)) : ∀ (r k m : Nat) (a : Int64), k + r = 6 → r < m → fX8_digest_l135 χ K m a (nI c) (nI k) = K (pG (fun k a => hs a (Gv c k)) r k a) (nI c) := by
  intro r
  induction r with
  | zero =>
    intro k m a hk hm
    obtain ⟨m, rfl⟩ : ∃ k, m = k + 1 := ⟨m - 1, by omega⟩
    rw [fX8_digest_l135, if_pos (nI_le (by omega) (by omega))]
    rfl
  | succ r ih =>
    intro k m a hk hm
    obtain ⟨m, rfl⟩ : ∃ k, m = k + 1 := ⟨m - 1, by omega⟩
    rw [fX8_digest_l135, if_neg (nI_ge (by omega) (by omega)), hG k (by omega), Option.bind_some, nI_add, ih (k + 1) m _ (by omega) (by omega)]
    rfl
theorem qd_118 {K : Int64 → Option Int64} (hC : C ≤ 12) (h18 : χ 0 18 0 = nI C) (hG : ∀ c k, c < C → k < 6 → fX3_fact (nI c) (nI k) (χ 0) = some (Gv c k)) : ∀ (r c m : Nat) (a : Int64), c + r = C → r < m → fX8_digest_l118 χ K m a (nI c) = K (pG (fun c a => pG (fun k a => hs a (Gv c k)) 6 0 a) r c a) := by
  intro r
  induction r with
  | zero =>
    intro c m a hk hm
    obtain ⟨m, rfl⟩ : ∃ k, m = k + 1 := ⟨m - 1, by omega⟩
    rw [fX8_digest_l118, h18, if_pos (nI_le (by omega) (by omega))]
    rfl
  | succ r ih =>
    intro c m a hk hm
    obtain ⟨m, rfl⟩ : ∃ k, m = k + 1 := ⟨m - 1, by omega⟩
    rw [fX8_digest_l118, h18, if_neg (nI_ge (by omega) (by omega)), qd_135 (fun k hk4 => hG c k (by omega) hk4) 6 0 z_fu a rfl (by decide), nI_add, ih (c + 1) m _ (by omega) (by omega)]
    rfl
end DC
section DR
variable {σ : zSt} {n C : Nat} {N : Nat → Int32} {Lv : Nat → Nat → Int32} {Cv : Nat → Nat → Nat → Int32} {Pv : Nat → Nat → Int32} {Gv : Nat → Nat → Int32}
theorem rd_17 {K : Int64 → zSt → Option (Int64 × zSt)} (hN : ∀ k, k < 14 → fX9_number (nI k) σ = some (N k)) : ∀ (r k m : Nat) (a : Int64), k + r = 14 → r < m → fX9_digest_l17 K m a (nI k) σ = K (pG (fun k a => hs a (N k)) r k a) σ := by
  intro r
  induction r with
  | zero =>
    intro k m a hk hm
    obtain ⟨m, rfl⟩ : ∃ k, m = k + 1 := ⟨m - 1, by omega⟩
    rw [fX9_digest_l17, if_pos (nI_le (by omega) (by omega))]
    rfl
  | succ r ih =>
    intro k m a hk hm
    obtain ⟨m, rfl⟩ : ∃ k, m = k + 1 := ⟨m - 1, by omega⟩
    rw [fX9_digest_l17, if_neg (nI_ge (by omega) (by omega)), hN k (by omega), Option.bind_some, nI_add, ih (k + 1) m _ (by omega) (by omega)]
    rfl
theorem rd_53 {K : Int64 → Int32 → zSt → Option (Int64 × zSt)} {l : Nat} (hL : ∀ k, k < 8 → fX9_aboutLine (nI l) (nI k) σ = some (Lv l k)) : ∀ (r k m : Nat) (a : Int64), k + r = 8 → r < m → fX9_digest_l53 K m a (nI l) (nI k) σ = K (pG (fun k a => hs a (Lv l k)) r k a) (nI l) σ := by
  intro r
  induction r with
  | zero =>
    intro k m a hk hm
    obtain ⟨m, rfl⟩ : ∃ k, m = k + 1 := ⟨m - 1, by omega⟩
    rw [fX9_digest_l53, if_pos (nI_le (by omega) (by omega))]
    rfl
  | succ r ih =>
    intro k m a hk hm
    obtain ⟨m, rfl⟩ : ∃ k, m = k + 1 := ⟨m - 1, by omega⟩
    rw [fX9_digest_l53, if_neg (nI_ge (by omega) (by omega)), hL k (by omega), Option.bind_some, nI_add, ih (k + 1) m _ (by omega) (by omega)]
    rfl
theorem rd_84 {K : Int64 → Int32 → zSt → Option (Int64 × zSt)} {l : Nat} (hn : n ≤ 6) (h0 : σ 0 0 = nI n) (hC : ∀ c k, c < n → k < 4 → fX9_aboutCopy (nI c) (nI l) (nI k) σ = some (Cv c l k)) : ∀ (r k m : Nat) (a : Int64), k + r = 4 * n → r < m → fX9_digest_l84 K m a (nI l) (nI k) σ = K (pG (fun k a => hs a (Cv (k / 4) l (k % 4))) r k a) (nI l) σ := by
  intro r
  induction r with
  | zero =>
    intro k m a hk hm
    obtain ⟨m, rfl⟩ : ∃ k, m = k + 1 := ⟨m - 1, by omega⟩
    rw [fX9_digest_l84, p_ag (by omega) (by omega), Option.bind_some, h0, p_mul, if_pos (nI_le (by omega) (by omega))]
    rfl
  | succ r ih =>
    intro k m a hk hm
    obtain ⟨m, rfl⟩ : ∃ k, m = k + 1 := ⟨m - 1, by omega⟩
    rw [fX9_digest_l84, p_ag (by omega) (by omega), Option.bind_some, h0, p_mul, if_neg (nI_ge (by omega) (by omega)), z_dv_nI (by omega) (by omega) (by omega), Option.bind_some, z_rm_nI (by omega) (by omega) (by omega), Option.bind_some, hC (k / 4) (k % 4) (by omega) (by omega), Option.bind_some, nI_add, ih (k + 1) m _ (by omega) (by omega)]
    rfl
theorem rd_44 {K : Int64 → zSt → Option (Int64 × zSt)} (hn : n ≤ 6) (h0 : σ 0 0 = nI n) (hL : ∀ l k, l < 32 → k < 8 → fX9_aboutLine (nI l) (nI k) σ = some (Lv l k)) (hC : ∀ l c k, l < 32 → c < n → k < 4 → fX9_aboutCopy (nI c) (nI l) (nI k) σ = some (Cv c l k)) : ∀ (r l m : Nat) (a : Int64), l + r = 32 → r < m → fX9_digest_l44 K m a (nI l) σ = K (pG (fun l a => pG (fun c a => pG (fun k a => hs a (Cv c l k)) 4 0 a) n 0 (pG (fun k a => hs a (Lv l k)) 8 0 a)) r l a) σ := by
  intro r
  induction r with
  | zero =>
    intro l m a hk hm
    obtain ⟨m, rfl⟩ : ∃ k, m = k + 1 := ⟨m - 1, by omega⟩
    rw [fX9_digest_l44, if_pos (nI_le (by omega) (by omega))]
    rfl
  | succ r ih =>
    intro l m a hk hm
    obtain ⟨m, rfl⟩ : ∃ k, m = k + 1 := ⟨m - 1, by omega⟩
    have hfl := pG_flat (F := fun c k a => hs a (Cv c l k)) (d := 4) (by omega) n 0 (pG (fun k a => hs a (Lv l k)) 8 0 a)
    rw [fX9_digest_l44, if_neg (nI_ge (by omega) (by omega)), rd_53 (fun k hk8 => hL l k (by omega) hk8) 8 0 z_fu a rfl (by decide), rd_84 hn h0 (fun c k hc hk4 => hC l c k (by omega) hc hk4) (4 * n) 0 z_fu _ (by omega) (Nat.lt_of_le_of_lt (show 4 * n ≤ 24 by omega) (by decide)), nI_add, show pG (fun k a => hs a (Cv (k / 4) l (k % 4))) (4 * n) 0 (pG (fun k a => hs a (Lv l k)) 8 0 a) = _ from hfl, ih (l + 1) m _ (by omega) (by omega)]
    rfl
theorem rd_132 {K : Int64 → zSt → Option (Int64 × zSt)} (hn : n ≤ 6) (h0 : σ 0 0 = nI n) (hP : ∀ c k, c < n → k < 3 → fX9_aboutPending (nI c) (nI k) σ = some (Pv c k)) : ∀ (r k m : Nat) (a : Int64), k + r = 3 * n → r < m → fX9_digest_l132 K m a (nI k) σ = K (pG (fun k a => hs a (Pv (k / 3) (k % 3))) r k a) σ := by
  intro r
  induction r with
  | zero =>
    intro k m a hk hm
    obtain ⟨m, rfl⟩ : ∃ k, m = k + 1 := ⟨m - 1, by omega⟩
    rw [fX9_digest_l132, p_ag (by omega) (by omega), Option.bind_some, h0, p_mul, if_pos (nI_le (by omega) (by omega))]
    rfl
  | succ r ih =>
    intro k m a hk hm
    obtain ⟨m, rfl⟩ : ∃ k, m = k + 1 := ⟨m - 1, by omega⟩
    rw [fX9_digest_l132, p_ag (by omega) (by omega), Option.bind_some, h0, p_mul, if_neg (nI_ge (by omega) (by omega)), z_dv_nI (by omega) (by omega) (by omega), Option.bind_some, z_rm_nI (by omega) (by omega) (by omega), Option.bind_some, hP (k / 3) (k % 3) (by omega) (by omega), Option.bind_some, nI_add, ih (k + 1) m _ (by omega) (by omega)]
    rfl
theorem rd_170 {K : Int64 → zSt → Option (Int64 × zSt)} (hC : C ≤ 12) (h12 : σ 0 12 = nI C) (hG : ∀ c k, c < C → k < 6 → σ 0 (384 + (6 * c + k)) = Gv c k) : ∀ (r k m : Nat) (a : Int64), k + r = 6 * C → r < m → fX9_digest_l170 K m a (nI k) σ = K (pG (fun k a => hs a (Gv (k / 6) (k % 6))) r k a) σ := by
  intro r
  induction r with
  | zero =>
    intro k m a hk hm
    obtain ⟨m, rfl⟩ : ∃ k, m = k + 1 := ⟨m - 1, by omega⟩
    rw [fX9_digest_l170, p_ag (by omega) (by omega), Option.bind_some, h12, p_mul, if_pos (nI_le (by omega) (by omega))]
    rfl
  | succ r ih =>
    intro k m a hk hm
    obtain ⟨m, rfl⟩ : ∃ k, m = k + 1 := ⟨m - 1, by omega⟩
    have hg := hG (k / 6) (k % 6) (by omega) (by omega)
    rw [show 6 * (k / 6) + k % 6 = k by omega] at hg
    rw [fX9_digest_l170, p_ag (by omega) (by omega), Option.bind_some, h12, p_mul, if_neg (nI_ge (by omega) (by omega)), nI_add, p_ag (by omega) (by omega), Option.bind_some, hg, nI_add, ih (k + 1) m _ (by omega) (by omega)]
    rfl
end DR
theorem rl_digest : lo_digest wRel := by
  intro σ χ h
  obtain ⟨n, S, R, P, U, D, T, f, -⟩ := wRel_full h
  obtain ⟨⟨a1, a2, a3, a4, a5, a6, a7⟩, b1, c1, d1, q1⟩ := id f.1.1
  obtain ⟨C, l1, l2, l3, l4⟩ := f.2.2.2.1
  obtain ⟨hg, ⟨hh, h1, h2, h3, h4⟩, L, x1, x2, x3, x4⟩ := id h
  have hN := fun k (hk : k < 14) => gd_some (rl_number f hk)
  have hL := fun l k (hl : l < 32) (hk : k < 8) => gd_some (rl_lineFact f.1 hl hk)
  have hC := fun l c k (hl : l < 32) (hc : c < n) (hk : k < 4) => gd_some (rl_fact f.1 hc hl hk)
  have hP := fun c k (hc : c < n) (hk : k < 3) => gd_some (rl_pfact f.2.2.1 (show c < 6 by omega) hk)
  have hG : ∀ c k, c < C → k < 6 → fX3_fact (nI c) (nI k) (χ 0) = some (χ 0 10 (c * 6 + k)) := fun c k hc hk => by
    unfold fX3_fact
    rw [p_mul, nI_add, p_ag (by omega) (by omega), Option.bind_some]
  have hG2 : ∀ c k, c < C → k < 6 → ws σ 7 (nI 0) 0 (384 + (6 * c + k)) = χ 0 10 (c * 6 + k) := fun c k hc hk => by
    rw [l4 (6 * c + k) (by omega), Nat.mul_comm 6 c]
  obtain ⟨x, t1, t2⟩ := rl_torn f.1
  have e132 := pG_flat (F := fun c k a => hs a ((fX7_fact (nI c) (nI k) (χ 0)).getD 0)) (d := 3) (by omega) n 0
  have e170 := pG_flat (F := fun c k a => hs a (χ 0 10 (c * 6 + k))) (d := 6) (by omega) C 0
  refine ⟨((31 : Int64) * (((31 : Int64) * (pG (fun c a => pG (fun k a => hs a (χ 0 10 (c * 6 + k))) 6 0 a) C 0 (pG (fun c a => pG (fun k a => hs a ((fX7_fact (nI c) (nI k) (χ 0)).getD 0)) 3 0 a) n 0 (pG (fun l a => pG (fun c a => pG (fun k a => hs a ((fX0_fact (nI c) (nI l) (nI k) (χ 0)).getD 0)) 4 0 a) n 0 (pG (fun k a => hs a ((fX4_lineFact (nI l) (nI k) (χ 0)).getD 0)) 8 0 a)) 32 0 (pG (fun k a => hs a ((fX4_number (nI k) (χ 0)).getD 0)) 14 0 ((113987 : Int64) + ((nI L).toInt64))))))) + x.toInt64)) + ((nI hh).toInt64), ws σ 7 (nI 0), ?_, ?_, wRel_7 h⟩
  · unfold fX8_digest
    rw [qd_12 (fun k hk => (hN k hk).1) 14 0 z_fu _ rfl (by decide), qd_42 a2 b1.2 (fun l k hl hk => (hL l k hl hk).1) (fun l c k hl hc hk => (hC l c k hl hc hk).1) 32 0 z_fu _ rfl (by decide), qd_63 a2 b1.2 (fun c k hc hk => (hP c k hc hk).1) n 0 z_fu _ (by omega) (Nat.lt_of_le_of_lt a2 (by decide)), qd_118 l1 l3 hG C 0 z_fu _ (by omega) (Nat.lt_of_le_of_lt l1 (by decide)), t1, Option.bind_some, x3, h3]
  · unfold fX9_digest
    rw [p_ws, Option.bind_some, rd_17 (fun k hk => (hN k hk).2) 14 0 z_fu _ rfl (by decide), rd_44 a2 b1.1 (fun l k hl hk => (hL l k hl hk).2) (fun l c k hl hc hk => (hC l c k hl hc hk).2) 32 0 z_fu _ rfl (by decide), rd_132 a2 b1.1 (fun c k hc hk => (hP c k hc hk).2) (3 * n) 0 z_fu _ (by omega) (Nat.lt_of_le_of_lt (show 3 * n ≤ 18 by omega) (by decide)), rd_170 l1 l2 hG2 (6 * C) 0 z_fu _ (by omega) (Nat.lt_of_le_of_lt (show 6 * C ≤ 72 by omega) (by decide))]
    have e9 : fX9_nextTorn (ws σ 7 (nI 0)) = some (x, ws σ 7 (nI 0)) := by
      unfold fX9_nextTorn
      rw [p_ws, Option.bind_some, ws_ws]
      exact t2 _
    rw [e9, b2_g, ws_o (show ¬ 5 = 7 by omega), ws_o (show ¬ 6 = 7 by omega), h2, x2]
    have e1 : ∀ a, pG (fun k a => hs a ((fX7_fact (nI (k / 3)) (nI (k % 3)) (χ 0)).getD 0)) (3 * n) 0 a = pG (fun c a => pG (fun k a => hs a ((fX7_fact (nI c) (nI k) (χ 0)).getD 0)) 3 0 a) n 0 a := e132
    have e2 : ∀ a, pG (fun k a => hs a (χ 0 10 (k / 6 * 6 + k % 6))) (6 * C) 0 a = pG (fun c a => pG (fun k a => hs a (χ 0 10 (c * 6 + k))) 6 0 a) C 0 a := e170
    rw [e1, e2]
