/-! the reference's rows that are copied: keeping, bringing back, saving, undoing -/
theorem qr_keep_l : ∀ (r y n : Nat) (σ : zSt), y + r = 456 → r < n → fX9_keep_l2 (fun σ3 => some σ3) n (nI y) σ = some (cpN 0 0 1 0 r y σ) := by
  intro r
  induction r with
  | zero =>
    intro y n σ hy hn
    obtain ⟨n, rfl⟩ : ∃ k, n = k + 1 := ⟨n - 1, by omega⟩
    rw [fX9_keep_l2, if_pos (nI_le (by omega) (by omega))]
    rfl
  | succ r ih =>
    intro y n σ hy hn
    obtain ⟨n, rfl⟩ : ∃ k, n = k + 1 := ⟨n - 1, by omega⟩
    rw [fX9_keep_l2, if_neg (nI_ge (by omega) (by omega)), p_ag (by omega) (by omega), Option.bind_some, p_wr (by omega) (by omega), Option.bind_some, nI_add, ih (y + 1) n _ (by omega) (by omega), cpN, Nat.zero_add]
theorem qr_keep (σ : zSt) : ∃ σ', fX9_keep σ = some σ' ∧ (∀ i, i ≠ 1 → σ' i = σ i) ∧ ∀ k, k < 456 → σ' 1 k = σ 0 k := by
  obtain ⟨g1, g2, -⟩ := cpN_spec (i := 0) (a := 0) (j := 1) (b := 0) (Or.inl (by decide)) 456 0 σ
  refine ⟨_, qr_keep_l 456 0 z_fu σ rfl (by decide), g1, fun k hk => ?_⟩
  have := g2 k (by omega) (by omega)
  rw [Nat.zero_add] at this
  exact this
theorem qr_bringBack_l : ∀ (r y n : Nat) (σ : zSt), y + r = 456 → r < n → fX9_bringBack_l2 (fun σ3 => some σ3) n (nI y) σ = some (cpN 1 0 0 0 r y σ) := by
  intro r
  induction r with
  | zero =>
    intro y n σ hy hn
    obtain ⟨n, rfl⟩ : ∃ k, n = k + 1 := ⟨n - 1, by omega⟩
    rw [fX9_bringBack_l2, if_pos (nI_le (by omega) (by omega))]
    rfl
  | succ r ih =>
    intro y n σ hy hn
    obtain ⟨n, rfl⟩ : ∃ k, n = k + 1 := ⟨n - 1, by omega⟩
    rw [fX9_bringBack_l2, if_neg (nI_ge (by omega) (by omega)), p_ag (by omega) (by omega), Option.bind_some, p_wr (by omega) (by omega), Option.bind_some, nI_add, ih (y + 1) n _ (by omega) (by omega), cpN, Nat.zero_add]
theorem qr_bringBack (σ : zSt) : ∃ σ', fX9_bringBack σ = some σ' ∧ (∀ i, i ≠ 0 → σ' i = σ i) ∧ ∀ k, k < 456 → σ' 0 k = σ 1 k := by
  obtain ⟨g1, g2, -⟩ := cpN_spec (i := 1) (a := 0) (j := 0) (b := 0) (Or.inl (by decide)) 456 0 σ
  refine ⟨_, qr_bringBack_l 456 0 z_fu σ rfl (by decide), g1, fun k hk => ?_⟩
  have := g2 k (by omega) (by omega)
  rw [Nat.zero_add] at this
  exact this
theorem qr_save51 {K : zSt → Option zSt} {h : Nat} (h3 : h < 4) : ∀ (r y n : Nat) (σ : zSt), y + r = 456 → r < n → σ 5 0 = nI h → fX9_save_l51 K n (nI y) σ = K (cpN 0 0 2 (456 * h) r y σ) := by
  intro r
  induction r with
  | zero =>
    intro y n σ hy hn _
    obtain ⟨n, rfl⟩ : ∃ k, n = k + 1 := ⟨n - 1, by omega⟩
    rw [fX9_save_l51, if_pos (nI_le (by omega) (by omega))]
    rfl
  | succ r ih =>
    intro y n σ hy hn hh
    obtain ⟨n, rfl⟩ : ∃ k, n = k + 1 := ⟨n - 1, by omega⟩
    rw [fX9_save_l51, if_neg (nI_ge (by omega) (by omega)), p_ag (by omega) (by omega), Option.bind_some, hh, p_mul, nI_add, p_wr (by omega) (by omega), Option.bind_some, nI_add, ih (y + 1) n _ (by omega) (by omega) (by rw [wr_o (by omega)]; exact hh), cpN, Nat.zero_add]
theorem qr_save10 {K : zSt → Option zSt} : ∀ (r y n : Nat) (σ : zSt), y + r = 1368 → r < n → fX9_save_l10 K n (nI y) σ = K (cpN 2 456 2 0 r y σ) := by
  intro r
  induction r with
  | zero =>
    intro y n σ hy hn
    obtain ⟨n, rfl⟩ : ∃ k, n = k + 1 := ⟨n - 1, by omega⟩
    rw [fX9_save_l10, if_pos (nI_le (by omega) (by omega))]
    rfl
  | succ r ih =>
    intro y n σ hy hn
    obtain ⟨n, rfl⟩ : ∃ k, n = k + 1 := ⟨n - 1, by omega⟩
    rw [fX9_save_l10, if_neg (nI_ge (by omega) (by omega)), nI_add, p_ag (by omega) (by omega), Option.bind_some, p_wr (by omega) (by omega), Option.bind_some, nI_add, ih (y + 1) n _ (by omega) (by omega), cpN, Nat.zero_add, Nat.add_comm 456 y]
theorem qr_saveA {σ : zSt} {h : Nat} (h3 : h < 4) (hh : σ 5 0 = nI h) : ∃ σ', fX9_save σ = some σ' ∧ (∀ i, i ≠ 2 → i ≠ 5 → σ' i = σ i) ∧ σ' 5 0 = nI (h + 1) ∧ (∀ i k, i < h → k < 456 → σ' 2 (456 * i + k) = σ 2 (456 * i + k)) ∧ ∀ k, k < 456 → σ' 2 (456 * h + k) = σ 0 k := by
  obtain ⟨g1, g2, g3⟩ := cpN_spec (i := 0) (a := 0) (j := 2) (b := 456 * h) (Or.inl (by decide)) 456 0 σ
  refine ⟨ws (cpN 0 0 2 (456 * h) 456 0 σ) 5 (nI (h + 1)), ?_, fun i i2 i5 => ?_, ws_e _ _ _ _, fun i k hi hk => ?_, fun k hk => ?_⟩
  · unfold fX9_save
    rw [hh, if_neg (fun e => by have := (nI_eq (by omega) (by omega)).mp e; omega), qr_save51 h3 456 0 z_fu σ rfl (by decide) hh, g1 5 (by omega), hh, nI_add, p_ws]
    rfl
  · rw [ws_o i5, g1 i i2]
  · rw [ws_o (by omega), g3 _ (Or.inl (by omega))]
  · rw [ws_o (by omega), g2 k (by omega) (by omega), Nat.zero_add]
theorem qr_saveB {σ : zSt} (hh : σ 5 0 = nI 4) : ∃ σ', fX9_save σ = some σ' ∧ (∀ i, i ≠ 2 → i ≠ 5 → σ' i = σ i) ∧ σ' 5 0 = nI 4 ∧ (∀ i k, i < 3 → k < 456 → σ' 2 (456 * i + k) = σ 2 (456 * (i + 1) + k)) ∧ ∀ k, k < 456 → σ' 2 (456 * 3 + k) = σ 0 k := by
  obtain ⟨f1, f2, f3⟩ := cpN_spec (i := 2) (a := 456) (j := 2) (b := 0) (Or.inr (by omega)) 1368 0 σ
  obtain ⟨g1, g2, g3⟩ := cpN_spec (i := 0) (a := 0) (j := 2) (b := 456 * 3) (Or.inl (by decide)) 456 0 (ws (cpN 2 456 2 0 1368 0 σ) 5 (nI 3))
  refine ⟨ws (cpN 0 0 2 (456 * 3) 456 0 (ws (cpN 2 456 2 0 1368 0 σ) 5 (nI 3))) 5 (nI 4), ?_, fun i i2 i5 => ?_, ws_e _ _ _ _, fun i k hi hk => ?_, fun k hk => ?_⟩
  · unfold fX9_save
    rw [hh, if_pos rfl, qr_save10 1368 0 z_fu σ rfl (by decide), f1 5 (by omega), hh, p_sub (by omega), p_ws, Option.bind_some, qr_save51 (h := 3) (by omega) 456 0 z_fu _ rfl (by decide) (ws_e _ _ _ _), g1 5 (by omega), ws_e, nI_add, p_ws]
    rfl
  · rw [ws_o i5, g1 i i2, ws_o i5, f1 i i2]
  · rw [ws_o (by omega), g3 _ (Or.inl (by omega)), ws_o (by omega)]
    have := f2 (456 * i + k) (by omega) (by omega)
    rw [Nat.zero_add] at this
    rw [this, show 456 + (456 * i + k) = 456 * (i + 1) + k by omega]
  · rw [ws_o (by omega), g2 k (by omega) (by omega), Nat.zero_add, ws_o (by omega), f1 0 (by omega)]
theorem qr_undo_l {K : zSt → Option (Int32 × zSt)} {h : Nat} (h3 : h < 4) : ∀ (r y n : Nat) (σ : zSt), y + r = 456 → r < n → σ 5 0 = nI h → fX9_undo_l30 K n (nI y) σ = K (cpN 2 (456 * h) 0 0 r y σ) := by
  intro r
  induction r with
  | zero =>
    intro y n σ hy hn _
    obtain ⟨n, rfl⟩ : ∃ k, n = k + 1 := ⟨n - 1, by omega⟩
    rw [fX9_undo_l30, if_pos (nI_le (by omega) (by omega))]
    rfl
  | succ r ih =>
    intro y n σ hy hn hh
    obtain ⟨n, rfl⟩ : ∃ k, n = k + 1 := ⟨n - 1, by omega⟩
    rw [fX9_undo_l30, if_neg (nI_ge (by omega) (by omega)), hh, p_mul, nI_add, p_ag (by omega) (by omega), Option.bind_some, p_wr (by omega) (by omega), Option.bind_some, nI_add, ih (y + 1) n _ (by omega) (by omega) (by rw [wr_o (by omega)]; exact hh), cpN, Nat.zero_add]
/-! a state of its own -/
def stN (j b s : Nat) (x : Int32) : Nat → Nat → zSt → zSt
  | 0, _, σ => σ
  | r + 1, y, σ => stN j b s x r (y + 1) (wr σ j (b + s * y) x)
theorem stN_spec {j b s : Nat} {x : Int32} (hs : 0 < s) : ∀ (r y : Nat) (σ : zSt), (∀ k, k ≠ j → stN j b s x r y σ k = σ k) ∧ (∀ t, y ≤ t → t < y + r → stN j b s x r y σ j (b + s * t) = x) ∧ ∀ k, (∀ t, y ≤ t → t < y + r → k ≠ b + s * t) → stN j b s x r y σ j k = σ j k := by
  intro r
  induction r with
  | zero => exact fun y σ => ⟨fun _ _ => rfl, fun t h1 h2 => by omega, fun _ _ => rfl⟩
  | succ r ih =>
    intro y σ
    obtain ⟨g1, g2, g3⟩ := ih (y + 1) (wr σ j (b + s * y) x)
    refine ⟨fun k hk => ?_, fun t h1 h2 => ?_, fun k hk => ?_⟩
    · rw [stN, g1 k hk, wr_o hk]
    · rw [stN]
      by_cases e : t = y
      · rw [e, g3 (b + s * y) (fun t' h1' h2' z => by
          have h5 : s * y = s * t' := Nat.add_left_cancel z
          have := Nat.eq_of_mul_eq_mul_left hs h5
          omega), wr_e]
      · exact g2 t (by omega) (by omega)
    · rw [stN, g3 k (fun t h1 h2 => hk t (by omega) (by omega)), wr_n (hk y (by omega) (by omega))]
theorem qr_anew3 {K : Int32 → Int32 → Int32 → zSt → Option zSt} {x1 x2 x3 : Int32} : ∀ (r y n : Nat) (σ : zSt), y + r = 456 → r < n → fX9_anew_l3 K n x1 x2 x3 (nI y) σ = K x1 x2 x3 (stN 0 0 1 (nI 0) r y σ) := by
  intro r
  induction r with
  | zero =>
    intro y n σ hy hn
    obtain ⟨n, rfl⟩ : ∃ k, n = k + 1 := ⟨n - 1, by omega⟩
    rw [fX9_anew_l3, if_pos (nI_le (by omega) (by omega))]
    rfl
  | succ r ih =>
    intro y n σ hy hn
    obtain ⟨n, rfl⟩ : ∃ k, n = k + 1 := ⟨n - 1, by omega⟩
    rw [fX9_anew_l3, if_neg (nI_ge (by omega) (by omega)), p_wr (by omega) (by omega), Option.bind_some, nI_add, ih (y + 1) n _ (by omega) (by omega), stN, Nat.zero_add, Nat.one_mul]
theorem qr_anew49 {K : zSt → Option zSt} : ∀ (r y n : Nat) (σ : zSt), y + r = 48 → r < n → fX9_anew_l49 K n (nI y) σ = K (stN 0 110 4 (-1) r y σ) := by
  intro r
  induction r with
  | zero =>
    intro y n σ hy hn
    obtain ⟨n, rfl⟩ : ∃ k, n = k + 1 := ⟨n - 1, by omega⟩
    rw [fX9_anew_l49, if_pos (nI_le (by omega) (by omega))]
    rfl
  | succ r ih =>
    intro y n σ hy hn
    obtain ⟨n, rfl⟩ : ∃ k, n = k + 1 := ⟨n - 1, by omega⟩
    rw [fX9_anew_l49, if_neg (nI_ge (by omega) (by omega)), p_mul, nI_add, p_wr (by omega) (by omega), Option.bind_some, nI_add, ih (y + 1) n _ (by omega) (by omega), stN]
theorem qr_anew78 {K : zSt → Option zSt} : ∀ (r y n : Nat) (σ : zSt), y + r = 6 → r < n → fX9_anew_l78 K n (nI y) σ = K (stN 0 366 3 (-1) r y σ) := by
  intro r
  induction r with
  | zero =>
    intro y n σ hy hn
    obtain ⟨n, rfl⟩ : ∃ k, n = k + 1 := ⟨n - 1, by omega⟩
    rw [fX9_anew_l78, if_pos (nI_le (by omega) (by omega))]
    rfl
  | succ r ih =>
    intro y n σ hy hn
    obtain ⟨n, rfl⟩ : ∃ k, n = k + 1 := ⟨n - 1, by omega⟩
    rw [fX9_anew_l78, if_neg (nI_ge (by omega) (by omega)), p_mul, nI_add, p_wr (by omega) (by omega), Option.bind_some, nI_add, ih (y + 1) n _ (by omega) (by omega), stN]
theorem qr_anew (σ : zSt) (x1 x2 x3 : Int32) : ∃ σ', fX9_anew x1 x2 x3 σ = some σ' ∧ (∀ i, i ≠ 0 → σ' i = σ i) ∧ σ' 0 0 = x1 ∧ σ' 0 1 = x2 ∧ σ' 0 2 = x3 ∧ (∀ k, 3 ≤ k → k < 110 → σ' 0 k = nI 0) ∧ (∀ k, k < 48 → σ' 0 (110 + 4 * k) = -1) ∧ ∀ c, c < 6 → σ' 0 (366 + 3 * c) = -1 := by
  obtain ⟨f1, f2, f3⟩ := stN_spec (j := 0) (b := 0) (s := 1) (x := nI 0) (by omega) 456 0 σ
  obtain ⟨g1, g2, g3⟩ := stN_spec (j := 0) (b := 110) (s := 4) (x := -1) (by omega) 48 0 (w0 (w0 (w0 (stN 0 0 1 (nI 0) 456 0 σ) 0 x1) 1 x2) 2 x3)
  obtain ⟨h1, h2, h3⟩ := stN_spec (j := 0) (b := 366) (s := 3) (x := -1) (by omega) 6 0 (stN 0 110 4 (-1) 48 0 (w0 (w0 (w0 (stN 0 0 1 (nI 0) 456 0 σ) 0 x1) 1 x2) 2 x3))
  have lo : ∀ k, k < 110 → stN 0 366 3 (-1) 6 0 (stN 0 110 4 (-1) 48 0 (w0 (w0 (w0 (stN 0 0 1 (nI 0) 456 0 σ) 0 x1) 1 x2) 2 x3)) 0 k = w0 (w0 (w0 (stN 0 0 1 (nI 0) 456 0 σ) 0 x1) 1 x2) 2 x3 0 k := fun k hk => by
    rw [h3 k (fun t _ _ => by omega), g3 k (fun t _ _ => by omega)]
  refine ⟨_, ?_, fun i hi => ?_, ?_, ?_, ?_, fun k k1 k2 => ?_, fun k hk => ?_, fun c hc => h2 c (by omega) (by omega)⟩
  · unfold fX9_anew
    rw [qr_anew3 456 0 z_fu σ rfl (by decide), p_w0 (by omega), Option.bind_some, p_w0 (by omega), Option.bind_some, p_w0 (by omega), Option.bind_some, qr_anew49 48 0 z_fu _ rfl (by decide), qr_anew78 6 0 z_fu _ rfl (by decide)]
  · rw [h1 i hi, g1 i hi, w0_o hi, w0_o hi, w0_o hi, f1 i hi]
  · rw [lo 0 (by omega), w0_n (by omega), w0_n (by omega), w0_e]
  · rw [lo 1 (by omega), w0_n (by omega), w0_e]
  · rw [lo 2 (by omega), w0_e]
  · rw [lo k k2, w0_n (by omega), w0_n (by omega), w0_n (by omega)]
    have := f2 k (by omega) (by omega)
    rw [Nat.zero_add, Nat.one_mul] at this
    exact this
  · rw [h3 (110 + 4 * k) (fun t _ _ => by omega)]
    exact g2 k (by omega) (by omega)
theorem qx_startAnew (x1 x2 x3 : Int32) (τ : zSt) : ∃ τ', fX4_startAnew x1 x2 x3 τ = some τ' ∧ ((∀ l, l < 32 → τ' 0 l = nI 0) ∧ (∀ l, l < 32 → τ' 1 l = nI 0) ∧ (∀ k, k < 192 → τ' 2 k = nI 0) ∧ (∀ l, l < 32 → τ' 6 l = nI 0) ∧ ∀ c, c < 6 → τ' 7 c = -1) ∧ τ' 19 0 = x1 ∧ τ' 20 0 = x2 ∧ τ' 14 0 = x3 ∧ ∀ i, 11 ≤ i → i < 27 → i ≠ 19 → i ≠ 20 → i ≠ 14 → τ' i 0 = nI 0 := by
  refine ⟨_, rfl, ⟨fun l hl => ?_, fun l hl => ?_, fun l hl => ?_, fun l hl => ?_, fun l hl => ?_⟩, rfl, rfl, rfl, fun i i1 i2 i3 i4 i5 => ?_⟩
  · exact (show (if l < 32 then nI 0 else τ 0 l) = nI 0 from if_pos hl)
  · exact (show (if l < 32 then nI 0 else τ 1 l) = nI 0 from if_pos hl)
  · exact (show (if l < 192 then nI 0 else τ 2 l) = nI 0 from if_pos hl)
  · exact (show (if l < 32 then nI 0 else τ 6 l) = nI 0 from if_pos hl)
  · exact (show (if l < 6 then -1 else τ 7 l) = -1 from if_pos hl)
  · rcases (show i = 11 ∨ i = 12 ∨ i = 13 ∨ i = 15 ∨ i = 16 ∨ i = 17 ∨ i = 18 ∨ i = 21 ∨ i = 22 ∨ i = 23 ∨ i = 24 ∨ i = 25 ∨ i = 26 by omega) with rfl | rfl | rfl | rfl | rfl | rfl | rfl | rfl | rfl | rfl | rfl | rfl | rfl <;> rfl
theorem rl_fresh {n S R : Nat} {σ τ σ0 τ0 : zSt} (hn : 2 ≤ n ∧ n ≤ 6) (hS : 1 ≤ S ∧ S ≤ 8) (hR : 1 ≤ R ∧ R ≤ 16) (hs : fX9_anew (nI n) (nI S) (nI R) σ0 = some σ) (ht : fX4_startAnew (nI n) (nI S) (nI R) τ0 = some τ) : mFull n S R 0 0 0 0 σ τ := by
  obtain ⟨σ1, s0, s1, s2, s3, s4, s5, s6, s7⟩ := qr_anew σ0 (nI n) (nI S) (nI R)
  rw [hs] at s0
  obtain rfl := Option.some.inj s0
  obtain ⟨τ1, t0, ⟨t1, t2, t3, t4, t5⟩, t6, t7, t8, t9⟩ := qx_startAnew (nI n) (nI S) (nI R) τ0
  rw [ht] at t0
  obtain rfl := Option.some.inj t0
  have z : ∀ c l, c < 6 → l < 32 → τ 2 (c * 32 + l) = 0 := fun c l hc hl => by rw [t3 _ (by omega), nI_0]
  refine ⟨⟨⟨⟨hn.1, hn.2, hS.1, hS.2, hR.1, hR.2, by omega⟩, ⟨s2, t6⟩, ⟨s3, t7⟩, ⟨s4, t8⟩, ⟨s5 3 (by omega) (by omega), t9 15 (by omega) (by omega) (by omega) (by omega) (by omega)⟩⟩, ⟨?_, ?_, ?_⟩, fun l hl => ⟨?_, ?_⟩, fun l hl => ?_, fun c l hc hl => Or.inl (z c l hc hl), fun c d l hc hd hl z1 _ => ?_, ⟨fun c l hc hl hk => absurd (z c l hc hl) hk, fun c s hc hs => Or.inl (s6 _ (by omega)), fun c l k hc hl _ h1 _ => absurd (z c l hc hl) h1, s5 13 (by omega) (by omega), t9 11 (by omega) (by omega) (by omega) (by omega) (by omega), by omega⟩, ⟨fun l hl => Or.inl ((t4 l hl).trans nI_0), fun p hp => absurd hp (Nat.not_lt_zero p), fun l hl h0 => absurd ((t4 l hl).trans nI_0) h0, fun p q hp => absurd hp (Nat.not_lt_zero p), fun p l hp => absurd hp (Nat.not_lt_zero p), fun p l hp => absurd hp (Nat.not_lt_zero p), fun p q l k hp => absurd hp (Nat.not_lt_zero p), fun l k hl _ h0 => absurd ((t4 l hl).trans nI_0) h0, t9 12 (by omega) (by omega) (by omega) (by omega) (by omega), by omega⟩, fun l hl _ _ c hc => z c l hc hl⟩, ⟨?_, ?_, ?_, ?_⟩, fun c hc => Or.inl ⟨t5 c hc, s7 c hc⟩, ⟨0, by omega, s5 12 (by omega) (by omega), t9 18 (by omega) (by omega) (by omega) (by omega) (by omega), fun k hk => by omega⟩, s5 4 (by omega) (by omega), t9 21 (by omega) (by omega) (by omega) (by omega) (by omega), by omega⟩
  · rw [s5 9 (by omega) (by omega), t9 16 (by omega) (by omega) (by omega) (by omega) (by omega)]
  · rw [s5 10 (by omega) (by omega), t9 17 (by omega) (by omega) (by omega) (by omega) (by omega)]
  · rw [s5 11 (by omega) (by omega), t9 26 (by omega) (by omega) (by omega) (by omega) (by omega)]
  · rw [s5 (14 + l) (by omega) (by omega), t1 l hl]
  · rw [s5 (46 + l) (by omega) (by omega), t2 l hl]
  · rw [s5 (78 + l) (by omega) (by omega), t9 13 (by omega) (by omega) (by omega) (by omega) (by omega), nI_0, b_0, ifF]
  · rw [z c l hc hl] at z1
    exact absurd z1 (by decide)
  · rw [s5 5 (by omega) (by omega), t9 22 (by omega) (by omega) (by omega) (by omega) (by omega)]
  · rw [s5 6 (by omega) (by omega), t9 23 (by omega) (by omega) (by omega) (by omega) (by omega)]
  · rw [s5 7 (by omega) (by omega), t9 24 (by omega) (by omega) (by omega) (by omega) (by omega)]
  · rw [s5 8 (by omega) (by omega), t9 25 (by omega) (by omega) (by omega) (by omega) (by omega)]
