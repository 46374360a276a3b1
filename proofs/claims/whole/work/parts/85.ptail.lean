/-! behind hit or miss: value, use, counts, log; in both -/
theorem nI_dec {k : Nat} : nI (k + 1) + (-1) = nI k := (Int32.sub_eq_add_neg _ _).symm.trans (nI_pred k)
/-- the log moves six places up -/
theorem qr_shift {K : Int32 → Int32 → Int32 → Int32 → Int32 → zSt → Option (Int32 × zSt)} {x1 x2 x3 x4 x5 : Int32} : ∀ (r n : Nat) (σ : zSt), r ≤ 66 → r < n → ∃ σ', fX9_serves_l149 K n x1 x2 x3 x4 x5 (nI (5 + r)) σ = K x1 x2 x3 x4 x5 σ' ∧ (∀ i, i ≠ 0 → σ' i = σ i) ∧ (∀ k, 6 ≤ k → k ≤ 5 + r → σ' 0 (384 + k) = σ 0 (384 + (k - 6))) ∧ ∀ k, (k < 390 ∨ 389 + r < k) → σ' 0 k = σ 0 k := by
  intro r
  induction r with
  | zero =>
    intro n σ hr hn
    obtain ⟨n, rfl⟩ : ∃ k, n = k + 1 := ⟨n - 1, by omega⟩
    rw [fX9_serves_l149, if_pos (nI_le (by omega) (by omega))]
    exact ⟨σ, rfl, fun _ _ => rfl, fun k h1 h2 => by omega, fun _ _ => rfl⟩
  | succ r ih =>
    intro n σ hr hn
    obtain ⟨n, rfl⟩ : ∃ k, n = k + 1 := ⟨n - 1, by omega⟩
    rw [fX9_serves_l149, if_neg (nI_ge (by omega) (by omega)), nI_add, p_sub (by omega), p_ag (by omega) (by omega), Option.bind_some, p_w0 (by omega), Option.bind_some, show 5 + (r + 1) = (5 + r) + 1 by omega, nI_dec]
    obtain ⟨σ', g1, g2, g3, g4⟩ := ih n (w0 σ (384 + (5 + r + 1)) (σ 0 (384 + (5 + r + 1) - 6))) (by omega) (by omega)
    refine ⟨σ', g1, fun i hi => by rw [g2 i hi, w0_o hi], fun k h1 h2 => ?_, fun k hk => by rw [g4 k (by omega), w0_n (by omega)]⟩
    by_cases e : k = 5 + r + 1
    · rw [e, g4 _ (by omega), w0_e, show 384 + (5 + r + 1) - 6 = 384 + (5 + r + 1 - 6) by omega]
    · rw [g3 k h1 (by omega), w0_n (by omega)]
def bI (b : Bool) : Int32 := if b then nI 1 else nI 0
theorem qr_tail {σ : zSt} {c l a m S C : Nat} {wv : Int32} {hit : Bool} (hc : c < 6) (hl : l < 32) (hS : S ≤ 8) (h1 : σ 0 1 = nI S) (hr : rcp σ S c (nI l) = some a) (ha0 : 110 ≤ a) (ha : a + 3 < 302) (h12 : σ 0 12 = nI C) (hC : C ≤ 12) :
    ∃ σ', fX9_serves_j33 (nI c) (nI l) wv (bI hit) (nI m) σ = some (nI m, σ') ∧ (∀ i, i ≠ 0 → σ' i = σ i) ∧ σ' 0 (a + 2) = (if wv < 0 then σ 0 (a + 2) else wv) ∧ σ' 0 (46 + l) = (if wv < 0 then σ 0 (46 + l) else wv) ∧ σ' 0 13 = σ 0 13 + nI 1 ∧ σ' 0 (a + 3) = σ 0 13 + nI 1 ∧
      σ' 0 6 = σ 0 6 + bI hit ∧ σ' 0 7 = σ 0 7 + bI (!hit) ∧ σ' 0 5 = σ 0 5 + nI m ∧ σ' 0 12 = nI (if C < 12 then C + 1 else C) ∧
      (σ' 0 384 = nI c ∧ σ' 0 385 = nI l ∧ σ' 0 386 = (if wv < 0 then nI 0 else nI 1) ∧ σ' 0 387 = (if wv < 0 then σ 0 (a + 2) else wv) ∧ σ' 0 388 = nI m ∧ σ' 0 389 = σ 0 4) ∧ (∀ k, 6 ≤ k → k < 72 → σ' 0 (384 + k) = σ 0 (384 + (k - 6))) ∧
      ∀ k, k ≠ 5 → k ≠ 6 → k ≠ 7 → k ≠ 12 → k ≠ 13 → k ≠ 46 + l → k ≠ a + 2 → k ≠ a + 3 → k < 384 → σ' 0 k = σ 0 k := by
  -- from the log's heads on
  have J220 : ∀ (x : Int32) (ρ : zSt), ρ 0 12 = nI C → ∃ σ', fX9_serves_j220 (nI m) (nI a) x (nI 386) ρ = some (nI m, σ') ∧ (∀ i, i ≠ 0 → σ' i = ρ i) ∧ σ' 0 386 = x ∧ σ' 0 387 = ρ 0 (a + 2) ∧ σ' 0 388 = nI m ∧ σ' 0 389 = ρ 0 4 ∧ σ' 0 12 = nI (if C < 12 then C + 1 else C) ∧ ∀ k, k ≠ 386 → k ≠ 387 → k ≠ 388 → k ≠ 389 → k ≠ 12 → σ' 0 k = ρ 0 k := by
    intro x ρ hρ
    unfold fX9_serves_j220 fX9_serves_j287
    rw [p_w0 (by omega), Option.bind_some, nI_add, p_ag (by omega) (by omega), Option.bind_some, p_w0 (by omega), Option.bind_some, p_w0 (by omega), Option.bind_some, p_ag (by omega) (by omega), Option.bind_some, p_w0 (by omega), Option.bind_some, p_ag (by omega) (by omega), Option.bind_some, Option.bind_some]
    generalize hκ : w0 (w0 (w0 (w0 ρ 386 x) 387 (w0 ρ 386 x 0 (a + 2))) 388 (nI m)) 389 (w0 (w0 (w0 ρ 386 x) 387 (w0 ρ 386 x 0 (a + 2))) 388 (nI m) 0 4) = κ
    have k12 : κ 0 12 = nI C := by rw [← hκ, w0_n (by omega), w0_n (by omega), w0_n (by omega), w0_n (by omega)]; exact hρ
    have kr : ∀ i, i ≠ 0 → κ i = ρ i := fun i hi => by rw [← hκ, w0_o hi, w0_o hi, w0_o hi, w0_o hi]
    have k1 : κ 0 386 = x := by rw [← hκ, w0_n (by omega), w0_n (by omega), w0_n (by omega), w0_e]
    have k2 : κ 0 387 = ρ 0 (a + 2) := by rw [← hκ, w0_n (by omega), w0_n (by omega), w0_e, w0_n (by omega)]
    have k3 : κ 0 388 = nI m := by rw [← hκ, w0_n (by omega), w0_e]
    have k4 : κ 0 389 = ρ 0 4 := by rw [← hκ, w0_e, w0_n (by omega), w0_n (by omega), w0_n (by omega)]
    have k5 : ∀ k, k ≠ 386 → k ≠ 387 → k ≠ 388 → k ≠ 389 → κ 0 k = ρ 0 k := fun k e1 e2 e3 e4 => by rw [← hκ, w0_n e4, w0_n e3, w0_n e2, w0_n e1]
    rw [k12]
    by_cases h : C < 12
    · rw [if_neg (nI_ge h (by omega)), nI_add, p_w0 (by omega), Option.bind_some, if_pos h]
      exact ⟨_, rfl, fun i hi => by rw [w0_o hi, kr i hi], by rw [w0_n (by omega), k1], by rw [w0_n (by omega), k2], by rw [w0_n (by omega), k3], by rw [w0_n (by omega), k4], w0_e _ _ _, fun k e1 e2 e3 e4 e5 => by rw [w0_n e5, k5 k e1 e2 e3 e4]⟩
    · rw [if_pos (nI_le (by omega) (by omega)), nI_add, p_w0 (by omega), Option.bind_some, if_neg h]
      exact ⟨_, rfl, fun i hi => by rw [w0_o hi, kr i hi], by rw [w0_n (by omega), k1], by rw [w0_n (by omega), k2], by rw [w0_n (by omega), k3], by rw [w0_n (by omega), k4], w0_e _ _ _, fun k e1 e2 e3 e4 e5 => by rw [w0_n e5, k5 k e1 e2 e3 e4]⟩
  have J132 : ∀ (x y : Int32) (ρ : zSt), ρ 0 12 = nI C → ∃ σ', fX9_serves_j132 (nI c) (nI l) wv (nI m) (nI a) x y (nI 7) ρ = some (nI m, σ') ∧ (∀ i, i ≠ 0 → σ' i = ρ i) ∧ σ' 0 7 = y + x ∧ σ' 0 5 = ρ 0 5 + nI m ∧ σ' 0 12 = nI (if C < 12 then C + 1 else C) ∧ (σ' 0 384 = nI c ∧ σ' 0 385 = nI l ∧ σ' 0 386 = (if wv < 0 then nI 0 else nI 1) ∧ σ' 0 387 = ρ 0 (a + 2) ∧ σ' 0 388 = nI m ∧ σ' 0 389 = ρ 0 4) ∧ (∀ k, 6 ≤ k → k < 72 → σ' 0 (384 + k) = ρ 0 (384 + (k - 6))) ∧ ∀ k, k ≠ 5 → k ≠ 7 → k ≠ 12 → k < 384 → σ' 0 k = ρ 0 k := by
    intro x y ρ hρ
    unfold fX9_serves_j132
    rw [p_w0 (by omega), Option.bind_some, p_ag (by omega) (by omega), Option.bind_some, w0_n (by omega), p_w0 (by omega), Option.bind_some]
    generalize hκ : w0 (w0 ρ 7 (y + x)) 5 (ρ 0 5 + nI m) = κ
    obtain ⟨σ1, g1, g2, g3, g4⟩ := qr_shift (K := fun x17 x18 x19 x20 x21 σ22 => (z_sg σ22 0 456 (nI 384) x17).bind fun σ23 => (z_sg σ23 0 456 (nI 385) x18).bind fun σ24 => (if x19 < 0 then fX9_serves_j220 x20 x21 (nI 0) (nI 386) σ24 else fX9_serves_j220 x20 x21 (nI 1) (nI 386) σ24)) (x1 := nI c) (x2 := nI l) (x3 := wv) (x4 := nI m) (x5 := nI a) 66 z_fu κ (by omega) (by decide)
    rw [show (71 : Nat) = 5 + 66 from rfl]
    rw [g1, p_w0 (by omega), Option.bind_some, p_w0 (by omega), Option.bind_some]
    have kk : ∀ k, k ≠ 5 → k ≠ 7 → κ 0 k = ρ 0 k := fun k e1 e2 => by rw [← hκ, w0_n e1, w0_n e2]
    have fin : ∀ x9 : Int32, x9 = (if wv < 0 then nI 0 else nI 1) → ∃ σ', fX9_serves_j220 (nI m) (nI a) x9 (nI 386) (w0 (w0 σ1 384 (nI c)) 385 (nI l)) = some (nI m, σ') ∧ (∀ i, i ≠ 0 → σ' i = ρ i) ∧ σ' 0 7 = y + x ∧ σ' 0 5 = ρ 0 5 + nI m ∧ σ' 0 12 = nI (if C < 12 then C + 1 else C) ∧ (σ' 0 384 = nI c ∧ σ' 0 385 = nI l ∧ σ' 0 386 = (if wv < 0 then nI 0 else nI 1) ∧ σ' 0 387 = ρ 0 (a + 2) ∧ σ' 0 388 = nI m ∧ σ' 0 389 = ρ 0 4) ∧ (∀ k, 6 ≤ k → k < 72 → σ' 0 (384 + k) = ρ 0 (384 + (k - 6))) ∧ ∀ k, k ≠ 5 → k ≠ 7 → k ≠ 12 → k < 384 → σ' 0 k = ρ 0 k := by
      intro x9 hx9
      obtain ⟨σ', u1, u2, u3, u4, u5, u6, u7, u8⟩ := J220 x9 (w0 (w0 σ1 384 (nI c)) 385 (nI l)) (by rw [w0_n (by omega), w0_n (by omega), g4 12 (by omega), kk 12 (by omega) (by omega)]; exact hρ)
      refine ⟨σ', u1, fun i hi => by rw [u2 i hi, w0_o hi, w0_o hi, g2 i hi, ← hκ, w0_o hi, w0_o hi], ?_, ?_, u7, ⟨?_, ?_, by rw [u3, hx9], ?_, u5, ?_⟩, fun k h1 h2 => ?_, fun k e1 e2 e3 e4 => ?_⟩
      · rw [u8 7 (by omega) (by omega) (by omega) (by omega) (by omega), w0_n (by omega), w0_n (by omega), g4 7 (by omega), ← hκ, w0_n (by omega), w0_e]
      · rw [u8 5 (by omega) (by omega) (by omega) (by omega) (by omega), w0_n (by omega), w0_n (by omega), g4 5 (by omega), ← hκ, w0_e]
      · rw [u8 384 (by omega) (by omega) (by omega) (by omega) (by omega), w0_n (by omega), w0_e]
      · rw [u8 385 (by omega) (by omega) (by omega) (by omega) (by omega), w0_e]
      · rw [u4, w0_n (by omega), w0_n (by omega), g4 _ (by omega), kk _ (by omega) (by omega)]
      · rw [u6, w0_n (by omega), w0_n (by omega), g4 _ (by omega), kk _ (by omega) (by omega)]
      · rw [u8 (384 + k) (by omega) (by omega) (by omega) (by omega) (by omega), w0_n (by omega), w0_n (by omega), g3 k h1 (by omega), kk _ (by omega) (by omega)]
      · rw [u8 k (by omega) (by omega) (by omega) (by omega) e3, w0_n (by omega), w0_n (by omega), g4 k (by omega), kk k e1 e2]
    by_cases hv : wv < 0
    · have q := fin (nI 0) (by rw [if_pos hv])
      simp only [if_pos hv] at q ⊢
      exact q
    · have q := fin (nI 1) (by rw [if_neg hv])
      simp only [if_neg hv] at q ⊢
      exact q
  have J67 : ∀ ρ : zSt, ρ 0 12 = nI C → ∃ σ', fX9_serves_j67 (nI c) (nI l) wv (bI hit) (nI m) (nI a) ρ = some (nI m, σ') ∧ (∀ i, i ≠ 0 → σ' i = ρ i) ∧ σ' 0 13 = ρ 0 13 + nI 1 ∧ σ' 0 (a + 3) = ρ 0 13 + nI 1 ∧ σ' 0 6 = ρ 0 6 + bI hit ∧ σ' 0 7 = ρ 0 7 + bI (!hit) ∧ σ' 0 5 = ρ 0 5 + nI m ∧ σ' 0 12 = nI (if C < 12 then C + 1 else C) ∧ (σ' 0 384 = nI c ∧ σ' 0 385 = nI l ∧ σ' 0 386 = (if wv < 0 then nI 0 else nI 1) ∧ σ' 0 387 = ρ 0 (a + 2) ∧ σ' 0 388 = nI m ∧ σ' 0 389 = ρ 0 4) ∧ (∀ k, 6 ≤ k → k < 72 → σ' 0 (384 + k) = ρ 0 (384 + (k - 6))) ∧ ∀ k, k ≠ 5 → k ≠ 6 → k ≠ 7 → k ≠ 12 → k ≠ 13 → k ≠ a + 3 → k < 384 → σ' 0 k = ρ 0 k := by
    intro ρ hρ
    unfold fX9_serves_j67 fX9_serves_j112
    rw [p_ag (by omega) (by omega), Option.bind_some, p_w0 (by omega), Option.bind_some, p_ag (by omega) (by omega), Option.bind_some, w0_e, nI_add, p_w0 (by omega), Option.bind_some, p_ag (by omega) (by omega), Option.bind_some]
    generalize hκ : w0 (w0 ρ 13 (ρ 0 13 + nI 1)) (a + 3) (ρ 0 13 + nI 1) = κ
    have kk : ∀ k, k ≠ 13 → k ≠ a + 3 → κ 0 k = ρ 0 k := fun k e1 e2 => by rw [← hκ, w0_n e2, w0_n e1]
    have hgo : ∀ x y : Int32, x = bI hit → y = bI (!hit) → ∃ σ', ((z_sg κ 0 456 (nI 6) (κ 0 6 + x)).bind fun σ10 => (z_ag (σ10 0) 456 (nI 7)).bind fun x11 => fX9_serves_j132 (nI c) (nI l) wv (nI m) (nI a) y x11 (nI 7) σ10) = some (nI m, σ') ∧ (∀ i, i ≠ 0 → σ' i = ρ i) ∧ σ' 0 13 = ρ 0 13 + nI 1 ∧ σ' 0 (a + 3) = ρ 0 13 + nI 1 ∧ σ' 0 6 = ρ 0 6 + bI hit ∧ σ' 0 7 = ρ 0 7 + bI (!hit) ∧ σ' 0 5 = ρ 0 5 + nI m ∧ σ' 0 12 = nI (if C < 12 then C + 1 else C) ∧ (σ' 0 384 = nI c ∧ σ' 0 385 = nI l ∧ σ' 0 386 = (if wv < 0 then nI 0 else nI 1) ∧ σ' 0 387 = ρ 0 (a + 2) ∧ σ' 0 388 = nI m ∧ σ' 0 389 = ρ 0 4) ∧ (∀ k, 6 ≤ k → k < 72 → σ' 0 (384 + k) = ρ 0 (384 + (k - 6))) ∧ ∀ k, k ≠ 5 → k ≠ 6 → k ≠ 7 → k ≠ 12 → k ≠ 13 → k ≠ a + 3 → k < 384 → σ' 0 k = ρ 0 k := by
      intro x y hx hy
      rw [p_w0 (by omega), Option.bind_some, p_ag (by omega) (by omega), Option.bind_some, w0_n (by omega)]
      obtain ⟨σ', u1, u2, u3, u4, u5, u6, u7, u8⟩ := J132 y (κ 0 7) (w0 κ 6 (κ 0 6 + x)) (by rw [w0_n (by omega), kk 12 (by omega) (by omega)]; exact hρ)
      refine ⟨σ', u1, fun i hi => by rw [u2 i hi, w0_o hi, ← hκ, w0_o hi, w0_o hi], ?_, ?_, ?_, ?_, ?_, u5, ⟨u6.1, u6.2.1, u6.2.2.1, ?_, u6.2.2.2.2.1, ?_⟩, fun k h1 h2 => ?_, fun k e1 e2 e3 e4 e5 e6 e7 => ?_⟩
      · rw [u8 13 (by omega) (by omega) (by omega) (by omega), w0_n (by omega), ← hκ, w0_n (by omega), w0_e]
      · rw [u8 (a + 3) (by omega) (by omega) (by omega) (by omega), w0_n (by omega), ← hκ, w0_e]
      · rw [u8 6 (by omega) (by omega) (by omega) (by omega), w0_e, hx, kk 6 (by omega) (by omega)]
      · rw [u3, hy, kk 7 (by omega) (by omega)]
      · rw [u4, w0_n (by omega), kk 5 (by omega) (by omega)]
      · rw [u6.2.2.2.1, w0_n (by omega), kk _ (by omega) (by omega)]
      · rw [u6.2.2.2.2.2, w0_n (by omega), kk _ (by omega) (by omega)]
      · rw [u7 k h1 h2, w0_n (by omega), kk _ (by omega) (by omega)]
      · rw [u8 k e1 e3 e4 e7, w0_n e2, kk k e5 e6]
    cases hit with
    | false =>
      rw [if_pos (show bI false = 0 from nI_0)]
      have := hgo (nI 0) (nI 1) rfl rfl
      simp only [if_pos (show bI false = 0 from nI_0)]
      exact this
    | true =>
      rw [if_neg (show ¬ bI true = 0 by decide)]
      have := hgo (nI 1) (nI 0) rfl rfl
      simp only [if_neg (show ¬ bI true = 0 by decide)]
      exact this
  unfold fX9_serves_j33
  rw [qr_copyOf hc hS h1, Option.bind_some, hr, oI_some]
  by_cases hv : wv < 0
  · rw [if_pos hv]
    obtain ⟨σ', u1, u2, u3, u4, u5, u6, u7, u8, u9, u10, u11⟩ := J67 σ h12
    refine ⟨σ', u1, u2, ?_, ?_, u3, u4, u5, u6, u7, u8, ?_, u10, fun k e1 e2 e3 e4 e5 e6 e7 e8 e9 => u11 k e1 e2 e3 e4 e5 e8 e9⟩
    · rw [if_pos hv, u11 (a + 2) (by omega) (by omega) (by omega) (by omega) (by omega) (by omega) (by omega)]
    · rw [if_pos hv, u11 (46 + l) (by omega) (by omega) (by omega) (by omega) (by omega) (by omega) (by omega)]
    · exact ⟨u9.1, u9.2.1, u9.2.2.1, by rw [if_pos hv]; exact u9.2.2.2.1, u9.2.2.2.2⟩
  · rw [if_neg hv, nI_add, p_w0 (by omega), Option.bind_some, nI_add, p_w0 (by omega), Option.bind_some]
    obtain ⟨σ', u1, u2, u3, u4, u5, u6, u7, u8, u9, u10, u11⟩ := J67 (w0 (w0 σ (a + 2) wv) (46 + l) wv) (by rw [w0_n (by omega), w0_n (by omega)]; exact h12)
    have kk : ∀ k, k ≠ a + 2 → k ≠ 46 + l → (w0 (w0 σ (a + 2) wv) (46 + l) wv) 0 k = σ 0 k := fun k e1 e2 => by rw [w0_n e2, w0_n e1]
    rw [kk 13 (by omega) (by omega)] at u3 u4
    rw [kk 6 (by omega) (by omega)] at u5
    rw [kk 7 (by omega) (by omega)] at u6
    rw [kk 5 (by omega) (by omega)] at u7
    rw [kk 4 (by omega) (by omega), w0_n (by omega), w0_e] at u9
    refine ⟨σ', u1, fun i hi => by rw [u2 i hi, w0_o hi, w0_o hi], ?_, ?_, u3, u4, u5, u6, u7, u8, ?_, fun k h1 h2 => by rw [u10 k h1 h2, kk _ (by omega) (by omega)], fun k e1 e2 e3 e4 e5 e6 e7 e8 e9 => by rw [u11 k e1 e2 e3 e4 e5 e8 e9, kk k e7 e6]⟩
    · rw [if_neg hv, u11 (a + 2) (by omega) (by omega) (by omega) (by omega) (by omega) (by omega) (by omega), w0_n (by omega), w0_e]
    · rw [if_neg hv, u11 (46 + l) (by omega) (by omega) (by omega) (by omega) (by omega) (by omega) (by omega), w0_e]
    · exact ⟨u9.1, u9.2.1, u9.2.2.1, by rw [if_neg hv]; exact u9.2.2.2.1, u9.2.2.2.2⟩
/-- the class's log -/
theorem qx_shift {K : Int32 → Int32 → Int32 → Int32 → Int32 → Int32 → zSt → Option zSt} {x1 x2 x3 x4 x5 x6 : Int32} : ∀ (r n : Nat) (τ : zSt), r ≤ 66 → r < n → ∃ τ', fX3_add_l9 K n x1 x2 x3 x4 x5 x6 (nI (5 + r)) τ = K x1 x2 x3 x4 x5 x6 τ' ∧ (∀ i, i ≠ 10 → τ' i = τ i) ∧ (∀ k, 6 ≤ k → k ≤ 5 + r → τ' 10 k = τ 10 (k - 6)) ∧ ∀ k, (k < 6 ∨ 5 + r < k) → τ' 10 k = τ 10 k := by
  intro r
  induction r with
  | zero =>
    intro n τ hr hn
    obtain ⟨n, rfl⟩ : ∃ k, n = k + 1 := ⟨n - 1, by omega⟩
    rw [fX3_add_l9, if_pos (nI_lt (by omega) (by omega))]
    exact ⟨τ, rfl, fun _ _ => rfl, fun k h1 h2 => by omega, fun _ _ => rfl⟩
  | succ r ih =>
    intro n τ hr hn
    obtain ⟨n, rfl⟩ : ∃ k, n = k + 1 := ⟨n - 1, by omega⟩
    rw [fX3_add_l9, if_neg (nI_nlt (by omega) (by omega)), p_sub (by omega), p_ag (by omega) (by omega), Option.bind_some, p_wr (by omega) (by omega), Option.bind_some, show 5 + (r + 1) = (5 + r) + 1 by omega, nI_dec]
    obtain ⟨τ', g1, g2, g3, g4⟩ := ih n (wr τ 10 (5 + r + 1) (τ 10 (5 + r + 1 - 6))) (by omega) (by omega)
    refine ⟨τ', g1, fun i hi => by rw [g2 i hi, wr_o hi], fun k h1 h2 => ?_, fun k hk => by rw [g4 k (by omega), wr_n (by omega)]⟩
    by_cases e : k = 5 + r + 1
    · rw [e, g4 _ (by omega), wr_e]
    · rw [g3 k h1 (by omega), wr_n (by omega)]
theorem qx_add {τ : zSt} {C : Nat} (x1 x2 x3 x4 x5 x6 : Int32) (h18 : τ 18 0 = nI C) (hC : C ≤ 12) : ∃ τ', fX3_add x1 x2 x3 x4 x5 x6 τ = some τ' ∧ (∀ i, i ≠ 10 → i ≠ 18 → τ' i = τ i) ∧ τ' 18 0 = nI (if C < 12 then C + 1 else C) ∧ (τ' 10 0 = x1 ∧ τ' 10 1 = x2 ∧ τ' 10 2 = x3 ∧ τ' 10 3 = x4 ∧ τ' 10 4 = x5 ∧ τ' 10 5 = x6) ∧ ∀ k, 6 ≤ k → k < 72 → τ' 10 k = τ 10 (k - 6) := by
  unfold fX3_add
  rw [p_sub (by omega), show 72 - 1 = 5 + 66 from rfl]
  obtain ⟨τ1, g1, g2, g3, g4⟩ := qx_shift (K := fun x3 x4 x5 x6 x7 x8 σ9 => (z_sg σ9 10 72 (nI 0) x3).bind fun σ10 => (z_sg σ10 10 72 (nI 1) x4).bind fun σ11 => (z_sg σ11 10 72 (nI 2) x5).bind fun σ12 => (z_sg σ12 10 72 (nI 3) x6).bind fun σ13 => (z_sg σ13 10 72 (nI 4) x7).bind fun σ14 => (z_sg σ14 10 72 (nI 5) x8).bind fun σ15 => (if (nI 12) ≤ (σ15 18 0) then some σ15 else (z_sf σ15 18 ((σ15 18 0) + (nI 1))).bind fun σ16 => some σ16)) (x1 := x1) (x2 := x2) (x3 := x3) (x4 := x4) (x5 := x5) (x6 := x6) 66 z_fu τ (by omega) (by decide)
  rw [g1, p_wr (by omega) (by omega), Option.bind_some, p_wr (by omega) (by omega), Option.bind_some, p_wr (by omega) (by omega), Option.bind_some, p_wr (by omega) (by omega), Option.bind_some, p_wr (by omega) (by omega), Option.bind_some, p_wr (by omega) (by omega), Option.bind_some]
  generalize hκ : wr (wr (wr (wr (wr (wr τ1 10 0 x1) 10 1 x2) 10 2 x3) 10 3 x4) 10 4 x5) 10 5 x6 = κ
  have ko : ∀ i, i ≠ 10 → κ i = τ i := fun i hi => by rw [← hκ, wr_o hi, wr_o hi, wr_o hi, wr_o hi, wr_o hi, wr_o hi, g2 i hi]
  have kv : κ 10 0 = x1 ∧ κ 10 1 = x2 ∧ κ 10 2 = x3 ∧ κ 10 3 = x4 ∧ κ 10 4 = x5 ∧ κ 10 5 = x6 := by
    rw [← hκ]
    refine ⟨?_, ?_, ?_, ?_, ?_, wr_e _ _ _ _⟩
    · rw [wr_n (by omega), wr_n (by omega), wr_n (by omega), wr_n (by omega), wr_n (by omega), wr_e]
    · rw [wr_n (by omega), wr_n (by omega), wr_n (by omega), wr_n (by omega), wr_e]
    · rw [wr_n (by omega), wr_n (by omega), wr_n (by omega), wr_e]
    · rw [wr_n (by omega), wr_n (by omega), wr_e]
    · rw [wr_n (by omega), wr_e]
  have ks : ∀ k, 6 ≤ k → k < 72 → κ 10 k = τ 10 (k - 6) := fun k h1 h2 => by
    rw [← hκ, wr_n (by omega), wr_n (by omega), wr_n (by omega), wr_n (by omega), wr_n (by omega), wr_n (by omega), g3 k h1 (by omega)]
  have k18 : κ 18 0 = nI C := by rw [ko 18 (by omega)]; exact h18
  rw [k18]
  by_cases h : C < 12
  · rw [if_neg (nI_ge h (by omega)), p_ws, Option.bind_some, nI_add, if_pos h]
    refine ⟨_, rfl, fun i h1 h2 => by rw [ws_o h2, ko i h1], ws_e _ _ _ _, ?_, fun k h1 h2 => by rw [ws_o (by omega), ks k h1 h2]⟩
    rw [ws_o (by omega)]
    exact kv
  · rw [if_pos (nI_le (by omega) (by omega)), if_neg h]
    exact ⟨κ, rfl, fun i h1 _ => ko i h1, k18, kv, ks⟩
