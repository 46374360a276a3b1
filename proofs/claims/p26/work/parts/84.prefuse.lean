/-! a text that is no orders changes nothing -/
def tt (j : Nat) : Nat := if j = 0 then 116 else 48
theorem take0 {a1 : Int32} {τ : zSt} (h4 : τ 4 0 = nI 0) : ∃ τ', fX5_take (nI 116) a1 τ = some (-1, τ') ∧ τ' 4 0 = nI 5 ∧ τ' 8 0 = nI 0 ∧ τ' 9 0 = nI 0 ∧ τ' 11 = τ 11 := by
  unfold fX5_take
  rw [h4, show z_pq (nI 0) (nI 0) = some true by decide +kernel, Option.bind_some, ifT]
  unfold fX5_takeKind
  rw [if_pos rfl, p_ws, Option.bind_some]
  unfold fX5_startNumber
  rw [p_ws, Option.bind_some, p_ws, Option.bind_some, p_ws, Option.bind_some, Option.bind_some, bz1, Option.bind_some, b2_c, if_neg (by decide)]
  refine ⟨_, rfl, ?_, ?_, ws_e _ _ _ _, ?_⟩
  · rw [ws_o (by omega), ws_o (by omega), ws_e]
  · rw [ws_o (by omega), ws_e]
  · rw [ws_o (by omega), ws_o (by omega), ws_o (by omega), ws_o (by omega)]
theorem take_end {d : Nat} {a1 : Int32} {τ : zSt} (h4 : τ 4 0 = nI 5) (h8 : τ 8 0 = nI 0) (h9 : τ 9 0 = nI (d + 1)) (hd : d < 1000) (h10 : τ 10 0 = nI 1) : fX5_take (-1) a1 τ = some (nI 1, τ) := by
  have hp : plc 5 2 1 50 := Or.inr (Or.inr ⟨rfl, rfl, rfl, rfl⟩)
  rw [qx_take3 hp h4]
  unfold fX5_takeOfNumber fX5_takeOfNumber_j22 fX5_takeOfNumber_j59
  rw [if_pos (by decide), h9, if_neg (nI_ne0 (by omega) (by omega)), h4, (plc_tab hp).2.1, Option.bind_some, h8, if_pos (nI_lt (by omega) (by omega)), h10]
theorem r_read {L : Nat} {τ : zSt} (hC : tC tt L τ) (hL : 2 ≤ L) : ∃ τ', fX5_readAll (nI L) τ = some (nI (if L < 4 then 1 else 3), τ') := by
  have hp : plc 5 2 1 50 := Or.inr (Or.inr ⟨rfl, rfl, rfl, rfl⟩)
  unfold fX5_readAll
  rw [p_ws, Option.bind_some, p_ws, Option.bind_some]
  generalize hτ : ws (ws τ 3 (nI 0)) 4 (nI 0) = τ0
  have hC0 : tC tt L τ0 := tC_same hC (by rw [← hτ, ws_o (by omega), ws_o (by omega)])
  have h40 : τ0 4 0 = nI 0 := by rw [← hτ, ws_e]
  rw [show z_fu = 1995 + 1 + 1 + 1 + 1 + 1 from rfl, qx_step hC0 (Nat.zero_le _)]
  have s0 : sg tt L 0 = nI 116 := if_pos (by omega)
  have s1 : ∀ k, L ≤ k → sg tt L k = -1 := fun k hk => if_neg (by omega)
  have dgk : ∀ k, 1 ≤ k → k < L → dgt tt L k := fun k h1 h2 => by
    unfold dgt tt
    rw [if_neg (by omega)]
    exact ⟨h2, by omega, by omega⟩
  have t48 : ∀ k, 1 ≤ k → tt k - 48 = 0 := fun k hk => by
    unfold tt
    rw [if_neg (by omega)]
  rw [s0]
  obtain ⟨τ1, e1, e4, e8, e9, e11⟩ := take0 (a1 := nI 0) h40
  have hC1 : tC tt L τ1 := tC_same hC0 e11
  rw [e1, b2_c, if_pos rfl, qx_step hC1 (show 0 + 1 ≤ L by omega)]
  obtain ⟨τ2, f1, f8, f9, f10, fo⟩ := (qx_digit hC1 hp e4 e8 e9 (by omega) (dgk 1 (by omega) (by omega))).2 (by omega)
  rw [t48 1 (by omega)] at f8
  rw [if_pos rfl] at f10
  have hC2 : tC tt L τ2 := tC_same hC1 (fo 11 (by omega) (by omega) (by omega))
  have f4 : τ2 4 0 = nI 5 := by rw [fo 4 (by omega) (by omega) (by omega)]; exact e4
  rw [show 0 + 1 = 1 from rfl, f1, b2_c, if_pos rfl, qx_step hC2 (show 1 + 1 ≤ L by omega)]
  by_cases c2 : L = 2
  · rw [s1 (1 + 1) (by omega), take_end f4 f8 f9 (by omega) f10, b2_c, if_neg (by decide), if_pos (by omega)]
    exact ⟨_, rfl⟩
  · obtain ⟨τ3, g1, g8, g9, g10, go⟩ := (qx_digit hC2 hp f4 f8 f9 (by omega) (dgk (1 + 1) (by omega) (by omega))).2 (by omega)
    rw [t48 (1 + 1) (by omega)] at g8
    rw [if_neg (by omega)] at g10
    have hC3 : tC tt L τ3 := tC_same hC2 (go 11 (by omega) (by omega) (by omega))
    have g4 : τ3 4 0 = nI 5 := by rw [go 4 (by omega) (by omega) (by omega)]; exact f4
    rw [g1, b2_c, if_pos rfl, qx_step hC3 (show 1 + 1 + 1 ≤ L by omega)]
    by_cases c3 : L = 3
    · rw [s1 (1 + 1 + 1) (by omega), take_end g4 g8 g9 (by omega) (by rw [g10]; exact f10), b2_c, if_neg (by decide), if_pos (by omega)]
      exact ⟨_, rfl⟩
    · rw [(qx_digit hC3 hp g4 g8 g9 (by omega) (dgk (1 + 1 + 1) (by omega) (by omega))).1 (by omega), b2_c, if_neg (by decide), if_neg (by omega)]
      exact ⟨_, rfl⟩
/-- machines and history are the same -/
def rR (χ χ' : cSt) : Prop := χ' 7 1 = χ 7 1 ∧ ∀ i, i ≠ 6 → i ≠ 7 → χ' i = χ i
theorem rR_trans {a b c : cSt} (h : rR a b) (g : rR b c) : rR a c := ⟨g.1.trans h.1, fun i i6 i7 => (g.2 i i6 i7).trans (h.2 i i6 i7)⟩
theorem j_same {n S R P U D T t V : Nat} {χ χ' : cSt} (h : lJ n S R P U D T t V χ) (e : rR χ χ') (e0 : χ' 7 0 0 = nI 0) : lJ n S R P U D T t V χ' := by
  obtain ⟨h1, h2, h3, h4, ⟨h5, h6, h7⟩, -⟩ := h
  exact ⟨by rw [e.2 0 (by omega) (by omega)]; exact h1, h2, h3, h4, ⟨h5, by rw [e.1]; exact h6, fun i hi => by rw [e.2 (2 + i) (by unfold hN at hi; split at hi <;> omega) (by unfold hN at hi; split at hi <;> omega)]; exact h7 i hi⟩, e0⟩
theorem o_clear {χ : cSt} : ∃ χ', fX8_clearText χ = some (χ 7 0 0, χ') ∧ χ' 7 0 0 = nI 0 ∧ rR χ χ' := by
  unfold fX8_clearText c_sf
  rw [Option.bind_some]
  exact ⟨_, rfl, by rw [c_ue, p_ze], by rw [c_ue, p_zn (by omega)], fun i _ i7 => c_un i7⟩
theorem o_append {χ : cSt} {b L : Nat} (h7 : χ 7 0 0 = nI L) (hL : L < 100) (hb : b < 128) : ∃ χ', fX8_append (nI b) χ = some (nI (L + 1), χ') ∧ χ' 7 0 0 = nI (L + 1) ∧ χ' 6 11 = upd (χ 6 11) L (nI b) ∧ rR χ χ' := by
  unfold fX8_append
  rw [if_neg (gRng (by omega) (by omega) (by omega)), h7, if_neg (nI_ge hL (by omega))]
  unfold fX8_append_j21
  have hsb : c_sb χ (nI L) (nI b).toInt8.toInt32 = some (c_up χ 6 (z_up (χ 6) 11 (upd (χ 6 11) L (nI b)))) := by
    unfold c_sb
    rw [if_neg (by rw [nI_clamp (by omega)]; rintro (q | q); exact nI_pos (by omega) q; omega), nI_clamp (by omega), nar_ok b hb]
  have q7 : c_up χ 6 (z_up (χ 6) 11 (upd (χ 6 11) L (nI b))) 7 = χ 7 := c_un (by omega)
  rw [if_neg (show ¬ nI 1 = 0 by decide), h7, hsb, Option.bind_some, q7, h7, nI_add]
  unfold c_sf
  rw [Option.bind_some, c_ue, p_ze, q7]
  refine ⟨_, rfl, by rw [c_ue, p_ze], ?_, ?_, fun i i6 i7 => ?_⟩
  · rw [c_un (by omega), c_ue, p_ze]
  · rw [c_ue, p_zn (by omega)]
  · rw [c_un i7, c_un i6]
theorem tt_upd {f : Nat → Int32} {L : Nat} (h : ∀ j, j < L → f j = nI (tt j)) : ∀ j, j < L + 1 → upd f L (nI (tt L)) j = nI (tt j) := fun j hj => by
  by_cases e : j = L
  · rw [e, p_upe]
  · rw [p_upn e]; exact h j (by omega)
theorem r_loop {y : Nat} {K : Int32 → Int32 → cSt → Option (Int32 × cSt)} (hy : y ≤ 8) : ∀ (r k m : Nat) (χ : cSt), k + r = y → r < m → χ 7 0 0 = nI (2 + k) → (∀ j, j < 2 + k → χ 6 11 j = nI (tt j)) →
    ∃ χ', fL_refuses_l41 K m (nI y) (nI 1) (nI k) χ = K (nI y) (nI 1) χ' ∧ χ' 7 0 0 = nI (2 + y) ∧ (∀ j, j < 2 + y → χ' 6 11 j = nI (tt j)) ∧ rR χ χ' := by
  intro r
  induction r with
  | zero =>
    intro k m χ hk hm h7 ht
    obtain ⟨m, rfl⟩ : ∃ k, m = k + 1 := ⟨m - 1, by omega⟩
    obtain rfl : k = y := by omega
    rw [fL_refuses_l41, if_pos (nI_le (by omega) (by omega))]
    exact ⟨χ, rfl, h7, ht, rfl, fun _ _ _ => rfl⟩
  | succ r ih =>
    intro k m χ hk hm h7 ht
    obtain ⟨m, rfl⟩ : ∃ k, m = k + 1 := ⟨m - 1, by omega⟩
    rw [fL_refuses_l41, if_neg (nI_ge (by omega) (by omega)), if_neg (show ¬ nI 1 = 0 by decide)]
    obtain ⟨χ1, a1, a2, a3, a4⟩ := o_append (b := 48) h7 (by omega) (by omega)
    rw [a1, b2_c, nI_add, if_pos (by rw [show 2 + k + 1 = k + 3 by omega]), nI_add]
    obtain ⟨χ', f1, f2, f3, f4⟩ := ih (k + 1) m χ1 (by omega) (by omega) (by rw [a2, show 2 + k + 1 = 2 + (k + 1) by omega]) (by
      rw [a3, show 2 + (k + 1) = 2 + k + 1 by omega, show (48 : Nat) = tt (2 + k) from (if_neg (by omega)).symm]
      exact tt_upd ht)
    exact ⟨χ', f1, f2, f3, rR_trans a4 f4⟩
theorem r_refuses {n S R P U D T t V u : Nat} {χ : cSt} (h : lJ n S R P U D T t V χ) (hu : u < 2 ^ 31) : ∃ χ', fL_refuses (nI u) χ = some (nI 1, χ') ∧ lJ n S R P U D T t V χ' := by
  have h7 := h.2.2.2.2.2
  unfold fL_refuses
  rw [z_rm_nI (by omega) hu (by omega), Option.bind_some]
  have hy : u % 9 < 9 := Nat.mod_lt _ (by omega)
  generalize u % 9 = y at hy
  obtain ⟨χ1, a1, a2, a3⟩ := o_clear (χ := χ)
  rw [a1, b2_c, h7, if_neg (nI_pos (by omega))]
  obtain ⟨χ2, b1, b2, b3, b4⟩ := o_append (b := 116) a2 (by omega) (by omega)
  rw [b1, b2_c, if_pos rfl]
  obtain ⟨χ3, c1, c2, c3, c4⟩ := o_append (b := 48) b2 (by omega) (by omega)
  rw [c1, b2_c, if_pos rfl]
  have t2 : ∀ j, j < 2 + 0 → χ3 6 11 j = nI (tt j) := fun j hj => by
    rw [c3, b3]
    rcases (show j = 0 ∨ j = 1 by omega) with rfl | rfl
    · rw [p_upn (by omega), p_upe]
      rfl
    · rw [p_upe]
      rfl
  obtain ⟨χ4, d1, d2, d3, d4⟩ := r_loop (K := fun x31 x32 σ33 => (fX8_digest  σ33).bind fun x34 =>
  (if x32 = 0 then
  (z_bz (nI 0)).bind fun r => some (r, σ33)
  else
  z_b2 (fX8_carryOut  σ33) fun x35 σ36 =>
  (if (nI 2) ≤ x31 then
  fL_refuses_j102 x31 x34 (-13) x35 σ36
  else
  fL_refuses_j102 x31 x34 (-11) x35 σ36))) (y := y) (by omega) y 0 z_fu χ3 (by omega) (Nat.lt_of_lt_of_le hy (by decide)) c2 t2
  have r4 : rR χ χ4 := rR_trans a3 (rR_trans b4 (rR_trans c4 d4))
  have hm4 : mach n S R P U D T V (χ4 0) := by
    rw [r4.2 0 (by omega) (by omega)]
    exact h.1
  have hC : tC tt (2 + y) (χ4 6) := ⟨by omega, fun k hk => ⟨by unfold tt; split <;> omega, d3 k hk⟩⟩
  obtain ⟨τ', e1⟩ := r_read hC (by omega)
  have u7 : c_up χ4 6 τ' 7 = χ4 7 := c_un (by omega)
  obtain ⟨g1, d, g2⟩ := o_dig (χ := χ4) (χ' := c_up χ4 6 τ') hm4 (by rw [c_un (by omega)]; exact gEq_rfl) (by rw [u7]) (by rw [u7])
  obtain ⟨χ6, k1, k2, k3⟩ := o_clear (χ := c_up χ4 6 τ')
  rw [u7, d2] at k1
  have tail : ∀ w : Int32, fL_refuses_j102 (nI y) d w w (c_up χ4 6 τ') = some (nI 1, χ6) := fun w => by
    unfold fL_refuses_j102
    rw [if_pos rfl, g1, g2, Option.bind_some, if_pos rfl, k1, b2_c, nI_add, if_pos rfl, bz1, Option.bind_some]
  have hcarry : fX8_carryOut χ4 = some ((-10) - nI (if 2 + y < 4 then 1 else 3), c_up χ4 6 τ') := by
    unfold fX8_carryOut
    rw [d2, e1, cb2, if_neg (p_nneg (by split <;> omega))]
  refine ⟨χ6, Eq.trans d1 ?_, j_same h (rR_trans r4 (rR_trans ⟨by rw [u7], fun i i6 _ => c_un i6⟩ k3)) k2⟩
  show ((fX8_digest χ4).bind fun x34 => (if nI 1 = 0 then
  (z_bz (nI 0)).bind fun r => some (r, χ4)
  else
  z_b2 (fX8_carryOut χ4) fun x35 σ36 =>
  (if (nI 2) ≤ nI y then
  fL_refuses_j102 (nI y) x34 (-13) x35 σ36
  else
  fL_refuses_j102 (nI y) x34 (-11) x35 σ36))) = _
  rw [g2, Option.bind_some, if_neg (show ¬ nI 1 = 0 by decide), hcarry, b2_c]
  by_cases c : 2 ≤ y
  · rw [if_pos (nI_le c (by omega)), if_neg (show ¬ 2 + y < 4 by omega), show (-10 : Int32) - nI 3 = -13 by decide]
    exact tail _
  · rw [if_neg (nI_ge (by omega) (by omega)), if_pos (show 2 + y < 4 by omega), show (-10 : Int32) - nI 1 = -11 by decide]
    exact tail _
