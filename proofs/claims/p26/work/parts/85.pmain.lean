/-! the law's own body -/
theorem gM_le {B B' : Nat} {τ : zSt} (h : gM B τ) (hb : B ≤ B') : gM B' τ := by
  obtain ⟨n, S, R, P, U, D, T, V, h1, h2, h3, h4⟩ := h
  exact ⟨n, S, R, P, U, D, T, V, h1, h2, h3, by omega⟩
theorem m_loop {xs : Nat → Int32} {L : Nat} {K : Int32 → cSt → Option Int32} (hL : L ≤ 260) : ∀ (r j m V : Nat) (χ : cSt), j + 1 + r = 41 → r < m → lI j V χ → ∃ V' χ', fL_law_l62 xs L K m (nI 1) (nI V) (nI (j + 1)) χ = K (nI 1) χ' ∧ lI 40 V' χ' := by
  intro r
  induction r with
  | zero =>
    intro j m V χ hj hm h
    obtain ⟨m, rfl⟩ : ∃ k, m = k + 1 := ⟨m - 1, by omega⟩
    obtain rfl : j = 40 := by omega
    rw [fL_law_l62, if_pos (nI_lt (by omega) (by omega))]
    exact ⟨V, χ, rfl, h⟩
  | succ r ih =>
    intro j m V χ hj hm h
    obtain ⟨m, rfl⟩ : ∃ k, m = k + 1 := ⟨m - 1, by omega⟩
    obtain ⟨n, S, R, P, U, D, T, h⟩ := h
    obtain ⟨v, v1, v2⟩ := w_cell (xs := xs) hL (show j + 1 < 1000 by omega)
    obtain ⟨k, χ1, a1, n1, S1, R1, P1, U1, D1, T1, h1⟩ := a_acts (v := v) h (by omega) v1
    rw [fL_law_l62, if_neg (nI_nlt (by omega) (by omega)), if_neg (show ¬ nI 1 = 0 by decide), v2, Option.bind_some, a1, b2_c]
    have hk : V + k < 2 ^ 31 := by
      have := h1.2.2.1.2
      have := h1.2.2.2.1
      omega
    have v6 : fX8_value (nI 6) χ1 = some (χ1 0 23 0) := by rw [v_value (by omega), n_6]
    have v7 : fX8_value (nI 7) χ1 = some (χ1 0 24 0) := by rw [v_value (by omega), n_7]
    have v13 : fX8_value (nI 13) χ1 = some (nI (iLogN (V + k))) := by rw [v_value (by omega), n_13, h1.1.2.2.1]
    rw [if_neg (nI_pos (by omega)), s_sound h1.1.1, Option.bind_some, if_neg (show ¬ nI 1 = 0 by decide), v6, Option.bind_some, v7, Option.bind_some, h1.1.2.2.2.1, nI_add, if_pos rfl, v13, Option.bind_some]
    have go : ∀ χ2, lI (j + 1) (V + k) χ2 → ∃ V' χ', fL_law_j178 xs L (fL_law_l62 xs L K m) (nI (V + k)) (nI (j + 1)) χ2 = K (nI 1) χ' ∧ lI 40 V' χ' := fun χ2 h2 => by
      unfold fL_law_j178
      rw [nI_add]
      exact ih (j + 1) m (V + k) χ2 (by omega) (by omega) h2
    have j154 : ∃ V' χ', fL_law_j154 xs L (fL_law_l62 xs L K m) (nI (V + k)) (nI (j + 1)) (nI v) (nI 1) χ1 = K (nI 1) χ' ∧ lI 40 V' χ' := by
      unfold fL_law_j154
      rw [if_neg (show ¬ nI 1 = 0 by decide), z_rm_nI (by omega) (by omega) (by omega), Option.bind_some]
      by_cases c : 0 < nI ((j + 1) % 8)
      · rw [if_pos c]
        exact go χ1 ⟨n1, S1, R1, P1, U1, D1, T1, h1⟩
      · rw [if_neg c]
        obtain ⟨u, u1, u2⟩ := shr_nI (k := 3) v1 (by omega)
        obtain ⟨χ2, r1, r2⟩ := r_refuses h1 u1
        rw [u2, r1, b2_c, if_neg (show ¬ nI 1 = 0 by decide)]
        exact go χ2 ⟨n1, S1, R1, P1, U1, D1, T1, r2⟩
    by_cases c : 12 ≤ V + k
    · rw [if_pos (nI_le c hk)]
      unfold fL_law_j146
      rw [if_pos (by unfold iLogN; rw [if_neg (by omega)])]
      exact j154
    · rw [if_neg (nI_ge (by omega) (by omega))]
      unfold fL_law_j146
      rw [if_pos (by unfold iLogN; rw [if_pos (by omega)])]
      exact j154
theorem m_end {xs : Nat → Int32} {L : Nat} {B : Nat} {χ : cSt} (hB : B ≤ 90) (hh : hM B 2 χ) (hg : gM B (χ 0)) : fL_law_j215 xs L (nI 1) χ = some 1 := by
  obtain ⟨n, S, R, P, U, D, T, V, hm, hU, hD, hT⟩ := id hg
  obtain ⟨-, d, e1⟩ := o_dig (χ := χ) (χ' := χ) hm gEq_rfl rfl rfl
  unfold fL_law_j215
  rw [e1, Option.bind_some, if_neg (show ¬ nI 1 = 0 by decide)]
  -- three ticks
  obtain ⟨χ3, s1, s2, s5, s6, s7, s8⟩ := o_save hh hg
  obtain ⟨s9, -⟩ := s8 (by omega)
  obtain ⟨P', U', D', q, τ', f1, f2, f3, f4, f5⟩ := i_letPass hm (k := 3) (by omega) (by omega) (by omega) (by omega)
  have hp : fX8_pass (nI 3) χ = some (nI q, c_up χ3 0 τ') := by
    unfold fX8_pass
    rw [if_neg (gRng (by omega) (by omega) (by omega)), qx_time hm.2.2.2.2 (by omega) (by omega), if_pos (by omega), Option.bind_some, if_neg (show ¬ nI 1 = 0 by decide), s1, Option.bind_some, s5, f1, cb2]
  rw [hp, b2_c, if_neg (nI_pos (by omega))]
  have un : ∀ i, i ≠ 0 → c_up χ3 0 τ' i = χ3 i := fun i hi => c_un hi
  rw [if_pos (by omega)] at s2
  obtain ⟨t1, t2, t3⟩ := s2
  have hh4 : hM 93 3 (c_up χ3 0 τ') := ⟨by omega, by rw [un 7 (by omega)]; exact t2, fun i hi => by rw [un (2 + i) (by omega)]; exact gM_le (t3 i hi) (by omega)⟩
  have hg4 : gM 93 (c_up χ3 0 τ' 0) := by
    rw [c_ue]
    exact ⟨n, S, R, P', U', D', T + 3, V + q, f2, by omega, by omega, by omega⟩
  obtain ⟨χ4, b1, b2, b3, b4, b5, b6⟩ := o_begin (n := 6) (S := 8) (R := 16) (T := T + 3) hh4 hg4 (by rw [c_ue]; exact f2.2.2.2.2) (by omega) (by omega) (by omega)
  obtain ⟨-, b7⟩ := b6 (by omega)
  rw [if_pos (by omega)] at b3
  rw [b1, b2_c, if_neg (nI_nlt (by omega) (by omega)), s_sound b2.1, Option.bind_some, if_neg (show ¬ nI 1 = 0 by decide)]
  obtain ⟨χ5, c1, c2, c3, c4, c5⟩ := o_undo b3
  rw [c1, b2_c, if_pos rfl]
  obtain ⟨χ6, d1, d2, d3, d4, d5⟩ := o_undo c2
  rw [d1, b2_c, if_pos rfl]
  have g1 : gEq (χ 0) (χ6 0) := by
    have e4 : χ5 (2 + 2) = χ3 (2 + 2) := by rw [c5 (2 + 2) (by omega) (by omega), b7 2 (by omega), un (2 + 2) (by omega)]
    rw [e4] at d3
    exact gEq_trans s9 d3
  have g2 : χ6 7 0 0 = χ 7 0 0 := by rw [d4, c4, b5, un 7 (by omega), s7]
  have g3 : χ6 7 1 0 = χ 7 1 0 := by rw [d2.2.1, hh.2.1]
  obtain ⟨e2, -⟩ := o_dig (χ := χ) (χ' := χ6) hm g1 g2 g3
  rw [e2, e1, Option.bind_some, if_pos rfl]
  rfl
theorem law_one {xs : Nat → Int32} {L : Nat} (hL : L ≤ 260) {τ1 : zSt} (ht : fX4_startAnew (nI 3) (nI 4) (nI 4) z0 = some τ1) : fL_law xs L (cFresh τ1) = some 1 := by
  have hm0 : mach 3 4 4 0 0 0 0 0 τ1 := i_fresh (by omega) (by omega) (by omega) ht
  have h0 : cFresh τ1 0 = τ1 := c_ue _ _ _
  have hg : gM 90 (cFresh τ1 0) := by
    rw [h0]
    exact ⟨3, 4, 4, 0, 0, 0, 0, 0, hm0, by omega, by omega, by omega⟩
  have hh : hM 90 0 (cFresh τ1) := ⟨by omega, nI_0.symm, fun i hi => absurd hi (Nat.not_lt_zero i)⟩
  obtain ⟨v, v1, v2⟩ := w_cell (xs := xs) hL (show 0 < 1000 by omega)
  obtain ⟨u8, p8, q8⟩ := shr_nI (k := 8) v1 (by omega)
  obtain ⟨u12, p12, q12⟩ := shr_nI (k := 12) v1 (by omega)
  have m5 : v % 5 < 5 := Nat.mod_lt _ (by omega)
  have m4 : u8 % 4 < 4 := Nat.mod_lt _ (by omega)
  have m6 : u12 % 6 < 6 := Nat.mod_lt _ (by omega)
  unfold fL_law
  rw [v2, Option.bind_some, s_sound (by rw [h0]; exact hm0.1), Option.bind_some, if_neg (show ¬ nI 1 = 0 by decide), z_rm_nI (by omega) v1 (by omega), Option.bind_some, q8, z_rm_nI (by omega) p8 (by omega), Option.bind_some, q12, z_rm_nI (by omega) p12 (by omega), Option.bind_some, nI_add, nI_add, nI_add]
  obtain ⟨χ1, b1, b2, b3, b4, b5, -⟩ := o_begin (n := 2 + v % 5) (S := 1 + u8 % 4) (R := 1 + u12 % 6) (T := 0) hh hg (by rw [h0]; exact hm0.2.2.2.2) (by omega) (by omega) (by omega)
  rw [b1, b2_c, if_pos nI_0]
  have hI : lI 0 0 χ1 := ⟨_, _, _, 0, 0, 0, 0, b2, by omega, by omega, by omega, b3, by rw [b5]; exact nI_0.symm⟩
  obtain ⟨V', χ2, e1, e2⟩ := m_loop (xs := xs) (K := fun x35 σ36 => (if x35 = 0 then
  fL_law_j214 xs L σ36
  else
  z_b2 (fX8_undo  σ36) fun x37 σ38 =>
  (if x37 = (nI 3) then
  z_b2 (fX8_undo  σ38) fun x39 σ40 =>
  (if x39 = (nI 2) then
  fL_law_j215 xs L (nI 1) σ40
  else
  fL_law_j214 xs L σ40)
  else
  fL_law_j214 xs L σ38))) hL 40 0 z_fu 0 χ1 rfl (by decide) hI
  refine Eq.trans e1 ?_
  obtain ⟨n, S, R, P, U, D, T, hj⟩ := e2
  have hh4 : hM 90 (3 + 1) χ2 := hj.2.2.2.2.1
  obtain ⟨χ3, c1, c2, c3, -, c5⟩ := o_undo hh4
  obtain ⟨χ4, d1, d2, d3, -, -⟩ := o_undo c2
  rw [if_neg (show ¬ nI 1 = 0 by decide), c1, b2_c, if_pos rfl, d1, b2_c, if_pos rfl]
  exact m_end (by omega) d2 (gM_g (c2.2.2 2 (by omega)) d3)
