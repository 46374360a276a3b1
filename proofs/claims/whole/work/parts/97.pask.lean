/-! questions, the text -/
theorem rl_torn {n S R P U D : Nat} {σ τ : zSt} (h : mInv n S R P U D noE noX σ τ) : ∃ x, fX1_lineToTear τ = some x ∧ ∀ ρ : zSt, ((z_ag (σ 0) 456 (nI 3)).bind fun x2 => (z_ag (σ 0) 456 (nI 2)).bind fun x3 => (if x2 = x3 then (fX9_oldestPage σ).bind fun x4 => (z_ag (σ 0) 456 x4).bind fun x5 => some (x5, ρ) else some ((-1), ρ))) = some (x, ρ) := by
  obtain ⟨hSc, hNu, hMe, hMa, hKi, hOn, hCo, hPa, hNo⟩ := h
  obtain ⟨⟨a1, a2, a3, a4, a5, a6, a7⟩, b1, c1, d1, e1⟩ := id hSc
  have hag : ∀ ρ : zSt, ((z_ag (σ 0) 456 (nI 3)).bind fun x2 => (z_ag (σ 0) 456 (nI 2)).bind fun x3 => (if x2 = x3 then (fX9_oldestPage σ).bind fun x4 => (z_ag (σ 0) 456 x4).bind fun x5 => some (x5, ρ) else some ((-1), ρ))) = (if nI P = nI R then (fX9_oldestPage σ).bind fun x4 => (z_ag (σ 0) 456 x4).bind fun x5 => some (x5, ρ) else some ((-1), ρ)) := fun ρ => by
    rw [p_ag (by omega) (by omega), Option.bind_some, p_ag (by omega) (by omega), Option.bind_some, e1.1, d1.1]
  by_cases hPR : P = R
  · obtain ⟨Q, rfl⟩ : ∃ Q, P = Q + 1 := ⟨P - 1, by omega⟩
    obtain ⟨b, q1, q2, q3⟩ := qr_oldestPage (σ := σ) (P := Q + 1) (by omega) (by omega) e1.1
    obtain ⟨k, k1, k2, k3⟩ := hPa.2.1 b q2
    obtain ⟨o, m1, m2, m3⟩ := qx_lineToTear (τ := τ) (by rw [d1.2, e1.2]; exact nI_le (by omega) (by omega))
    have hk : o = some k := by
      cases o with
      | none => exact absurd ((pg_le0 hPa k1).mp (m2 rfl k k1)) k3
      | some m =>
        obtain ⟨w1, w2, w3⟩ := m3 m rfl
        have w4 : τ 6 m ≠ 0 := fun z => w2 ((pg_le0 hPa w1).mpr z)
        obtain ⟨pm, v1, v2⟩ := hPa.2.2.1 m w1 w4
        have v3 := (hPa.2.2.2.2.2.2.1 b pm k m q2 v1 k1 w1 k2 v2 id id).mp (q3 pm v1)
        have v4 := w3 k k1 (fun z => k3 ((pg_le0 hPa k1).mp z))
        rw [hPa.2.2.2.2.2.2.2.1 k m k1 w1 k3 (Int32.le_antisymm v3 v4)]
    subst hk
    refine ⟨nI k, m1, fun ρ => ?_⟩
    rw [hag, if_pos (by rw [hPR]), q1, Option.bind_some, p_ag (by omega) (by omega), Option.bind_some, k2]
  · refine ⟨-1, qx_lineToTear0 (by rw [d1.2, e1.2]; exact nI_ge (by omega) (by omega)), fun ρ => ?_⟩
    rw [hag, if_neg (fun z => hPR ((nI_eq (by omega) (by omega)).mp z))]
theorem rl_tornop : lo_nextTorn wRel := by
  intro σ χ h
  obtain ⟨n, S, R, P, U, D, T, f, -⟩ := wRel_full h
  obtain ⟨x, x1, x2⟩ := rl_torn f.1
  refine ⟨x, ws σ 7 (nI 0), ?_, ?_, wRel_7 h⟩
  · unfold fX8_nextTorn
    rw [x1, Option.bind_some]
  · unfold fX9_nextTorn
    rw [p_ws, Option.bind_some]
    exact x2 _
theorem rl_droppedop : lo_nextDropped wRel := by
  intro σ χ h a0
  obtain ⟨n, S, R, P, U, D, T, f, bd⟩ := wRel_full h
  obtain ⟨⟨a1', a2, a3, a4, a5, a6, a7⟩, b1, c1, -⟩ := id f.1.1
  unfold fX8_nextDropped fX9_nextDropped
  rw [p_ws, Option.bind_some, b1.2]
  rcases gd_cache a2 a0 b1.1 with ⟨g1, e1⟩ | ⟨g1, c, hc, rfl, e1⟩
  · exact op_fail h (if_pos g1) (by rw [e1, Option.bind_some, if_pos nI_0]; rfl) rfl (by decide)
  rw [if_neg g1, e1, Option.bind_some, if_neg (show ¬ nI 1 = 0 by decide), qr_copyOf (by omega) a4 c1.1, Option.bind_some]
  rcases rl_ltd f.1 hc with ⟨s, s1, s2, -, -, s5⟩ | ⟨s1, -, b, d, b1', d1, s3, s4, -, -, s5, -⟩
  · have ha := sA_lt (c := c) (s := s) (k := 0) (by omega) (by omega) (by omega)
    refine op_ok (r := -1) ?_ ?_ (ws_e _ _ _ _) (wRel_7 h)
    · rw [s5, Option.bind_some]
    · rw [s2, oI_some, if_neg (nI_pos (by omega))]
  · have ha := sA_lt (c := c) (s := b) (k := 0) (by omega) (by omega) (by omega)
    refine op_ok (r := nI d) ?_ ?_ (ws_e _ _ _ _) (wRel_7 h)
    · rw [s5, Option.bind_some]
    · rw [s1, oI_none, if_pos p_neg, s3, Option.bind_some, p_ag (by omega) (by omega), Option.bind_some, s4]
theorem hitB_8 {τ : zSt} {c l : Nat} {w x : Int32} : hitB (wr τ 8 c x) c l w ↔ hitB τ c l w := by
  unfold hitB
  rw [wr_o (show ¬ 2 = 8 by omega)]
/-- a request that is served on trial: the reference's row is as it was, but for what is told of it -/
theorem rl_trial {n S R P U D T c l : Nat} {wv : Int32} {σ τ : zSt} (f : mFull n S R P U D T σ τ) (hU : U ≤ 6 * T) (hD : D ≤ 12 * T) (hT : T ≤ 100000) (hc : c < n) (hl : l < 32) (hv : wv = -1 ∨ ∃ x, x < 1000 ∧ wv = nI x) :
    ∃ m σ', fX9_serves (nI c) (nI l) wv σ = some (nI m, σ') ∧ fX4_costOf (nI c) (nI l) (wB wv) τ = some (nI m) ∧ ∀ i, i ≠ 0 → σ' i = σ i := by
  obtain ⟨hI, hM, hR, hL, hTT⟩ := f
  have hI8 : mInv n S R P U D noE noX σ (wr τ 8 c wv) := mInv_rows hI fun j _ z8 _ _ _ _ _ _ _ _ => wr_o z8
  have hL8 : mLog σ (wr τ 8 c wv) := by
    obtain ⟨C, u1, u2, u3, u4⟩ := hL
    exact ⟨C, u1, u2, by rw [wr_o (by omega)]; exact u3, fun k hk => by rw [wr_o (by omega)]; exact u4 k hk⟩
  have hM8 : mMsg σ (wr τ 8 c wv) := by
    unfold mMsg
    rw [wr_o (by omega), wr_o (by omega), wr_o (by omega), wr_o (by omega)]
    exact hM
  have hT8 : mTime T σ (wr τ 8 c wv) := by
    unfold mTime
    rw [wr_o (by omega)]
    exact hTT
  by_cases hh : hitB τ c l (wB wv)
  · obtain ⟨σ1, s1, s2, -⟩ := rl_serve_hit (T := T) hI hL hc hl hv (by omega) hh
    obtain ⟨σ2, t1, t2, t3⟩ := rl_serve_hit (T := T) hI8 hL8 hc hl hv (by omega) (hitB_8.mpr hh)
    obtain ⟨τ', -, -, v3⟩ := t3 hM8 hT8 (wr_e _ _ _ _)
    exact ⟨0, σ2, t1, s2, v3.2.2.1⟩
  · obtain ⟨m, σ1, s1, s2, -⟩ := rl_serve_miss (T := T) hI hL hc hl hv (by omega) (by omega) hh
    obtain ⟨m', σ2, t1, t2, t3⟩ := rl_serve_miss (T := T) hI8 hL8 hc hl hv (by omega) (by omega) (mt hitB_8.mp hh)
    obtain ⟨P', D', τ', -, -, -, v3⟩ := t3 hM8 hT8 (wr_e _ _ _ _)
    have e := Option.some.inj (s1.symm.trans t1)
    have e2 : σ1 = σ2 := congrArg Prod.snd e
    exact ⟨m, σ1, s1, s2, fun i hi => by rw [e2]; exact v3.2.2.1 i hi⟩
theorem rl_cost {n S R P U D T c l : Nat} {w : Int32} {σ τ : zSt} (f : mFull n S R P U D T σ τ) (hU : U ≤ 6 * T) (hD : D ≤ 12 * T) (hT : T ≤ 100000) (hc : c < n) (hl : l < 32) (hw : w = nI 0 ∨ w = nI 1) :
    ∃ x σ', fX9_costOf (nI c) (nI l) w σ = some (x, σ') ∧ fX4_costOf (nI c) (nI l) w τ = some x ∧ (∀ i, i ≠ 0 → i ≠ 1 → σ' i = σ i) ∧ ∀ k, k < 456 → σ' 0 k = σ 0 k := by
  obtain ⟨σ1, k1, k2, k3⟩ := qr_keep σ
  have f1 : mFull n S R P U D T σ1 τ := mFull_g f (fun k _ => by rw [k2 0 (by omega)]) gEq_rfl
  have go : ∀ wv : Int32, (wv = -1 ∨ ∃ x, x < 1000 ∧ wv = nI x) → w = wB wv → ∃ x σ', fX9_costOf_j16 wv (nI l) (nI c) σ1 = some (x, σ') ∧ fX4_costOf (nI c) (nI l) w τ = some x ∧ (∀ i, i ≠ 0 → i ≠ 1 → σ' i = σ i) ∧ ∀ k, k < 456 → σ' 0 k = σ 0 k := by
    intro wv hv e
    obtain ⟨m, σ2, s1, s2, s3⟩ := rl_trial f1 hU hD hT hc hl hv
    obtain ⟨σ3, u1, u2, u3⟩ := qr_bringBack σ2
    refine ⟨nI m, σ3, ?_, by rw [e]; exact s2, fun i i0 i1 => by rw [u2 i i0, s3 i i0, k2 i i1], fun k hk => by rw [u3 k hk, s3 1 (by omega), k3 k hk]⟩
    unfold fX9_costOf_j16
    rw [s1, b2_1, u1, Option.bind_some]
  unfold fX9_costOf
  rw [k1, Option.bind_some]
  rcases hw with rfl | rfl
  · rw [if_pos nI_0]
    exact go (-1) (Or.inl rfl) (by decide)
  · rw [if_neg (show ¬ nI 1 = 0 by decide)]
    exact go (nI 0) (Or.inr ⟨0, by omega, rfl⟩) (by decide)
theorem lz_or (x : Int32) : lz x = nI 0 ∨ lz x = nI 1 := by
  unfold lz
  split
  · exact Or.inl rfl
  · exact Or.inr rfl
theorem wRel_try {σ σ' : zSt} {χ : cSt} (h : wRel σ χ) (e : ∀ i, i ≠ 0 → i ≠ 1 → i ≠ 7 → σ' i = σ i) (e0 : ∀ k, k < 456 → σ' 0 k = σ 0 k) : wRel σ' χ :=
  wRel_mach h (mGood_g h.1 e0 gEq_rfl) (fun i i0 i1 _ i7 _ => e i i0 i1 i7) (fun _ _ _ _ => rfl) rfl
theorem rl_costop : lo_cost wRel := by
  intro σ χ h a0 a1 a2'
  obtain ⟨n, S, R, P, U, D, T, f, hU, hD, hT⟩ := wRel_full h
  obtain ⟨⟨a1', a2, a3, a4, a5, a6, a7⟩, b1, c1, -⟩ := id f.1.1
  unfold fX8_cost fX9_cost
  rw [p_ws, Option.bind_some, b1.2]
  rcases gd_cache a2 a0 b1.1 with ⟨g1, e1⟩ | ⟨g1, c, hc, rfl, e1⟩
  · exact op_fail h (if_pos g1) (by rw [e1, Option.bind_some, if_pos nI_0]; rfl) rfl (by decide)
  rw [if_neg g1, e1, Option.bind_some, if_neg (show ¬ nI 1 = 0 by decide)]
  rcases gd_line a1 (ws σ 7 (nI 0)) with ⟨g2, e2⟩ | ⟨g2, l, hl, rfl, e2⟩
  · exact op_fail h (if_pos g2) (by rw [e2, Option.bind_some, if_pos nI_0]; rfl) rfl (by decide)
  rw [if_neg g2, e2, Option.bind_some, if_neg (show ¬ nI 1 = 0 by decide)]
  obtain ⟨x, σ', t1, t2, t3, t4⟩ := rl_cost f hU hD hT hc hl (lz_or a2')
  refine op_ok (r := x) (σ' := σ') ?_ ?_ ?_ (wRel_try h (fun i i0 i1 i7 => by rw [t3 i i0 i1, ws_o i7]) fun k hk => by rw [t4 k hk, ws_o (by omega)])
  · rw [t2, Option.bind_some]
  · rw [t1]; rfl
  · rw [t3 7 (by omega) (by omega), ws_e]
theorem rl_cheap_l {n S R P U D T l : Nat} {w : Int32} {χ : cSt} (hU : U ≤ 6 * T) (hD : D ≤ 12 * T) (hT : T ≤ 100000) (hl : l < 32) (hw : w = nI 0 ∨ w = nI 1) : ∀ (r c m1 m2 : Nat) (b y : Int32) (σ : zSt), c + r = n → r < m1 → r < m2 → mFull n S R P U D T σ (χ 0) →
    ∃ x σ', fX9_cheapest_l32 (fun x8 σ9 => some (x8, σ9)) m1 (nI l) w b y (nI c) σ = some (x, σ') ∧ fX8_cheapest_l23 (fun x3 σ4 => some (Sum.inr (x3, σ4))) m2 (nI l) w b y (nI c) χ = some (Sum.inr (x, χ)) ∧ (∀ i, i ≠ 0 → i ≠ 1 → σ' i = σ i) ∧ ∀ k, k < 456 → σ' 0 k = σ 0 k := by
  intro r
  induction r with
  | zero =>
    intro c m1 m2 b y σ hc h1 h2 f
    obtain ⟨m1, rfl⟩ : ∃ k, m1 = k + 1 := ⟨m1 - 1, by omega⟩
    obtain ⟨m2, rfl⟩ : ∃ k, m2 = k + 1 := ⟨m2 - 1, by omega⟩
    obtain ⟨⟨a1, a2, -⟩, b1, -⟩ := id f.1.1
    refine ⟨b, σ, ?_, ?_, fun _ _ _ => rfl, fun _ _ => rfl⟩
    · rw [fX9_cheapest_l32, p_ag (by omega) (by omega), Option.bind_some, b1.1, if_pos (nI_le (by omega) (by omega))]
    · rw [fX8_cheapest_l23, b1.2, if_pos (nI_le (by omega) (by omega))]
  | succ r ih =>
    intro c m1 m2 b y σ hc h1 h2 f
    obtain ⟨m1, rfl⟩ : ∃ k, m1 = k + 1 := ⟨m1 - 1, by omega⟩
    obtain ⟨m2, rfl⟩ : ∃ k, m2 = k + 1 := ⟨m2 - 1, by omega⟩
    obtain ⟨⟨a1, a2, -⟩, b1, -⟩ := id f.1.1
    obtain ⟨x, σ1, t1, t2, t3, t4⟩ := rl_cost f hU hD hT (show c < n by omega) hl hw
    have f1 : mFull n S R P U D T σ1 (χ 0) := mFull_g f t4 gEq_rfl
    rw [fX9_cheapest_l32, p_ag (by omega) (by omega), Option.bind_some, b1.1, if_neg (nI_ge (by omega) (by omega)), fX8_cheapest_l23, b1.2, if_neg (nI_ge (by omega) (by omega)), t1, t2, Option.bind_some]
    unfold z_b2 fX9_cheapest_j66
    rw [Option.bind_some]
    by_cases g : y ≤ x
    · obtain ⟨x', σ', g1, g2, g3, g4⟩ := ih (c + 1) m1 m2 b y σ1 (by omega) (by omega) (by omega) f1
      refine ⟨x', σ', ?_, ?_, fun i i0 i1 => by rw [g3 i i0 i1, t3 i i0 i1], fun k hk => by rw [g4 k hk, t4 k hk]⟩
      · show (if y ≤ x then (if y ≤ x then _ else _) else _) = _
        rw [if_pos g, if_pos g, nI_add]
        exact g1
      · rw [if_pos g, nI_add]
        exact g2
    · obtain ⟨x', σ', g1, g2, g3, g4⟩ := ih (c + 1) m1 m2 (nI c) x σ1 (by omega) (by omega) (by omega) f1
      refine ⟨x', σ', ?_, ?_, fun i i0 i1 => by rw [g3 i i0 i1, t3 i i0 i1], fun k hk => by rw [g4 k hk, t4 k hk]⟩
      · show (if y ≤ x then _ else (if y ≤ x then _ else _)) = _
        rw [if_neg g, if_neg g, nI_add]
        exact g1
      · rw [if_neg g, nI_add]
        exact g2
theorem rl_cheapop : lo_cheapest wRel := by
  intro σ χ h a0 a1
  obtain ⟨n, S, R, P, U, D, T, f, hU, hD, hT⟩ := wRel_full h
  obtain ⟨⟨a1', a2, a3, a4, a5, a6, a7⟩, b1, c1, -⟩ := id f.1.1
  unfold fX8_cheapest fX9_cheapest
  rw [p_ws, Option.bind_some]
  rcases gd_line a0 (ws σ 7 (nI 0)) with ⟨g2, e2⟩ | ⟨g2, l, hl, rfl, e2⟩
  · exact op_fail h (if_pos g2) (by rw [e2, Option.bind_some, if_pos nI_0]; rfl) rfl (by decide)
  rw [if_neg g2, e2, Option.bind_some, if_neg (show ¬ nI 1 = 0 by decide)]
  obtain ⟨x, σ1, t1, t2, t3, t4⟩ := rl_cost f hU hD hT (show 0 < n by omega) hl (lz_or a1)
  have f1 : mFull n S R P U D T σ1 (χ 0) := mFull_g f t4 gEq_rfl
  obtain ⟨x', σ', g1, g2', g3, g4⟩ := rl_cheap_l hU hD hT hl (lz_or a1) (n - 1) 1 z_fu z_fu (nI 0) x σ1 (by omega) (Nat.lt_of_le_of_lt (show n - 1 ≤ 6 by omega) (by decide)) (Nat.lt_of_le_of_lt (show n - 1 ≤ 6 by omega) (by decide)) f1
  refine op_ok (r := x') (σ' := σ') (χ' := χ) ?_ ?_ ?_ (wRel_try h (fun i i0 i1 i7 => by rw [g3 i i0 i1, t3 i i0 i1, ws_o i7]) fun k hk => by rw [g4 k hk, t4 k hk, ws_o (by omega)])
  · rw [t2, Option.bind_some]
    exact g2'
  · rw [t1]
    exact g1
  · rw [g3 7 (by omega) (by omega), t3 7 (by omega) (by omega), ws_e]
theorem rl_copyop : lo_copy wRel := by
  intro σ χ h a0 a1 a2'
  obtain ⟨n, S, R, P, U, D, T, f, hU, hD, hT⟩ := wRel_full h
  obtain ⟨⟨a1', a2, a3, a4, a5, a6, a7⟩, b1, c1, -⟩ := id f.1.1
  unfold fX8_copy fX9_copy
  rw [p_ws, Option.bind_some, b1.2]
  rcases gd_cache a2 a0 b1.1 with ⟨g1, e1⟩ | ⟨g1, c, hc, rfl, e1⟩
  · exact op_fail h (if_pos g1) (by rw [e1, Option.bind_some, if_pos nI_0]; rfl) rfl (by decide)
  rw [if_neg g1, e1, Option.bind_some, if_neg (show ¬ nI 1 = 0 by decide)]
  rcases gd_line a1 (ws σ 7 (nI 0)) with ⟨g2, e2⟩ | ⟨g2, l, hl, rfl, e2⟩
  · exact op_fail h (if_pos g2) (by rw [e2, Option.bind_some, if_pos nI_0]; rfl) rfl (by decide)
  rw [if_neg g2, e2, Option.bind_some, if_neg (show ¬ nI 1 = 0 by decide)]
  rcases gd_in (lo := 0) (hi := 3) (by omega) (by omega) a2' (ws σ 7 (nI 0)) with ⟨g3, e3⟩ | ⟨g3, k, k1, k2, rfl, e3⟩
  · exact op_fail h (if_pos g3) (by rw [e3, Option.bind_some, if_pos nI_0]; rfl) rfl (by decide)
  obtain ⟨x, x1, x2⟩ := rl_fact f.1 hc hl (show k < 4 by omega)
  rw [if_neg g3, e3, Option.bind_some, if_neg (show ¬ nI 1 = 0 by decide), x1, x2]
  exact op_ok rfl rfl (ws_e _ _ _ _) (wRel_7 h)
theorem rl_lineop : lo_line wRel := by
  intro σ χ h a0 a1
  obtain ⟨n, S, R, P, U, D, T, f, hU, hD, hT⟩ := wRel_full h
  unfold fX8_line fX9_line
  rw [p_ws, Option.bind_some]
  rcases gd_line a0 (ws σ 7 (nI 0)) with ⟨g2, e2⟩ | ⟨g2, l, hl, rfl, e2⟩
  · exact op_fail h (if_pos g2) (by rw [e2, Option.bind_some, if_pos nI_0]; rfl) rfl (by decide)
  rw [if_neg g2, e2, Option.bind_some, if_neg (show ¬ nI 1 = 0 by decide)]
  rcases gd_in (lo := 0) (hi := 7) (by omega) (by omega) a1 (ws σ 7 (nI 0)) with ⟨g3, e3⟩ | ⟨g3, k, k1, k2, rfl, e3⟩
  · exact op_fail h (if_pos g3) (by rw [e3, Option.bind_some, if_pos nI_0]; rfl) rfl (by decide)
  obtain ⟨x, x1, x2⟩ := rl_lineFact f.1 hl (show k < 8 by omega)
  rw [if_neg g3, e3, Option.bind_some, if_neg (show ¬ nI 1 = 0 by decide), x1, x2]
  exact op_ok rfl rfl (ws_e _ _ _ _) (wRel_7 h)
theorem rl_pendop : lo_pending wRel := by
  intro σ χ h a0 a1
  obtain ⟨n, S, R, P, U, D, T, f, hU, hD, hT⟩ := wRel_full h
  obtain ⟨⟨a1', a2, a3, a4, a5, a6, a7⟩, b1, c1, -⟩ := id f.1.1
  unfold fX8_pending fX9_pending
  rw [p_ws, Option.bind_some, b1.2]
  rcases gd_cache a2 a0 b1.1 with ⟨g1, e1⟩ | ⟨g1, c, hc, rfl, e1⟩
  · exact op_fail h (if_pos g1) (by rw [e1, Option.bind_some, if_pos nI_0]; rfl) rfl (by decide)
  rw [if_neg g1, e1, Option.bind_some, if_neg (show ¬ nI 1 = 0 by decide)]
  rcases gd_in (lo := 0) (hi := 2) (by omega) (by omega) a1 (ws σ 7 (nI 0)) with ⟨g3, e3⟩ | ⟨g3, k, k1, k2, rfl, e3⟩
  · exact op_fail h (if_pos g3) (by rw [e3, Option.bind_some, if_pos nI_0]; rfl) rfl (by decide)
  obtain ⟨x, x1, x2⟩ := rl_pfact f.2.2.1 (show c < 6 by omega) (show k < 3 by omega)
  rw [if_neg g3, e3, Option.bind_some, if_neg (show ¬ nI 1 = 0 by decide), x1, x2]
  exact op_ok rfl rfl (ws_e _ _ _ _) (wRel_7 h)
theorem rl_entryop : lo_entry wRel := by
  intro σ χ h a0 a1
  obtain ⟨n, S, R, P, U, D, T, f, hU, hD, hT⟩ := wRel_full h
  obtain ⟨C, l1, l2, l3, l4⟩ := f.2.2.2.1
  unfold fX8_entry fX9_entry
  rw [p_ws, Option.bind_some, l3, p_ag (by omega) (by omega), Option.bind_some, l2]
  rcases gd_idx (N := C) (by omega) a0 (ws σ 7 (nI 0)) with ⟨g1, e1⟩ | ⟨g1, c, hc, rfl, e1⟩
  · exact op_fail h (if_pos g1) (by rw [e1, Option.bind_some, if_pos nI_0]; rfl) rfl (by decide)
  rw [if_neg g1, e1, Option.bind_some, if_neg (show ¬ nI 1 = 0 by decide)]
  rcases gd_in (lo := 0) (hi := 5) (by omega) (by omega) a1 (ws σ 7 (nI 0)) with ⟨g3, e3⟩ | ⟨g3, k, k1, k2, rfl, e3⟩
  · exact op_fail h (if_pos g3) (by rw [e3, Option.bind_some, if_pos nI_0]; rfl) rfl (by decide)
  unfold fX3_fact
  rw [if_neg g3, e3, Option.bind_some, if_neg (show ¬ nI 1 = 0 by decide), p_mul, nI_add, p_ag (by omega) (by omega), Option.bind_some, Option.bind_some, p_mul, nI_add, nI_add, p_ag (by omega) (by omega), Option.bind_some, Nat.add_assoc 384, l4 (6 * c + k) (by omega), Nat.mul_comm 6 c]
  exact op_ok rfl rfl (ws_e _ _ _ _) (wRel_7 h)
theorem rl_valueop : lo_value wRel := by
  intro σ χ h a0
  obtain ⟨n, S, R, P, U, D, T, f, hU, hD, hT⟩ := wRel_full h
  unfold fX8_value fX9_value
  rw [p_ws, Option.bind_some]
  rcases gd_in (lo := 0) (hi := 13) (by omega) (by omega) a0 (ws σ 7 (nI 0)) with ⟨g3, e3⟩ | ⟨g3, k, k1, k2, rfl, e3⟩
  · exact op_fail h (if_pos g3) (by rw [e3, Option.bind_some, if_pos nI_0]; rfl) rfl (by decide)
  obtain ⟨x, x1, x2⟩ := rl_number f (show k < 14 by omega)
  rw [if_neg g3, e3, Option.bind_some, if_neg (show ¬ nI 1 = 0 by decide), x1, x2]
  exact op_ok rfl rfl (ws_e _ _ _ _) (wRel_7 h)
theorem rl_hitop : lo_hitRate wRel := by
  intro σ χ h
  obtain ⟨n, S, R, P, U, D, T, f, -⟩ := h.1
  exact ⟨f.2.1.2.1, f.2.1.2.2.1, wRel_7 h⟩
theorem nar_ok : ∀ b, b < 128 → vp_nar .byte (nI b).toInt8.toInt32 = nI b := by decide +kernel
theorem rl_append : lo_append wRel := by
  intro σ χ h a0
  obtain ⟨hg, hh, L, x1, x2, x3, x4⟩ := id h
  unfold fX8_append fX9_append
  rw [p_ws, Option.bind_some, x3, ws_o (show ¬ 6 = 7 by omega), x2]
  rcases gd_in (lo := 0) (hi := 127) (by omega) (by omega) a0 (ws σ 7 (nI 0)) with ⟨g3, e3⟩ | ⟨g3, b, b1, b2, rfl, e3⟩
  · exact op_fail h (if_pos g3) (by rw [e3, Option.bind_some, if_pos nI_0]; rfl) rfl (by decide)
  rw [if_neg g3, e3, Option.bind_some, if_neg (show ¬ nI 1 = 0 by decide)]
  by_cases hL : L = 100
  · rw [hL, if_pos (Int32.le_refl _), if_pos nI_0, if_pos rfl]
    exact op_fail h rfl rfl rfl (by decide)
  · have hsb : c_sb χ (nI L) (nI b).toInt8.toInt32 = some (c_up χ 6 (z_up (χ 6) 11 (upd (χ 6 11) L (nI b)))) := by
      unfold c_sb
      rw [if_neg (by rw [nI_clamp (by omega)]; rintro (q | q); exact nI_pos (by omega) q; omega), nI_clamp (by omega), nar_ok b (by omega)]
    have q7 : c_up χ 6 (z_up (χ 6) 11 (upd (χ 6 11) L (nI b))) 7 = χ 7 := c_un (by omega)
    rw [if_neg (nI_ge (show L < 100 by omega) (by omega)), if_neg (show ¬ nI 1 = 0 by decide), hsb, Option.bind_some, if_neg (fun z => hL ((nI_eq (by omega) (by omega)).mp z)), p_wr (by omega) (by omega), Option.bind_some, wr_o (show ¬ 6 = 3 by omega), ws_o (show ¬ 6 = 7 by omega), x2, nI_add, p_ws, Option.bind_some, ws_e, q7, x3, nI_add]
    have e8 : ∀ χ1 : cSt, (c_sf χ1 7 0 (nI (L + 1))).bind (fun σ4 => some (Sum.inr (σ4 7 0 0, σ4) : cRes)) = some (Sum.inr (nI (L + 1), c_up χ1 7 (z_up (χ1 7) 0 (fun _ => nI (L + 1))))) := fun χ1 => by
      unfold c_sf
      rw [Option.bind_some, c_ue, p_ze]
    refine op_ok (e8 _) rfl ?_ ⟨?_, ?_, L + 1, by omega, ws_e _ _ _ _, ?_, fun k hk => ?_⟩
    · rw [ws_o (by omega), wr_o (by omega), ws_e]
    · rw [c_un (by omega), c_un (by omega)]
      exact mGood_g hg (fun k _ => by rw [ws_o (by omega), wr_o (by omega), ws_o (by omega)]) gEq_rfl
    · refine hRel_same hh ?_ ?_ ?_ fun i hi => ?_
      · rw [ws_o (by omega), wr_o (by omega), ws_o (by omega)]
      · rw [ws_o (by omega), wr_o (by omega), ws_o (by omega)]
      · rw [c_ue, p_zn (by omega), q7]
      · rw [c_un (by omega), c_un (by omega)]
    · rw [c_ue, p_ze]
    · rw [ws_o (by omega), c_un (by omega), c_ue, p_ze]
      by_cases e : k = L
      · rw [e, wr_e, p_upe]
        exact ⟨b, by omega, rfl, rfl⟩
      · rw [wr_n e, ws_o (by omega), p_upn e]
        exact x4 k (by omega)
theorem rl_clear : lo_clearText wRel := by
  intro σ χ h
  obtain ⟨hg, hh, L, x1, x2, x3, x4⟩ := id h
  refine ⟨nI L, c_up χ 7 (z_up (χ 7) 0 (fun _ => nI 0)), ws (ws σ 7 (nI 0)) 6 (nI 0), ?_, ?_, ?_, ?_, 0, by omega, ws_e _ _ _ _, ?_, fun k hk => absurd hk (Nat.not_lt_zero k)⟩
  · unfold fX8_clearText c_sf
    rw [Option.bind_some, x3]
  · unfold fX9_clearText
    rw [p_ws, Option.bind_some, p_ws, Option.bind_some, ws_o (by omega), x2]
  · rw [c_un (by omega)]
    exact mGood_g hg (fun k _ => by rw [ws_o (by omega), ws_o (by omega)]) gEq_rfl
  · refine hRel_same hh ?_ ?_ ?_ fun i hi => ?_
    · rw [ws_o (by omega), ws_o (by omega)]
    · rw [ws_o (by omega), ws_o (by omega)]
    · rw [c_ue, p_zn (by omega)]
    · rw [c_un (by omega)]
  · rw [c_ue, p_ze]
