/-! begin, undo, read, write, takeBack -/
def mRest (n T : Nat) (σ τ : zSt) : Prop := mMsg σ τ ∧ mReq n σ τ ∧ mLog σ τ ∧ mTime T σ τ
theorem mRest_same {n T : Nat} {σ τ σ' τ' : zSt} (h : mRest n T σ τ) (e : ∀ k, k = 4 ∨ k = 5 ∨ k = 6 ∨ k = 7 ∨ k = 8 ∨ k = 12 ∨ (366 ≤ k ∧ k < 456) → σ' 0 k = σ 0 k) (e' : ∀ i, i = 7 ∨ i = 8 ∨ i = 9 ∨ i = 10 ∨ i = 18 ∨ i = 21 ∨ i = 22 ∨ i = 23 ∨ i = 24 ∨ i = 25 → τ' i = τ i) : mRest n T σ' τ' := by
  obtain ⟨hM, hR, ⟨C, l1, l2, l3, l4⟩, hT⟩ := h
  refine ⟨⟨?_, ?_, ?_, ?_⟩, fun c hc => ?_, ⟨C, l1, ?_, ?_, fun k hk => ?_⟩, ?_, ?_, hT.2.2⟩
  · rw [e 5 (by omega), e' 22 (by omega)]; exact hM.1
  · rw [e 6 (by omega), e' 23 (by omega)]; exact hM.2.1
  · rw [e 7 (by omega), e' 24 (by omega)]; exact hM.2.2.1
  · rw [e 8 (by omega), e' 25 (by omega)]; exact hM.2.2.2
  · rw [e (366 + 3 * c) (by omega), e (366 + 3 * c + 1) (by omega), e (366 + 3 * c + 2) (by omega), e' 7 (by omega), e' 8 (by omega), e' 9 (by omega)]
    exact hR c hc
  · rw [e 12 (by omega)]; exact l2
  · rw [e' 18 (by omega)]; exact l3
  · rw [e (384 + k) (by omega), e' 10 (by omega)]; exact l4 k hk
  · rw [e 4 (by omega)]; exact hT.1
  · rw [e' 21 (by omega)]; exact hT.2.1
theorem rl_save2 {n S R P U D T : Nat} {σ : zSt} {χ : cSt} (h : wRel σ χ) (f : mFull n S R P U D T σ (χ 0)) : ∃ σ' χ', fX9_save σ = some σ' ∧ fX2_save χ = some χ' ∧ wRel σ' χ' ∧ mFull n S R P U D T σ' (χ' 0) ∧ (∀ i, i ≠ 2 → i ≠ 5 → σ' i = σ i) ∧ χ' 0 = χ 0 ∧ χ' 6 = χ 6 ∧ χ' 7 0 = χ 7 0 := by
  obtain ⟨σ', χ', s1, s2, s3, s4, s5, s6⟩ := rl_save h
  refine ⟨σ', χ', s1, s2, s3, ?_, s4, s5 0 (by omega), s5 6 (by omega), s6⟩
  rw [s5 0 (by omega)]
  exact mFull_g f (fun k _ => by rw [s4 0 (by omega) (by omega)]) gEq_rfl
theorem wRel_0 {σ σ' τ' : zSt} {χ : cSt} (h : wRel σ χ) (hg : mGood σ' τ') (e : ∀ i, i ≠ 0 → σ' i = σ i) : wRel σ' (c_up χ 0 τ') :=
  wRel_mach h (by rw [c_ue]; exact hg) (fun i h0 _ _ _ _ => e i h0) (fun i h0 _ _ => c_un h0) (by rw [c_un (by omega)])
theorem wRel_full {σ : zSt} {χ : cSt} (h : wRel σ χ) : ∃ n S R P U D T, mFull n S R P U D T (ws σ 7 (nI 0)) (χ 0) ∧ U ≤ 6 * T ∧ D ≤ 12 * T ∧ T ≤ 100000 := (wRel_7 (x := nI 0) h).1
theorem rl_begin : lo_begin wRel := by
  intro σ χ h a0 a1 a2
  have h1 := wRel_7 (x := nI 0) h
  unfold fX8_begin fX9_begin
  rw [p_ws, Option.bind_some]
  rcases gd_in (lo := 2) (hi := 6) (by omega) (by omega) a0 (ws σ 7 (nI 0)) with ⟨c1, e1⟩ | ⟨c1, n, n1, n2, rfl, e1⟩
  · exact op_fail h (if_pos c1) (by rw [e1, Option.bind_some, if_pos nI_0]; rfl) rfl (by decide)
  rw [if_neg c1, e1, Option.bind_some, if_neg (show ¬ nI 1 = 0 by decide)]
  rcases gd_in (lo := 1) (hi := 8) (by omega) (by omega) a1 (ws σ 7 (nI 0)) with ⟨c2, e2⟩ | ⟨c2, S, S1, S2, rfl, e2⟩
  · exact op_fail h (if_pos c2) (by rw [e2, Option.bind_some, if_pos nI_0]; rfl) rfl (by decide)
  rw [if_neg c2, e2, Option.bind_some, if_neg (show ¬ nI 1 = 0 by decide)]
  rcases gd_in (lo := 1) (hi := 16) (by omega) (by omega) a2 (ws σ 7 (nI 0)) with ⟨c3, e3⟩ | ⟨c3, R, R1, R2, rfl, e3⟩
  · exact op_fail h (if_pos c3) (by rw [e3, Option.bind_some, if_pos nI_0]; rfl) rfl (by decide)
  rw [if_neg c3, e3, Option.bind_some, if_neg (show ¬ nI 1 = 0 by decide)]
  obtain ⟨σ', χ', s1, s2, s3, s4, s5, s6⟩ := rl_save h1
  obtain ⟨τ', t1, -⟩ := qx_startAnew (nI n) (nI S) (nI R) (χ' 0)
  obtain ⟨σ'', u1, u2, -⟩ := qr_anew σ' (nI n) (nI S) (nI R)
  have hT : σ' 0 4 = χ' 0 21 0 := by
    obtain ⟨_, _, _, _, _, _, T, f, -⟩ := s3.1
    rw [f.2.2.2.2.1, f.2.2.2.2.2.1]
  refine op_ok (r := χ' 0 21 0) (χ' := c_up χ' 0 τ') (σ' := σ'') ?_ ?_ ?_ ?_
  · rw [s2, Option.bind_some, t1, cb1]
  · rw [s1, Option.bind_some, p_ag (by omega) (by omega), Option.bind_some, u1, Option.bind_some, hT]
  · rw [u2 7 (by omega), s4 7 (by omega) (by omega), ws_e]
  · exact wRel_0 s3 ⟨n, S, R, 0, 0, 0, 0, rl_fresh ⟨n1, n2⟩ ⟨S1, S2⟩ ⟨R1, R2⟩ u1 t1, by omega, by omega, by omega⟩ u2
theorem rl_undo : lo_undo wRel := by
  intro σ χ hw
  obtain ⟨hg, ⟨h, h1, h2, h3, h4⟩, hx⟩ := id hw
  unfold fX8_undo fX9_undo
  rw [p_ws, Option.bind_some, ws_o (by omega), h2, h3]
  by_cases c : h = 0
  · rw [c, if_pos (show nI 0 ≤ 0 by decide), if_pos nI_0, if_pos nI_0]
    exact op_fail hw rfl rfl rfl (by decide)
  · rw [if_neg (nI_nle (by omega) (by omega)), if_neg (show ¬ nI 1 = 0 by decide), if_neg (nI_ne0 (by omega) (by omega)), p_sub (by omega), p_ws, Option.bind_some]
    have h5 : h - 1 < 4 := by omega
    obtain ⟨g1, g2, -⟩ := cpN_spec (i := 2) (a := 456 * (h - 1)) (j := 0) (b := 0) (Or.inl (by decide)) 456 0 (ws (ws σ 7 (nI 0)) 5 (nI (h - 1)))
    have e9 := qr_undo_l (K := fun σ5 => some (σ5 5 0, σ5)) h5 456 0 z_fu (ws (ws σ 7 (nI 0)) 5 (nI (h - 1))) rfl (by decide) (ws_e _ _ _ _)
    rw [e9, g1 5 (by omega), ws_e]
    have hm := h4 (h - 1) (by omega)
    obtain ⟨τ', t1, t2⟩ := qx_takeOver (χ (2 + (h - 1))) (χ 0)
    have e8 : fX2_restore χ = some (c_up (c_up χ 7 (z_up (χ 7) 1 (fun _ => nI (h - 1)))) 0 τ') := by
      unfold fX2_restore c_sf
      rw [h3, p_sub (by omega), Option.bind_some]
      have er : ∀ χ1 : cSt, χ1 7 1 0 = nI (h - 1) → c_re χ1 = c_re1 χ1 (2 + (h - 1)) := fun χ1 e => by
        unfold c_re
        rw [e]
        generalize h - 1 = j at h5
        rcases (show j = 0 ∨ j = 1 ∨ j = 2 ∨ j = 3 by omega) with rfl | rfl | rfl | rfl <;> rfl
      rw [er _ (by rw [c_ue, p_ze])]
      unfold c_re1 c_b1
      rw [c_un (show ¬ 2 + (h - 1) = 7 by omega), c_un (show ¬ 0 = 7 by omega), t1, Option.bind_some]
    rw [e8, Option.bind_some]
    have q7 : c_up (c_up χ 7 (z_up (χ 7) 1 (fun _ => nI (h - 1)))) 0 τ' 7 = z_up (χ 7) 1 (fun _ => nI (h - 1)) := by rw [c_un (by omega), c_ue]
    have ql : ∀ i, i ≠ 0 → i ≠ 7 → c_up (c_up χ 7 (z_up (χ 7) 1 (fun _ => nI (h - 1)))) 0 τ' i = χ i := fun i i0 i7 => by rw [c_un i0, c_un i7]
    rw [q7, p_ze]
    refine op_ok rfl rfl ?_ ⟨?_, ⟨h - 1, by omega, ?_, ?_, fun i hi => ?_⟩, ?_⟩
    · rw [g1 7 (by omega), ws_o (by omega), ws_e]
    · rw [c_ue]
      refine mGood_g hm (fun k hk => ?_) t2
      have := g2 k (by omega) (by omega)
      rw [Nat.zero_add] at this
      rw [this, ws_o (by omega), ws_o (by omega)]
      rfl
    · rw [g1 5 (by omega), ws_e]
    · rw [q7, p_ze]
    · rw [ql _ (by omega) (by omega)]
      refine mGood_g (h4 i (by omega)) (fun k hk => ?_) gEq_rfl
      unfold sv
      rw [g1 2 (by omega), ws_o (by omega), ws_o (by omega)]
    · refine xRel_same hx ?_ ?_ ?_ ?_
      · rw [g1 3 (by omega), ws_o (by omega), ws_o (by omega)]
      · rw [g1 6 (by omega), ws_o (by omega), ws_o (by omega)]
      · rw [q7, p_zn (by omega)]
      · rw [ql 6 (by omega) (by omega)]
theorem rl_pend {n c : Nat} {σ τ : zSt} (hR : mReq n σ τ) (hc : c < 6) : (τ 7 c = -1 ∧ σ 0 (366 + 3 * c) = -1 ∧ fX7_isPending (nI c) τ = some (nI 0) ∧ fX9_isAsking (nI c) σ = some (nI 0)) ∨ ((c < n ∧ ∃ l, l < 32 ∧ τ 7 c = nI l ∧ σ 0 (366 + 3 * c) = nI l ∧ σ 0 (366 + 3 * c + 1) = τ 8 c ∧ σ 0 (366 + 3 * c + 2) = τ 9 c) ∧ fX7_isPending (nI c) τ = some (nI 1) ∧ fX9_isAsking (nI c) σ = some (nI 1)) := by
  rw [qx_isPending hc, qr_isAsking hc]
  rcases hR c hc with ⟨r1, r2⟩ | ⟨r0, l, hl, r1, r2, r3, r4, -⟩
  · rw [r1, r2, if_pos rfl, if_pos p_neg]
    exact Or.inl ⟨rfl, rfl, rfl, rfl⟩
  · rw [r2, r1, if_neg (p_nneg (by omega)), if_neg (nI_pos (by omega))]
    exact Or.inr ⟨⟨r0, l, hl, rfl, rfl, r3, r4⟩, rfl, rfl⟩
theorem rl_ask {n S R P U D T c l : Nat} {wv : Int32} {σ τ : zSt} (h : mFull n S R P U D T σ τ) (hc : c < n) (hl : l < 32) (hv : wv = -1 ∨ ∃ x, x < 1000 ∧ wv = nI x) :
    ∃ b σ' τ', (b = nI 0 ∨ b = nI 1) ∧ fX9_asks (nI c) (nI l) wv σ = some (b, σ') ∧ fX7_ask (nI c) (nI l) wv τ = some τ' ∧ fX4_isHit (nI c) (nI l) (wB wv) τ' = some b ∧ mFull n S R P U D T σ' τ' ∧ ∀ i, i ≠ 0 → σ' i = σ i := by
  obtain ⟨hI, hM, hR, hL, hT⟩ := h
  obtain ⟨⟨a1, a2, a3, a4, a5, a6, a7⟩, b1, c1, -⟩ := id hI.1
  let σ' : zSt := w0 (w0 (w0 σ (366 + 3 * c) (nI l)) (366 + 3 * c + 1) wv) (366 + 3 * c + 2) (nI 0)
  let τ' : zSt := wr (wr (wr τ 7 c (nI l)) 8 c wv) 9 c (nI 0)
  have x1 : ∀ k, k ≠ 366 + 3 * c → k ≠ 366 + 3 * c + 1 → k ≠ 366 + 3 * c + 2 → σ' 0 k = σ 0 k := fun k z1 z2 z3 => by
    show w0 (w0 (w0 σ (366 + 3 * c) (nI l)) (366 + 3 * c + 1) wv) (366 + 3 * c + 2) (nI 0) 0 k = _
    rw [w0_n z3, w0_n z2, w0_n z1]
  have x2 : ∀ j, j ≠ 7 → j ≠ 8 → j ≠ 9 → τ' j = τ j := fun j z1 z2 z3 => by
    show wr (wr (wr τ 7 c (nI l)) 8 c wv) 9 c (nI 0) j = _
    rw [wr_o z3, wr_o z2, wr_o z1]
  have hI' : mInv n S R P U D noE noX σ' τ' := mInv_rows (mInv_ref hI fun k z1 _ _ _ _ _ _ => x1 k (by omega) (by omega) (by omega)) fun j z7 z8 z9 _ _ _ _ _ _ _ => x2 j z7 z8 z9
  have hF : mFull n S R P U D T σ' τ' := by
    refine ⟨hI', ⟨?_, ?_, ?_, ?_⟩, fun e he => ?_, ?_, ?_, ?_, hT.2.2⟩
    · rw [x1 5 (by omega) (by omega) (by omega), x2 22 (by omega) (by omega) (by omega)]; exact hM.1
    · rw [x1 6 (by omega) (by omega) (by omega), x2 23 (by omega) (by omega) (by omega)]; exact hM.2.1
    · rw [x1 7 (by omega) (by omega) (by omega), x2 24 (by omega) (by omega) (by omega)]; exact hM.2.2.1
    · rw [x1 8 (by omega) (by omega) (by omega), x2 25 (by omega) (by omega) (by omega)]; exact hM.2.2.2
    · by_cases ec : e = c
      · rw [ec]
        refine Or.inr ⟨hc, l, hl, ?_, ?_, ?_, ?_, ?_⟩
        · show wr (wr (wr τ 7 c (nI l)) 8 c wv) 9 c (nI 0) 7 c = _
          rw [wr_o (by omega), wr_o (by omega), wr_e]
        · show w0 (w0 (w0 σ (366 + 3 * c) (nI l)) (366 + 3 * c + 1) wv) (366 + 3 * c + 2) (nI 0) 0 _ = _
          rw [w0_n (by omega), w0_n (by omega), w0_e]
        · show w0 (w0 (w0 σ (366 + 3 * c) (nI l)) (366 + 3 * c + 1) wv) (366 + 3 * c + 2) (nI 0) 0 _ = wr (wr (wr τ 7 c (nI l)) 8 c wv) 9 c (nI 0) 8 c
          rw [w0_n (by omega), w0_e, wr_o (by omega), wr_e]
        · show w0 (w0 (w0 σ (366 + 3 * c) (nI l)) (366 + 3 * c + 1) wv) (366 + 3 * c + 2) (nI 0) 0 _ = wr (wr (wr τ 7 c (nI l)) 8 c wv) 9 c (nI 0) 9 c
          rw [w0_e, wr_e]
        · show wr (wr (wr τ 7 c (nI l)) 8 c wv) 9 c (nI 0) 8 c = -1 ∨ ∃ x, x < 1000 ∧ wr (wr (wr τ 7 c (nI l)) 8 c wv) 9 c (nI 0) 8 c = nI x
          rw [wr_o (by omega), wr_e]
          exact hv
      · have z7 : τ' 7 e = τ 7 e := by
          show wr (wr (wr τ 7 c (nI l)) 8 c wv) 9 c (nI 0) 7 e = _
          rw [wr_o (by omega), wr_o (by omega), wr_n ec]
        have z8 : τ' 8 e = τ 8 e := by
          show wr (wr (wr τ 7 c (nI l)) 8 c wv) 9 c (nI 0) 8 e = _
          rw [wr_o (by omega), wr_n ec, wr_o (by omega)]
        have z9 : τ' 9 e = τ 9 e := by
          show wr (wr (wr τ 7 c (nI l)) 8 c wv) 9 c (nI 0) 9 e = _
          rw [wr_n ec, wr_o (by omega), wr_o (by omega)]
        rw [x1 (366 + 3 * e) (by omega) (by omega) (by omega), x1 (366 + 3 * e + 1) (by omega) (by omega) (by omega), x1 (366 + 3 * e + 2) (by omega) (by omega) (by omega), z7, z8, z9]
        exact hR e he
    · obtain ⟨C, u1, u2, u3, u4⟩ := hL
      exact ⟨C, u1, by rw [x1 12 (by omega) (by omega) (by omega)]; exact u2, by rw [x2 18 (by omega) (by omega) (by omega)]; exact u3, fun k hk => by rw [x1 _ (by omega) (by omega) (by omega), x2 10 (by omega) (by omega) (by omega)]; exact u4 k hk⟩
    · rw [x1 4 (by omega) (by omega) (by omega)]; exact hT.1
    · rw [x2 21 (by omega) (by omega) (by omega)]; exact hT.2.1
  have hb : ∃ b, (b = nI 0 ∨ b = nI 1) ∧ fX9_isHit (nI c) (nI l) (wB wv) σ' = some b ∧ fX4_isHit (nI c) (nI l) (wB wv) τ' = some b := by
    by_cases hh : hitB τ' c l (wB wv)
    · exact ⟨nI 1, Or.inr rfl, (qr_isHit hI' hc hl).1 hh, (qx_isHit (by omega) hl).1 hh⟩
    · exact ⟨nI 0, Or.inl rfl, (qr_isHit hI' hc hl).2 hh, (qx_isHit (by omega) hl).2 hh⟩
  obtain ⟨b, hb0, hb1, hb2⟩ := hb
  refine ⟨b, σ', τ', hb0, ?_, ?_, hb2, hF, fun i hi => ?_⟩
  · have j55 : fX9_asks_j55 (wB wv) (nI l) (nI c) σ' = some (b, σ') := by
      unfold fX9_asks_j55
      rw [hb1, Option.bind_some]
      rcases hb0 with rfl | rfl
      · rw [if_pos nI_0]
      · rw [if_neg (by decide)]
    unfold fX9_asks
    rw [p_mul, nI_add, p_w0 (by omega), Option.bind_some, nI_add, p_w0 (by omega), Option.bind_some, nI_add, p_w0 (by omega), Option.bind_some]
    show (if wv < 0 then fX9_asks_j55 (nI 0) (nI l) (nI c) σ' else fX9_asks_j55 (nI 1) (nI l) (nI c) σ') = _
    by_cases hw : wv < 0
    · rw [if_pos hw, show nI 0 = wB wv by unfold wB; rw [if_pos ((wv_neg hv).mp hw)]]
      exact j55
    · rw [if_neg hw, show nI 1 = wB wv by unfold wB; rw [if_neg (fun z => hw ((wv_neg hv).mpr z))]]
      exact j55
  · unfold fX7_ask
    rw [p_wr (by omega) (by omega), Option.bind_some, p_wr (by omega) (by omega), Option.bind_some, p_wr (by omega) (by omega), Option.bind_some]
  · show w0 (w0 (w0 σ (366 + 3 * c) (nI l)) (366 + 3 * c + 1) wv) (366 + 3 * c + 2) (nI 0) i = _
    rw [w0_o hi, w0_o hi, w0_o hi]
theorem rl_read : lo_read wRel := by
  intro σ χ h a0 a1
  have h1 := wRel_7 (x := nI 0) h
  obtain ⟨n, S, R, P, U, D, T, f, bd⟩ := wRel_full h
  obtain ⟨⟨a1', a2, a3, a4, a5, a6, a7⟩, b1, c1, -⟩ := id f.1.1
  unfold fX8_read fX9_read
  rw [p_ws, Option.bind_some, b1.2]
  rcases gd_cache a2 a0 b1.1 with ⟨g1, e1⟩ | ⟨g1, c, hc, rfl, e1⟩
  · exact op_fail h (if_pos g1) (by rw [e1, Option.bind_some, if_pos nI_0]; rfl) rfl (by decide)
  rw [if_neg g1, e1, Option.bind_some, if_neg (show ¬ nI 1 = 0 by decide)]
  rcases gd_line a1 (ws σ 7 (nI 0)) with ⟨g2, e2⟩ | ⟨g2, l, hl, rfl, e2⟩
  · exact op_fail h (if_pos g2) (by rw [e2, Option.bind_some, if_pos nI_0]; rfl) rfl (by decide)
  rw [if_neg g2, e2, Option.bind_some, if_neg (show ¬ nI 1 = 0 by decide)]
  rcases rl_pend f.2.2.1 (show c < 6 by omega) with ⟨-, -, e3, e4⟩ | ⟨-, e3, e4⟩
  · obtain ⟨σ', χ', s1, s2, s3, s4, s5, s6, s7, s8⟩ := rl_save2 h1 f
    obtain ⟨b, σ'', τ', t0, t1, t2, t3, t4, t5⟩ := rl_ask (wv := -1) s4 hc hl (Or.inl rfl)
    refine op_ok (r := b) (χ' := c_up χ' 0 τ') (σ' := σ'') ?_ ?_ ?_ ?_
    · rw [e3, Option.bind_some, if_pos nI_0, s2, Option.bind_some]
      rw [t2, cb1, c_ue, show nI 0 = wB (-1) by decide, t3, Option.bind_some]
      rcases t0 with rfl | rfl
      · rw [if_pos nI_0]; rfl
      · rw [if_neg (by decide)]
    · rw [e4, Option.bind_some, if_pos nI_0, s1, Option.bind_some, t1]
      rfl
    · rw [t5 7 (by omega), s5 7 (by omega) (by omega), ws_e]
    · exact wRel_0 s3 ⟨n, S, R, P, U, D, T, t4, bd⟩ t5
  · exact op_fail h (by rw [e3, Option.bind_some, if_neg (show ¬ nI 1 = 0 by decide), if_pos nI_0]) (by rw [e4, Option.bind_some, if_neg (show ¬ nI 1 = 0 by decide)]; rfl) rfl (by decide)
theorem rl_write : lo_write wRel := by
  intro σ χ h a0 a1 a2'
  have h1 := wRel_7 (x := nI 0) h
  obtain ⟨n, S, R, P, U, D, T, f, bd⟩ := wRel_full h
  obtain ⟨⟨a1', a2, a3, a4, a5, a6, a7⟩, b1, c1, -⟩ := id f.1.1
  unfold fX8_write fX9_write
  rw [p_ws, Option.bind_some, b1.2]
  rcases gd_cache a2 a0 b1.1 with ⟨g1, e1⟩ | ⟨g1, c, hc, rfl, e1⟩
  · exact op_fail h (if_pos g1) (by rw [e1, Option.bind_some, if_pos nI_0]; rfl) rfl (by decide)
  rw [if_neg g1, e1, Option.bind_some, if_neg (show ¬ nI 1 = 0 by decide)]
  rcases gd_line a1 (ws σ 7 (nI 0)) with ⟨g2, e2⟩ | ⟨g2, l, hl, rfl, e2⟩
  · exact op_fail h (if_pos g2) (by rw [e2, Option.bind_some, if_pos nI_0]; rfl) rfl (by decide)
  rw [if_neg g2, e2, Option.bind_some, if_neg (show ¬ nI 1 = 0 by decide)]
  rcases gd_in (lo := 0) (hi := 999) (by omega) (by omega) a2' (ws σ 7 (nI 0)) with ⟨g3, e5⟩ | ⟨g3, v, v1, v2, rfl, e5⟩
  · exact op_fail h (if_pos g3) (by rw [e5, Option.bind_some, if_pos nI_0]; rfl) rfl (by decide)
  rw [if_neg g3, e5, Option.bind_some, if_neg (show ¬ nI 1 = 0 by decide)]
  rcases rl_pend f.2.2.1 (show c < 6 by omega) with ⟨-, -, e3, e4⟩ | ⟨-, e3, e4⟩
  · obtain ⟨σ', χ', s1, s2, s3, s4, s5, s6, s7, s8⟩ := rl_save2 h1 f
    obtain ⟨b, σ'', τ', t0, t1, t2, t3, t4, t5⟩ := rl_ask (wv := nI v) s4 hc hl (Or.inr ⟨v, by omega, rfl⟩)
    have hw : wB (nI v) = nI 1 := by unfold wB; rw [if_neg (p_nneg (by omega))]
    rw [hw] at t3
    refine op_ok (r := b) (χ' := c_up χ' 0 τ') (σ' := σ'') ?_ ?_ ?_ ?_
    · rw [e3, Option.bind_some, if_pos nI_0, s2, Option.bind_some]
      rw [t2, cb1, c_ue, t3, Option.bind_some]
      rcases t0 with rfl | rfl
      · rw [if_pos nI_0]
      · rw [if_neg (by decide)]
    · rw [e4, Option.bind_some, if_pos nI_0, s1, Option.bind_some, t1]
      rfl
    · rw [t5 7 (by omega), s5 7 (by omega) (by omega), ws_e]
    · exact wRel_0 s3 ⟨n, S, R, P, U, D, T, t4, bd⟩ t5
  · exact op_fail h (by rw [e3, Option.bind_some, if_neg (show ¬ nI 1 = 0 by decide), if_pos nI_0]) (by rw [e4, Option.bind_some, if_neg (show ¬ nI 1 = 0 by decide)]; rfl) rfl (by decide)
theorem rl_takeBack : lo_takeBack wRel := by
  intro σ χ h a0
  have h1 := wRel_7 (x := nI 0) h
  obtain ⟨n, S, R, P, U, D, T, f, bd⟩ := wRel_full h
  obtain ⟨⟨a1', a2, a3, a4, a5, a6, a7⟩, b1, c1, -⟩ := id f.1.1
  unfold fX8_takeBack fX9_takeBack
  rw [p_ws, Option.bind_some, b1.2]
  rcases gd_cache a2 a0 b1.1 with ⟨g1, e1⟩ | ⟨g1, c, hc, rfl, e1⟩
  · exact op_fail h (if_pos g1) (by rw [e1, Option.bind_some, if_pos nI_0]; rfl) rfl (by decide)
  rw [if_neg g1, e1, Option.bind_some, if_neg (show ¬ nI 1 = 0 by decide)]
  rcases rl_pend f.2.2.1 (show c < 6 by omega) with ⟨-, -, e3, e4⟩ | ⟨⟨-, l, hl, r1, r2, -⟩, e3, e4⟩
  · exact op_fail h (by rw [e3, Option.bind_some, if_pos nI_0]) (by rw [e4, Option.bind_some, if_pos nI_0]; rfl) rfl (by decide)
  · obtain ⟨σ', χ', s1, s2, s3, s4, s5, s6, s7, s8⟩ := rl_save2 h1 f
    obtain ⟨hI, hM, hR, hL, hT⟩ := id s4
    refine op_ok (r := nI l) (χ' := c_up χ' 0 (wr (χ' 0) 7 c (-1))) (σ' := w0 σ' (366 + 3 * c) (-1)) ?_ ?_ ?_ ?_
    · rw [e3, Option.bind_some, if_neg (show ¬ nI 1 = 0 by decide), s2, Option.bind_some, p_ag (by omega) (by omega), Option.bind_some, s6, r1]
      unfold c_b1 fX7_forget
      rw [p_wr (by omega) (by omega), Option.bind_some, Option.bind_some]
    · rw [e4, Option.bind_some, if_neg (show ¬ nI 1 = 0 by decide), s1, Option.bind_some, p_mul, nI_add, p_ag (by omega) (by omega), Option.bind_some, p_w0 (by omega), Option.bind_some, s5 0 (by omega) (by omega), r2]
    · rw [w0_o (by omega), s5 7 (by omega) (by omega), ws_e]
    · refine wRel_0 s3 ⟨n, S, R, P, U, D, T, ⟨mInv_rows (mInv_ref hI fun k z1 _ _ _ _ _ _ => w0_n (by omega)) fun j z7 _ _ _ _ _ _ _ _ _ => wr_o z7, ⟨?_, ?_, ?_, ?_⟩, fun e he => ?_, ?_, ?_, ?_, hT.2.2⟩, bd⟩ fun i hi => w0_o hi
      · rw [w0_n (by omega), wr_o (by omega)]; exact hM.1
      · rw [w0_n (by omega), wr_o (by omega)]; exact hM.2.1
      · rw [w0_n (by omega), wr_o (by omega)]; exact hM.2.2.1
      · rw [w0_n (by omega), wr_o (by omega)]; exact hM.2.2.2
      · by_cases ec : e = c
        · rw [ec]
          exact Or.inl ⟨wr_e _ _ _ _, w0_e _ _ _⟩
        · rw [wr_n ec, w0_n (by omega), w0_n (by omega), w0_n (by omega), wr_o (by omega), wr_o (by omega)]
          exact hR e he
      · obtain ⟨C, u1, u2, u3, u4⟩ := hL
        exact ⟨C, u1, by rw [w0_n (by omega)]; exact u2, by rw [wr_o (by omega)]; exact u3, fun k hk => by rw [w0_n (by omega), wr_o (by omega)]; exact u4 k hk⟩
      · rw [w0_n (by omega)]; exact hT.1
      · rw [wr_o (by omega)]; exact hT.2.1
