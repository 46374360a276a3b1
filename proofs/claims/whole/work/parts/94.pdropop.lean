/-! drop and tear -/
theorem dropT_o {c d i : Nat} {τ : zSt} (h0 : i ≠ 0) (h2 : i ≠ 2) (h26 : i ≠ 26) : dropT c d τ i = τ i := by
  unfold dropT
  rw [wr_o h2]
  by_cases h : τ 2 (c * 32 + d) = nI 2
  · rw [if_pos h, ws_o h26, wr_o h0]
  · rw [if_neg h]
theorem rl_dropop : lo_drop wRel := by
  intro σ χ h a0 a1
  have h1 := wRel_7 (x := nI 0) h
  obtain ⟨n, S, R, P, U, D, T, f, bd⟩ := wRel_full h
  obtain ⟨⟨a1', a2, a3, a4, a5, a6, a7⟩, b1, c1, -⟩ := id f.1.1
  have hCo := f.1.2.2.2.2.2.2.1
  unfold fX8_drop fX9_drop
  rw [p_ws, Option.bind_some, b1.2]
  rcases gd_cache a2 a0 b1.1 with ⟨g1, e1⟩ | ⟨g1, c, hc, rfl, e1⟩
  · exact op_fail h (if_pos g1) (by rw [e1, Option.bind_some, if_pos nI_0]; rfl) rfl (by decide)
  rw [if_neg g1, e1, Option.bind_some, if_neg (show ¬ nI 1 = 0 by decide)]
  rcases gd_line a1 (ws σ 7 (nI 0)) with ⟨g2, e2⟩ | ⟨g2, l, hl, rfl, e2⟩
  · exact op_fail h (if_pos g2) (by rw [e2, Option.bind_some, if_pos nI_0]; rfl) rfl (by decide)
  rw [if_neg g2, e2, Option.bind_some, if_neg (show ¬ nI 1 = 0 by decide), qx_kindOf (by omega) hl, Option.bind_some, qr_copyOf (by omega) a4 c1.1, Option.bind_some]
  by_cases hk : χ 0 2 (c * 32 + l) = 0
  · rw [(rcp_of a4 hCo hc a2 hl).1 hk]
    exact op_fail h (by rw [if_pos hk, if_pos nI_0]) (by rw [oI_none, if_neg (show ¬ (0 : Int32) ≤ -1 by decide)]; rfl) rfl (by decide)
  · obtain ⟨s, hs, hs4, hsl, hr, -⟩ := cop_at a2 a4 hCo hc hl hk
    obtain ⟨σ', χ', s1, s2, s3, s4, s5, s6, s7, s8⟩ := rl_save2 h1 f
    have z0 : σ' 0 = ws σ 7 (nI 0) 0 := s5 0 (by omega) (by omega)
    obtain ⟨σ1, t1, t2, t3, t4, t5⟩ := rl_drop s4.1 hl hc (fun z => z) (s := s) (by rw [s6]; exact hk) hs (by rw [s6]; exact hs4) (by rw [z0]; exact hsl)
    have ha := sA_lt (c := c) (s := s) (k := 0) (by omega) (by omega) (by omega)
    rw [hr, oI_some, if_pos (nI_pos' (by omega)), if_neg hk, if_neg (show ¬ nI 1 = 0 by decide), s1, s2, Option.bind_some, Option.bind_some, qx_kindOf (by omega) hl, Option.bind_some, t1]
    have hR : mRest n T (w0 σ1 5 (σ1 0 5 + nI (if χ' 0 2 (c * 32 + l) = nI 2 then 1 else 0))) (ws (dropT c l (χ' 0)) 22 (dropT c l (χ' 0) 22 0 + nI (if χ' 0 2 (c * 32 + l) = nI 2 then 1 else 0))) := by
      obtain ⟨hM, hR, hL, hT⟩ := (show mRest n T σ' (χ' 0) from s4.2)
      have e22 : dropT c l (χ' 0) 22 = χ' 0 22 := dropT_o (by omega) (by omega) (by omega)
      have e5 : σ1 0 5 = σ' 0 5 := t5 5 (by omega) (by omega) (by omega)
      have base : mRest n T σ1 (dropT c l (χ' 0)) := mRest_same ⟨hM, hR, hL, hT⟩ (fun k hk => t5 k (by omega) (by omega) (by omega)) (fun i hi => dropT_o (by omega) (by omega) (by omega))
      obtain ⟨bM, bR, ⟨C, u1, u2, u3, u4⟩, bT⟩ := base
      refine ⟨⟨?_, ?_, ?_, ?_⟩, fun e he => ?_, ⟨C, u1, ?_, ?_, fun k hk => ?_⟩, ?_, ?_, bT.2.2⟩
      · rw [w0_e, ws_e, bM.1]
      · rw [w0_n (by omega), ws_o (by omega)]; exact bM.2.1
      · rw [w0_n (by omega), ws_o (by omega)]; exact bM.2.2.1
      · rw [w0_n (by omega), ws_o (by omega)]; exact bM.2.2.2
      · rw [w0_n (by omega), w0_n (by omega), w0_n (by omega), ws_o (by omega), ws_o (by omega), ws_o (by omega)]
        exact bR e he
      · rw [w0_n (by omega)]; exact u2
      · rw [ws_o (by omega)]; exact u3
      · rw [w0_n (by omega), ws_o (by omega)]; exact u4 k hk
      · rw [w0_n (by omega)]; exact bT.1
      · rw [ws_o (by omega)]; exact bT.2.1
    have hI : mInv n S R P U D noE noX (w0 σ1 5 (σ1 0 5 + nI (if χ' 0 2 (c * 32 + l) = nI 2 then 1 else 0))) (ws (dropT c l (χ' 0)) 22 (dropT c l (χ' 0) 22 0 + nI (if χ' 0 2 (c * 32 + l) = nI 2 then 1 else 0))) := mInv_rows (mInv_ref t3 fun k _ _ z5 _ _ _ _ => w0_n z5) fun j _ _ _ _ _ _ z22 _ _ _ => ws_o z22
    have e9 : ∀ v : Nat, v = 0 ∨ v = 1 → fX8_drop_j72 (nI c) (nI l) (nI v) χ' = some (Sum.inr (nI v, c_up χ' 0 (ws (dropT c l (χ' 0)) 22 (dropT c l (χ' 0) 22 0 + nI v)))) := by
      intro v _
      unfold fX8_drop_j72 c_sf
      rw [t2, cb1, Option.bind_some, c_ue]
      have : c_up (c_up χ' 0 (dropT c l (χ' 0))) 0 (z_up (dropT c l (χ' 0)) 22 fun _ => dropT c l (χ' 0) 22 0 + nI v) = c_up χ' 0 (ws (dropT c l (χ' 0)) 22 (dropT c l (χ' 0) 22 0 + nI v)) := by
        funext k
        by_cases hk0 : k = 0
        · rw [hk0, c_ue, c_ue]; rfl
        · rw [c_un hk0, c_un hk0, c_un hk0]
      rw [this]
    refine op_ok (r := nI (if χ' 0 2 (c * 32 + l) = nI 2 then 1 else 0)) (χ' := c_up χ' 0 (ws (dropT c l (χ' 0)) 22 (dropT c l (χ' 0) 22 0 + nI (if χ' 0 2 (c * 32 + l) = nI 2 then 1 else 0)))) (σ' := w0 σ1 5 (σ1 0 5 + nI (if χ' 0 2 (c * 32 + l) = nI 2 then 1 else 0))) ?_ ?_ ?_ (wRel_0 s3 ⟨n, S, R, P, U, D, T, ⟨hI, hR⟩, bd⟩ fun i hi => by rw [w0_o hi, t4 i hi])
    · by_cases hk2 : χ' 0 2 (c * 32 + l) = nI 2
      · rw [if_pos hk2, if_pos hk2]
        exact e9 1 (Or.inr rfl)
      · rw [if_neg hk2, if_neg hk2]
        exact e9 0 (Or.inl rfl)
    · unfold z_b2
      rw [Option.bind_some]
      show ((z_ag (σ1 0) 456 (nI 5)).bind fun x10 => (z_sg σ1 0 456 (nI 5) (x10 + nI (if χ' 0 2 (c * 32 + l) = nI 2 then 1 else 0))).bind fun σ11 => some (nI (if χ' 0 2 (c * 32 + l) = nI 2 then 1 else 0), σ11)) = _
      rw [p_ag (by omega) (by omega), Option.bind_some, p_w0 (by omega), Option.bind_some]
    · rw [w0_o (by omega), t4 7 (by omega), s5 7 (by omega) (by omega), ws_e]
theorem ones_st {σ : zSt} {K : Int32 → Option Int32} : ∀ (n : Nat) (y1 y2 : Int32), fX9_ones_l4 σ K n y1 y2 = fX9_ones_l4 z0 K n y1 y2 := by
  intro n
  induction n with
  | zero => intro y1 y2; rfl
  | succ n ih =>
    intro y1 y2
    rw [fX9_ones_l4, fX9_ones_l4]
    by_cases h : y2 = 0
    · rw [if_pos h, if_pos h]
    · rw [if_neg h, if_neg h]
      exact ih _ _
theorem qr_ones {σ : zSt} (k : Nat → Int32) : fX9_ones (shF k 6) σ = some (nI (pS (fun c => bN (decide (k c = nI 1))) 6 0)) := by
  unfold fX9_ones
  rw [ones_st, shF_B, shB_six]
  refine (ones6 _ _ _ _ _ _).trans ?_
  congr 2
  show _ = bN (decide (k 0 = nI 1)) + (bN (decide (k 1 = nI 1)) + (bN (decide (k 2 = nI 1)) + (bN (decide (k 3 = nI 1)) + (bN (decide (k 4 = nI 1)) + (bN (decide (k 5 = nI 1)) + 0)))))
  omega
theorem cnt_eq {τ : zSt} {l : Nat} (hK : mKind τ) (hO : mOne τ) (hl : l < 32) : pS (fun c => if τ 2 (c * 32 + l) = 0 then 0 else 1) 6 0 = pS (fun c => bN (decide (kdF τ l c = nI 1))) 6 0 + (if ownN τ l = none then 0 else 1) := by
  have e1 : pS (fun c => if τ 2 (c * 32 + l) = 0 then 0 else 1) 6 0 = pS (fun c => bN (decide (kdF τ l c = nI 1)) + (if τ 2 (c * 32 + l) = nI 2 then 1 else 0)) 6 0 := pS_congr fun c _ hc => by
    show _ = bN (decide (τ 2 (c * 32 + l) = nI 1)) + _
    rcases hK c l (by omega) hl with h | h | h
    · rw [h, if_pos rfl, if_neg (by decide)]; rfl
    · rw [h, if_neg (by decide), if_neg (by decide)]; rfl
    · rw [h, if_neg (by decide), if_pos rfl]; rfl
  rw [e1, pS_add]
  congr 1
  cases ho : ownN τ l with
  | none =>
    rw [if_pos rfl]
    exact pS_zero fun c _ hc => if_neg (pF_none.mp ho c (by omega) (by omega))
  | some o =>
    rw [if_neg (by simp)]
    obtain ⟨-, o2, o3, -⟩ := pF_some ho
    exact pS_one (o := o) (by omega) (by omega) (if_pos o3) fun c _ hc hne => if_neg fun z => hne (hO c o l (by omega) (by omega) hl z o3)
theorem rl_tearop : lo_tear wRel := by
  intro σ χ h a0
  have h1 := wRel_7 (x := nI 0) h
  obtain ⟨n, S, R, P, U, D, T, f, bd⟩ := wRel_full h
  obtain ⟨⟨a1', a2, a3, a4, a5, a6, a7⟩, b1, c1, d1, q1⟩ := id f.1.1
  have hPa := f.1.2.2.2.2.2.2.2.1
  unfold fX8_tear fX9_tear
  rw [p_ws, Option.bind_some]
  rcases gd_line a0 (ws σ 7 (nI 0)) with ⟨g2, e2⟩ | ⟨g2, l, hl, rfl, e2⟩
  · exact op_fail h (if_pos g2) (by rw [e2, Option.bind_some, if_pos nI_0]; rfl) rfl (by decide)
  rw [if_neg g2, e2, Option.bind_some, if_neg (show ¬ nI 1 = 0 by decide), qx_hasPage hl, Option.bind_some, qr_pageOf (by omega) q1.1, Option.bind_some]
  by_cases h6 : χ 0 6 l = 0
  · rw [(rpg_of hPa hl).1 h6]
    exact op_fail h (by rw [if_pos ((pg_le0 hPa hl).mpr h6), if_pos nI_0]) (by rw [oI_none, if_neg (show ¬ (0 : Int32) ≤ -1 by decide)]; rfl) rfl (by decide)
  · obtain ⟨p, p1, p2, p3⟩ := (rpg_of hPa hl).2 h6
    obtain ⟨P, rfl⟩ : ∃ k, P = k + 1 := ⟨P - 1, by omega⟩
    obtain ⟨σ', χ', s1, s2, s3, s4, s5, s6, s7, s8⟩ := rl_save2 h1 f
    have hk : mKind (χ' 0) := s4.1.2.2.2.2.1
    have ho : mOne (χ' 0) := s4.1.2.2.2.2.2.1
    have z0 : σ' 0 = ws σ 7 (nI 0) 0 := s5 0 (by omega) (by omega)
    have hP' := s4.1.2.2.2.2.2.2.2.1
    have htl := hP'.2.2.2.2.1 p l p1 hl (by rw [z0]; exact p2) (fun z => z)
    have hcz := cnt_zero (τ := χ' 0) (l := l)
    have hcl := cnt_le (τ := χ' 0) (l := l)
    generalize hcn : pS (fun c => if χ' 0 2 (c * 32 + l) = 0 then 0 else 1) 6 0 = cn at hcz hcl
    obtain ⟨b, hb0, hb1⟩ : ∃ b : Int32, (b = 0 ↔ ∀ c, c < 6 → χ' 0 2 (c * 32 + l) = 0) ∧ ((if nI cn ≤ 0 then fX8_tear_j60 (nI cn) (nI 0) (nI l) χ' else fX8_tear_j60 (nI cn) (nI 1) (nI l) χ') = fX8_tear_j60 (nI cn) b (nI l) χ') := by
      by_cases hc0 : cn = 0
      · exact ⟨nI 0, ⟨fun _ => hcz.mp hc0, fun _ => nI_0⟩, if_pos ((nI_le0 (by omega)).mpr hc0)⟩
      · exact ⟨nI 1, ⟨fun z => absurd z (by decide), fun z => absurd (hcz.mpr z) hc0⟩, if_neg (mt (nI_le0 (by omega)).mp hc0)⟩
    obtain ⟨p', σ1, τ1, t1, t2, t3, t4, t5, t6, t7, t8, t9, t10⟩ := rl_tear s4.1 hl (by rw [s6]; exact h6) (fun z => z) b hb0
    have hpp : p' = p := hP'.2.2.2.1 p' p (by omega) p1 (by rw [t3, z0, p2])
    rw [hpp] at t4
    have ecn : nI (pS (fun c => bN (decide (kdF (χ' 0) l c = nI 1))) 6 0) + (if oI (ownN (χ' 0) l) < 0 then nI 0 else nI 1) = nI cn := by
      rw [← hcn, cnt_eq hk ho hl]
      cases hq : ownN (χ' 0) l with
      | none => rw [oI_none, if_pos p_neg, if_pos rfl, nI_add]
      | some o =>
        obtain ⟨-, o2, -⟩ := pF_some hq
        rw [oI_some, if_neg (nI_pos (by omega)), if_neg (by simp), nI_add]
    refine op_ok (r := nI cn) (χ' := c_up χ' 0 τ1) (σ' := σ1) ?_ ?_ ?_ (wRel_0 s3 ⟨n, S, R, P, U, D, T, ⟨t6, mRest_same (show mRest n T σ' (χ' 0) from s4.2) (fun k hk => t8 k (by omega) (by omega) (by omega) (by omega)) (fun i hi => t10 i (by omega) (by omega) (by omega) (by omega))⟩, bd⟩ t7)
    · rw [if_neg (mt (pg_le0 hPa hl).mp h6), if_neg (show ¬ nI 1 = 0 by decide), s2, Option.bind_some, qx_countOf hl, Option.bind_some, hcn, hb1]
      unfold fX8_tear_j60
      rw [t5, cb1]
    · rw [p3, oI_some, if_pos (nI_pos' (by omega)), s1, Option.bind_some, nI_add, p_ag (by omega) (by omega), Option.bind_some, htl.2, qr_ones, Option.bind_some, nI_add, p_ag (by omega) (by omega), Option.bind_some, htl.1]
      unfold fX9_tear_j65
      rw [t4, Option.bind_some, Option.bind_some, ← ecn]
      by_cases hz : oI (ownN (χ' 0) l) < 0
      · rw [if_pos hz, if_pos hz]
      · rw [if_neg hz, if_neg hz]
    · rw [t7 7 (by omega), s5 7 (by omega) (by omega), ws_e]
