/-! a request is served by a miss -/
theorem rl_serve_miss {n S R P U D T c l : Nat} {wv : Int32} {σ τ : zSt} (h : mInv n S R P U D noE noX σ τ) (hg : mLog σ τ) (hc : c < n) (hl : l < 32) (hv : wv = -1 ∨ ∃ x, x < 1000 ∧ wv = nI x) (hU : U + 1 ≤ 10000000) (hD : D + 2 ≤ 20000000) (hh : ¬ hitB τ c l (wB wv)) :
    ∃ m σ', fX9_serves (nI c) (nI l) wv σ = some (nI m, σ') ∧ fX4_costOf (nI c) (nI l) (wB wv) τ = some (nI m) ∧ (mMsg σ τ → mTime T σ τ → τ 8 c = wv → ∃ P' D' τ', fX4_serve (nI c) (nI l) (nI 0) τ = some τ' ∧ mInv n S R P' (U + 1) D' noE noX σ' τ' ∧ D' ≤ D + 2 ∧ mServed c l σ τ σ' τ') := by
  obtain ⟨⟨a1, a2, a3, a4, a5, a6, a7⟩, b1, c1, d1, e1⟩ := id h.1
  obtain ⟨C, hC, h12, h18, hlog⟩ := hg
  have hwv : wv < 0 ∧ wB wv = nI 0 ∨ ¬ wv < 0 ∧ wB wv = nI 1 := by
    by_cases hw : wv < 0
    · exact Or.inl ⟨hw, by unfold wB; rw [if_pos ((wv_neg hv).mp hw)]⟩
    · exact Or.inr ⟨hw, by unfold wB; rw [if_neg (fun z => hw ((wv_neg hv).mpr z))]⟩
  -- the class counts ahead
  have core : ∀ κ : zSt, (∀ i, i ≠ 22 → i ≠ 24 → κ i = τ i) → ∃ m σ', fX9_serves (nI c) (nI l) wv σ = some (nI m, σ') ∧ fX4_costOf (nI c) (nI l) (wB wv) κ = some (nI m) ∧ (mTime T σ τ → τ 8 c = wv → ∃ P' D' τ', ((fX4_fetch (nI c) (nI l) (wB wv) κ).bind fun σ5 => fX4_serve_j66 (nI c) (nI l) (wB wv) (nI m) σ5) = some τ' ∧ mInv n S R P' (U + 1) D' noE noX σ' τ' ∧ D' ≤ D + 2 ∧ mLog σ' τ' ∧ (∀ i, i ≠ 0 → σ' i = σ i) ∧ (σ' 0 4 = σ 0 4 ∧ σ' 0 8 = σ 0 8 ∧ ∀ k, 366 ≤ k → k < 384 → σ' 0 k = σ 0 k) ∧ (σ' 0 5 = σ 0 5 + nI m ∧ σ' 0 6 = σ 0 6 ∧ σ' 0 7 = σ 0 7 + nI 1) ∧ τ' 7 = upd (τ 7) c (-1) ∧ τ' 22 = κ 22 ∧ τ' 23 = κ 23 ∧ τ' 24 = κ 24 ∧ τ' 25 = κ 25 ∧ τ' 8 = τ 8 ∧ τ' 9 = τ 9 ∧ τ' 19 = τ 19 ∧ τ' 21 = τ 21) := by
    intro κ ko
    have hκ : mInv n S R P U D noE noX σ κ := mInv_rows h fun i _ _ _ _ _ _ e22 _ e24 _ => ko i e22 e24
    have hhκ : ¬ hitB κ c l (wB wv) := by
      unfold hitB at hh ⊢
      rw [ko 2 (by omega) (by omega)]
      exact hh
    obtain ⟨m, s, p, P', D', σ3, τ3, m1, m2, m3, m4, m5, m6, ⟨m7, m8⟩, m9, m10, m11, m12, m13, m14, m15⟩ := rl_miss hκ hl hc hwv hD hhκ
    obtain ⟨⟨⟨f1, f2, f3, f4, f5, f6, f7⟩, g1, g2, g3, g4⟩, hNu, hMe, hMa, hKi, hOn, hCo, hPa, hNo⟩ := id m4
    have ha : sA c s + 3 < 302 := sA_lt (by omega) (by omega) (by omega)
    have ha0 : 110 ≤ sA c s := by unfold sA; omega
    have hUv : σ3 0 13 = nI U := hCo.2.2.2.1
    have hDv : τ3 12 0 = nI D' := hPa.2.2.2.2.2.2.2.2.1
    -- the reference behind the filling
    generalize hsh : (if wB wv = 0 then shF (fun e => if e = c then nI 1 else τ3 2 (e * 32 + l)) 6 else nI 0) = sh at m1
    generalize hσ5 : fillS c l s p U (wB wv) sh σ3 = σ5 at m1
    unfold fillS at hσ5
    have q0 : σ5 0 (sA c s) = nI l := by rw [← hσ5, w0_n (by omega), w0_n (by omega), w0_n (by omega), w0_n (by omega), w0_n (by omega), w0_e]
    have q1 : σ5 0 (sA c s + 1) = if wB wv = 0 then nI 1 else nI 2 := by rw [← hσ5, w0_n (by omega), w0_n (by omega), w0_n (by omega), w0_n (by omega), w0_e]
    have q2 : σ5 0 (sA c s + 2) = σ3 0 (14 + l) := by rw [← hσ5, w0_n (by omega), w0_n (by omega), w0_n (by omega), w0_e]
    have q3 : σ5 0 (302 + 4 * p + 1) = if wB wv = 0 then -1 else nI c := by rw [← hσ5, w0_n (by omega), w0_n (by omega), w0_e]
    have q4 : σ5 0 (302 + 4 * p + 2) = sh := by rw [← hσ5, w0_n (by omega), w0_e]
    have q5 : σ5 0 (302 + 4 * p + 3) = nI (U + 1) := by rw [← hσ5, w0_e]
    have qo : ∀ k, k ≠ sA c s → k ≠ sA c s + 1 → k ≠ sA c s + 2 → k ≠ 302 + 4 * p + 1 → k ≠ 302 + 4 * p + 2 → k ≠ 302 + 4 * p + 3 → σ5 0 k = σ3 0 k := fun k z1 z2 z3 z4 z5 z6 => by rw [← hσ5, w0_n z6, w0_n z5, w0_n z4, w0_n z3, w0_n z2, w0_n z1]
    have qr : ∀ i, i ≠ 0 → σ5 i = σ3 i := fun i hi => by rw [← hσ5, w0_o hi, w0_o hi, w0_o hi, w0_o hi, w0_o hi, w0_o hi]
    have hbase : ∀ k, (k = 4 ∨ k = 5 ∨ k = 6 ∨ k = 7 ∨ k = 8 ∨ k = 12 ∨ 366 ≤ k) → σ5 0 k = σ 0 k := fun k hk => by
      rw [qo k (by omega) (by omega) (by omega) (by omega) (by omega) (by omega), m14 k (by omega) (by omega) (by omega) (by omega) (by omega) (by omega)]
    have hrc : rcp σ5 S c (nI l) = some (sA c s) := rcp_at m5 q0 fun t ht z => by
      have ht8 : t < 8 := by omega
      have hs8 : s < 8 := by omega
      rw [qo _ (by unfold sA; omega) (by unfold sA; omega) (by unfold sA; omega) (by have := sA_lt (c := c) (s := t) (k := 0) (by omega) ht8 (by omega); omega) (by have := sA_lt (c := c) (s := t) (k := 0) (by omega) ht8 (by omega); omega) (by have := sA_lt (c := c) (s := t) (k := 0) (by omega) ht8 (by omega); omega)] at z
      rcases hCo.2.1 c t hc (by omega) with y | ⟨k, k1, k2, k3, k4⟩
      · rw [y] at z; exact p_nneg' (by omega) z
      · rw [z] at k2
        obtain rfl := (nI_eq (by omega) (by omega)).mp k2
        rcases m6 with ⟨y1, y2⟩ | ⟨y1, y2⟩
        · rw [y2] at k4
          have := (nI_eq (by omega) (by omega)).mp k4
          omega
        · exact k3 y1
    obtain ⟨σ', t1, t2, t3, t4, t5, t6, t7, t8, t9, t10, t11, t12, t13⟩ := qr_tail (m := m) (hit := false) (wv := wv) (show c < 6 by omega) hl f4 (show σ5 0 1 = nI S by rw [qo 1 (by omega) (by omega) (by omega) (by omega) (by omega) (by omega)]; exact g2.1) hrc ha0 ha (show σ5 0 12 = nI C by rw [hbase 12 (by omega)]; exact h12) hC
    have h13 : σ5 0 13 = nI U := by rw [qo 13 (by omega) (by omega) (by omega) (by omega) (by omega) (by omega)]; exact hUv
    rw [h13, nI_add] at t5 t6
    refine ⟨m, σ', ?_, m3, fun ht h8 => ?_⟩
    · unfold fX9_serves fX9_serves_j12
      have hmi : ∀ w, w = wB wv → ((fX9_isHit (nI c) (nI l) w σ).bind fun x1 => if x1 = 0 then z_b2 (fX9_misses (nI c) (nI l) wv σ) fun x2 σ3 => fX9_serves_j33 (nI c) (nI l) wv x1 x2 σ3 else fX9_serves_j33 (nI c) (nI l) wv x1 (nI 0) σ) = some (nI m, σ') := by
        intro w hw
        rw [hw, (qr_isHit h hc hl).2 hh, Option.bind_some, if_pos nI_0, m1]
        exact t1
      rcases hwv with ⟨z1, z2⟩ | ⟨z1, z2⟩
      · rw [if_pos z1]; exact hmi _ z2.symm
      · rw [if_neg z1]; exact hmi _ z2.symm
    · -- the class behind the fetching
      rw [m2, Option.bind_some]
      generalize hτ5 : fillT c l s D' τ3 = τ5
      unfold fillT at hτ5
      have w2 : τ5 2 = if τ3 2 (c * 32 + l) = 0 then upd (τ3 2) (c * 32 + l) (nI 1) else τ3 2 := by
        rw [← hτ5, wr_o (by omega), ws_o (by omega)]
        split
        · rw [wr_o (by omega), wr_o (by omega)]; exact p_ze _ _ _
        · rfl
      have w3 : τ5 3 = if τ3 2 (c * 32 + l) = 0 then upd (τ3 3) (c * 32 + l) (τ3 0 l) else τ3 3 := by
        rw [← hτ5, wr_o (by omega), ws_o (by omega)]
        split
        · rw [wr_o (by omega)]
          show z_up _ 3 _ 3 = _
          rw [p_ze, wr_o (by omega)]
        · rfl
      have w4 : τ5 4 = upd (τ3 4) (c * 32 + l) (nI s) := by
        rw [← hτ5, wr_o (by omega), ws_o (by omega)]
        by_cases hz : τ3 2 (c * 32 + l) = 0
        · rw [if_pos hz]
          show z_up _ 4 _ 4 = _
          rw [p_ze, wr_o (by omega), wr_o (by omega)]
        · rw [if_neg hz]
          rcases m6 with ⟨-, y2⟩ | ⟨y1, -⟩
          · rw [← y2, upd_same]
          · exact absurd y1 hz
      have w6 : τ5 6 = upd (τ3 6) l (nI (D' + 1)) := by
        rw [← hτ5]
        show z_up _ 6 _ 6 = _
        rw [p_ze, ws_o (by omega)]
        split
        · rw [wr_o (by omega), wr_o (by omega), wr_o (by omega)]
        · rfl
      have w12 : τ5 12 0 = nI (D' + 1) := by rw [← hτ5, wr_o (by omega), ws_e]
      have wo : ∀ i, i ≠ 2 → i ≠ 3 → i ≠ 4 → i ≠ 6 → i ≠ 12 → τ5 i = τ3 i := fun i z1 z2 z3 z4 z5 => by
        rw [← hτ5, wr_o z4, ws_o z5]
        split
        · rw [wr_o z3, wr_o z2, wr_o z1]
        · rfl
      have hb3 : ∀ i, (i = 7 ∨ i = 8 ∨ i = 9 ∨ i = 10 ∨ i = 18 ∨ i = 19 ∨ i = 21 ∨ i = 22 ∨ i = 23 ∨ i = 24 ∨ i = 25) → τ5 i = κ i := fun i hi => by
        rw [wo i (by omega) (by omega) (by omega) (by omega) (by omega), m15 i (by omega) (by omega) (by omega) (by omega) (by omega) (by omega) (by omega) (by omega) (by omega)]
      have hbτ : ∀ i, (i = 7 ∨ i = 8 ∨ i = 9 ∨ i = 10 ∨ i = 18 ∨ i = 19 ∨ i = 21) → τ5 i = τ i := fun i hi => by
        rw [hb3 i (by omega), ko i (by omega) (by omega)]
      obtain ⟨τ', u1, u2, u3, u4, u5, u6, u7, u8, u9, u10, u11⟩ := qx_j66 (τ := τ5) (c := c) (l := l) (U := U) (C := C) (m := m) (w := wB wv) (wv := wv) (by omega) hl (wB_or wv) (fun _ => by rw [hbτ 8 (by omega)]; exact h8) (by rw [wo 11 (by omega) (by omega) (by omega) (by omega) (by omega)]; exact hCo.2.2.2.2.1) (by rw [hbτ 18 (by omega)]; exact h18) hC
      have x2 : τ' 2 = upd (τ3 2) (c * 32 + l) (if wB wv = 0 then nI 1 else nI 2) := by
        rw [u2, w2]
        by_cases hw : wB wv = 0
        · rw [if_pos hw, if_pos hw, if_pos (m12 hw).1]
        · rw [if_neg hw, if_neg hw]
          split
          · rw [upd_upd]
          · rfl
      have x3 : τ' 3 = upd (τ3 3) (c * 32 + l) (if wB wv = 0 then τ3 0 l else wv) := by
        rw [u3, w3]
        by_cases hw : wB wv = 0
        · rw [if_pos hw, if_pos hw, if_pos (m12 hw).1]
        · rw [if_neg hw, if_neg hw]
          split
          · rw [upd_upd]
          · rfl
      have xo : ∀ i, i ≠ 1 → i ≠ 2 → i ≠ 3 → i ≠ 4 → i ≠ 5 → i ≠ 6 → i ≠ 7 → i ≠ 10 → i ≠ 11 → i ≠ 12 → i ≠ 18 → τ' i = τ3 i := fun i z1 z2 z3 z4 z5 z6 z7 z8 z9 z10 z11 => by rw [u11 i z1 z2 z3 z5 z7 z8 z9 z11, wo i z2 z3 z4 z6 z10]
      have ro : ∀ k, k < 46 → k ≠ 5 → k ≠ 6 → k ≠ 7 → k ≠ 12 → k ≠ 13 → σ' 0 k = σ3 0 k := fun k z0 z1 z2 z3 z4 z5 => by
        rw [t13 k z1 z2 z3 z4 z5 (by omega) (by omega) (by omega) (by omega), qo k (by omega) (by omega) (by omega) (by omega) (by omega) (by omega)]
      have ro2 : ∀ k, 46 ≤ k → k < 384 → k ≠ 46 + l → (k < sA c s ∨ sA c s + 3 < k) → k ≠ 302 + 4 * p + 1 → k ≠ 302 + 4 * p + 2 → k ≠ 302 + 4 * p + 3 → σ' 0 k = σ3 0 k := fun k z0 z1 z2 z3 z4 z5 z6 => by
        rw [t13 k (by omega) (by omega) (by omega) (by omega) (by omega) z2 (by omega) (by omega) z1, qo k (by omega) (by omega) (by omega) z4 z5 z6]
      have hkd : (if wB wv = 0 then nI 1 else nI 2) ≠ 0 := by split <;> decide
      have kin : ∀ e k, e < 6 → k < 32 → ¬ (e = c ∧ k = l) → τ' 2 (e * 32 + k) = τ3 2 (e * 32 + k) := fun e k he hk hne => by rw [x2, p_upn (by omega)]
      have kie : τ' 2 (c * 32 + l) = if wB wv = 0 then nI 1 else nI 2 := by rw [x2, p_upe]
      have hOn' : mOne τ' := by
        intro e e' k he he' hk z1 z2
        by_cases y1 : e = c ∧ k = l
        · by_cases y2 : e' = c ∧ k = l
          · omega
          · obtain ⟨rfl, rfl⟩ := y1
            rw [kin e' k he' hk y2] at z2
            rw [kie] at z1
            by_cases hw : wB wv = 0
            · rw [if_pos hw] at z1; exact absurd z1 (by decide)
            · rw [m11 hw e' he' (fun q => y2 ⟨q, rfl⟩)] at z2
              exact absurd z2 (by decide)
        · by_cases y2 : e' = c ∧ k = l
          · obtain ⟨rfl, rfl⟩ := y2
            rw [kin e k he hk y1] at z1
            rw [kie] at z2
            by_cases hw : wB wv = 0
            · rw [if_pos hw] at z2; exact absurd z2 (by decide)
            · rw [m11 hw e he (fun q => y1 ⟨q, rfl⟩)] at z1
              exact absurd z1 (by decide)
          · rw [kin e k he hk y1] at z1
            rw [kin e' k he' hk y2] at z2
            exact hOn e e' k he he' hk z1 z2
      refine ⟨P', D' + 1, τ', u1, ⟨?_, ?_, ?_, ?_, ?_, hOn', ?_, ?_, ?_⟩, by omega, ?_, fun i hi => by rw [t2 i hi, qr i hi, m13 i hi], ⟨?_, ?_, fun k z1 z2 => ?_⟩, ⟨?_, ?_, ?_⟩, ?_, ?_, ?_, ?_, ?_, ?_, ?_, ?_, ?_⟩
      · refine ⟨⟨f1, f2, f3, f4, f5, f6, f7⟩, ?_, ?_, ?_, ?_⟩
        · rw [ro 0 (by omega) (by omega) (by omega) (by omega) (by omega) (by omega), xo 19 (by omega) (by omega) (by omega) (by omega) (by omega) (by omega) (by omega) (by omega) (by omega) (by omega) (by omega)]; exact g1
        · rw [ro 1 (by omega) (by omega) (by omega) (by omega) (by omega) (by omega), xo 20 (by omega) (by omega) (by omega) (by omega) (by omega) (by omega) (by omega) (by omega) (by omega) (by omega) (by omega)]; exact g2
        · rw [ro 2 (by omega) (by omega) (by omega) (by omega) (by omega) (by omega), xo 14 (by omega) (by omega) (by omega) (by omega) (by omega) (by omega) (by omega) (by omega) (by omega) (by omega) (by omega)]; exact g3
        · rw [ro 3 (by omega) (by omega) (by omega) (by omega) (by omega) (by omega), xo 15 (by omega) (by omega) (by omega) (by omega) (by omega) (by omega) (by omega) (by omega) (by omega) (by omega) (by omega)]; exact g4
      · refine ⟨?_, ?_, ?_⟩
        · rw [ro 9 (by omega) (by omega) (by omega) (by omega) (by omega) (by omega), xo 16 (by omega) (by omega) (by omega) (by omega) (by omega) (by omega) (by omega) (by omega) (by omega) (by omega) (by omega)]; exact hNu.1
        · rw [ro 10 (by omega) (by omega) (by omega) (by omega) (by omega) (by omega), xo 17 (by omega) (by omega) (by omega) (by omega) (by omega) (by omega) (by omega) (by omega) (by omega) (by omega) (by omega)]; exact hNu.2.1
        · rw [ro 11 (by omega) (by omega) (by omega) (by omega) (by omega) (by omega), xo 26 (by omega) (by omega) (by omega) (by omega) (by omega) (by omega) (by omega) (by omega) (by omega) (by omega) (by omega)]; exact hNu.2.2
      · intro k hk
        rw [ro (14 + k) (by omega) (by omega) (by omega) (by omega) (by omega) (by omega), xo 0 (by omega) (by omega) (by omega) (by omega) (by omega) (by omega) (by omega) (by omega) (by omega) (by omega) (by omega), u4, wo 1 (by omega) (by omega) (by omega) (by omega) (by omega)]
        refine ⟨(hMe k hk).1, ?_⟩
        by_cases ek : k = l
        · rw [ek, t4]
          by_cases hw : wv < 0
          · rw [if_pos hw, if_pos (wB_0.mpr ((wv_neg hv).mp hw)), qo _ (by omega) (by omega) (by omega) (by omega) (by omega) (by omega)]
            exact (hMe l hl).2
          · rw [if_neg hw, if_neg (fun z => hw ((wv_neg hv).mpr (wB_0.mp z))), p_upe]
        · rw [ro2 (46 + k) (by omega) (by omega) (by omega) (by omega) (by omega) (by omega) (by omega), (hMe k hk).2]
          split
          · rfl
          · rw [p_upn ek]
      · intro k hk
        rw [ro2 (78 + k) (by omega) (by omega) (by omega) (by omega) (by omega) (by omega) (by omega), xo 13 (by omega) (by omega) (by omega) (by omega) (by omega) (by omega) (by omega) (by omega) (by omega) (by omega) (by omega)]
        exact hMa k hk
      · intro e k he hk
        by_cases y : e = c ∧ k = l
        · rw [y.1, y.2, kie]
          split
          · exact Or.inr (Or.inl rfl)
          · exact Or.inr (Or.inr rfl)
        · rw [kin e k he hk y]; exact hKi e k he hk
      · refine mCop_set (kd := if wB wv = 0 then nI 1 else nI 2) (vl := if wB wv = 0 then τ3 0 l else wv) f2 f4 hCo (fun _ _ z => z.elim) hc hl m5 hU hkd m6 ?_ ?_ ?_ t6 t5 ?_ x2 x3 ?_ ?_ u6
        · rw [t13 _ (by omega) (by omega) (by omega) (by omega) (by omega) (by omega) (by omega) (by omega) (by omega)]; exact q0
        · rw [t13 _ (by omega) (by omega) (by omega) (by omega) (by omega) (by omega) (by omega) (by omega) (by omega)]; exact q1
        · rw [t3, q2]
          by_cases hw : wv < 0
          · rw [if_pos hw, if_pos (wB_0.mpr ((wv_neg hv).mp hw))]
            exact (hMe l hl).1
          · rw [if_neg hw, if_neg (fun z => hw ((wv_neg hv).mpr (wB_0.mp z)))]
        · intro k z1 z2 z3
          exact ro2 k (by omega) (by omega) (by omega) z3 (by omega) (by omega) (by omega)
        · rw [u11 4 (by omega) (by omega) (by omega) (by omega) (by omega) (by omega) (by omega) (by omega), w4]
        · rw [u5, wo 5 (by omega) (by omega) (by omega) (by omega) (by omega)]
      · refine mPage_use (p := p) (by omega) hPa hl hU (by omega) m7 m8 ?_ ?_ ?_ ?_ ?_ ?_ ?_
        · rw [t13 _ (by omega) (by omega) (by omega) (by omega) (by omega) (by omega) (by omega) (by omega) (by omega), q3]
          by_cases hw : wB wv = 0
          · rw [if_pos hw]
            have : ownN τ' l = none := pF_none.mpr fun e _ he => by
              by_cases ec : e = c
              · rw [ec, kie, if_pos hw]; decide
              · rw [kin e l (by omega) hl (fun q => ec q.1)]
                exact (m12 hw).2 e (by omega) ec
            rw [this]; rfl
          · rw [if_neg hw, own_eq hOn' hl (show c < 6 by omega) (by rw [kie, if_neg hw])]
            rfl
        · rw [t13 _ (by omega) (by omega) (by omega) (by omega) (by omega) (by omega) (by omega) (by omega) (by omega), q4, ← hsh]
          by_cases hw : wB wv = 0
          · rw [if_pos hw]
            refine pG_congr fun e _ he y => ?_
            show (if (if e = c then nI 1 else τ3 2 (e * 32 + l)) = nI 1 then _ else _) = (if τ' 2 (e * 32 + l) = nI 1 then _ else _)
            by_cases ec : e = c
            · rw [if_pos ec, ec, kie, if_pos hw]
            · rw [if_neg ec, kin e l (by omega) hl (fun q => ec q.1)]
          · rw [if_neg hw, nI_0]
            refine ((sh_zero _).mpr fun e he => ?_).symm
            show τ' 2 (e * 32 + l) ≠ nI 1
            by_cases ec : e = c
            · rw [ec, kie, if_neg hw]; decide
            · rw [kin e l he hl (fun q => ec q.1), m11 hw e he ec]; decide
        · rw [t13 _ (by omega) (by omega) (by omega) (by omega) (by omega) (by omega) (by omega) (by omega) (by omega), q5]
        · intro k z1 z2 z3 z4 z5
          exact ro2 k (by omega) (by omega) (by omega) (by omega) z3 z4 z5
        · rw [u11 6 (by omega) (by omega) (by omega) (by omega) (by omega) (by omega) (by omega) (by omega), w6]
        · rw [u11 12 (by omega) (by omega) (by omega) (by omega) (by omega) (by omega) (by omega) (by omega), w12]
        · intro k hk hkl e he
          exact kin e k he hk fun q => hkl q.2
      · intro k hk z1 z2 e he
        rw [u11 6 (by omega) (by omega) (by omega) (by omega) (by omega) (by omega) (by omega) (by omega), w6] at z1
        rw [xo 13 (by omega) (by omega) (by omega) (by omega) (by omega) (by omega) (by omega) (by omega) (by omega) (by omega) (by omega)] at z2
        have hkl : k ≠ l := fun q => by
          rw [q, p_upe] at z1
          exact nI_ne0 (by omega) (by omega) z1
        rw [p_upn hkl] at z1
        rw [kin e k he hk fun q => hkl q.2]
        exact hNo k hk z1 z2 e he
      · refine mLog_add (σ := σ) (τ := τ) hC hlog t10 u8 (fun k hk6 => ?_) (fun k z1 z2 => by rw [t12 k z1 z2, hbase _ (by omega)]) (fun k z1 z2 => by rw [u10 k z1 z2, hbτ 10 (by omega)])
        obtain ⟨p0, p1, p2, p3, p4, p5⟩ := t11
        obtain ⟨r0, r1, r2, r3, r4, r5⟩ := u9
        rcases (show k = 0 ∨ k = 1 ∨ k = 2 ∨ k = 3 ∨ k = 4 ∨ k = 5 by omega) with rfl | rfl | rfl | rfl | rfl | rfl
        · exact p0.trans r0.symm
        · exact p1.trans r1.symm
        · refine p2.trans (Eq.trans ?_ r2.symm)
          unfold wB
          by_cases hw : wv < 0
          · rw [if_pos hw, if_pos ((wv_neg hv).mp hw)]
          · rw [if_neg hw, if_neg (fun z => hw ((wv_neg hv).mpr z))]
        · refine p3.trans (Eq.trans ?_ r3.symm)
          rw [x3, p_upe, q2]
          by_cases hw : wv < 0
          · rw [if_pos hw, if_pos (wB_0.mpr ((wv_neg hv).mp hw))]
            exact (hMe l hl).1
          · rw [if_neg hw, if_neg (fun z => hw ((wv_neg hv).mpr (wB_0.mp z)))]
        · exact p4.trans r4.symm
        · refine p5.trans (Eq.trans ?_ r5.symm)
          rw [hbase 4 (by omega), hbτ 21 (by omega), ht.1, ht.2.1]
      · rw [t13 4 (by omega) (by omega) (by omega) (by omega) (by omega) (by omega) (by omega) (by omega) (by omega), hbase 4 (by omega)]
      · rw [t13 8 (by omega) (by omega) (by omega) (by omega) (by omega) (by omega) (by omega) (by omega) (by omega), hbase 8 (by omega)]
      · rw [t13 k (by omega) (by omega) (by omega) (by omega) (by omega) (by omega) (by omega) (by omega) z2, hbase k (by omega)]
      · rw [t9, hbase 5 (by omega)]
      · rw [t7, hbase 6 (by omega)]
        show σ 0 6 + nI 0 = _
        rw [nI_0, Int32.add_zero]
      · rw [t8, hbase 7 (by omega)]
        rfl
      · rw [u7, hbτ 7 (by omega)]
      · rw [u11 22 (by omega) (by omega) (by omega) (by omega) (by omega) (by omega) (by omega) (by omega), hb3 22 (by omega)]
      · rw [u11 23 (by omega) (by omega) (by omega) (by omega) (by omega) (by omega) (by omega) (by omega), hb3 23 (by omega)]
      · rw [u11 24 (by omega) (by omega) (by omega) (by omega) (by omega) (by omega) (by omega) (by omega), hb3 24 (by omega)]
      · rw [u11 25 (by omega) (by omega) (by omega) (by omega) (by omega) (by omega) (by omega) (by omega), hb3 25 (by omega)]
      · rw [u11 8 (by omega) (by omega) (by omega) (by omega) (by omega) (by omega) (by omega) (by omega), hbτ 8 (by omega)]
      · rw [u11 9 (by omega) (by omega) (by omega) (by omega) (by omega) (by omega) (by omega) (by omega), hbτ 9 (by omega)]
      · rw [u11 19 (by omega) (by omega) (by omega) (by omega) (by omega) (by omega) (by omega) (by omega), hbτ 19 (by omega)]
      · rw [u11 21 (by omega) (by omega) (by omega) (by omega) (by omega) (by omega) (by omega) (by omega), hbτ 21 (by omega)]
  obtain ⟨m, σ', s1, s2, -⟩ := core τ fun _ _ _ => rfl
  refine ⟨m, σ', s1, s2, fun hm ht h8 => ?_⟩
  obtain ⟨m', σ'', r1, r2, r3⟩ := core (ws (ws τ 22 (τ 22 0 + nI m)) 24 (ws τ 22 (τ 22 0 + nI m) 24 0 + nI 1)) fun i z1 z2 => by rw [ws_o z2, ws_o z1]
  have hE := Option.some.inj (s1.symm.trans r1)
  have hmm : nI m = nI m' := congrArg Prod.fst hE
  have hσσ : σ' = σ'' := congrArg Prod.snd hE
  subst hσσ
  obtain ⟨P', D', τ', v1, v2, v3, v4, v5, v6, ⟨v7, v8, v9⟩, v10, v11, v12, v13, v14, v15, v16, v17, v18⟩ := r3 ht h8
  rw [← hmm] at v1 v7
  refine ⟨P', D', τ', ?_, v2, v3, ⟨?_, ?_, ?_, ?_⟩, v4, v5, v6, v10, v15, v16, v17, v18⟩
  · unfold fX4_serve
    rw [qx_isWrite (by omega) h8, Option.bind_some, s2, Option.bind_some, p_ws, Option.bind_some, if_pos nI_0, p_ws, Option.bind_some]
    exact v1
  · rw [v7, v11, ws_o (by omega), ws_e, hm.1]
  · rw [v8, v12, ws_o (by omega), ws_o (by omega), hm.2.1]
  · rw [v9, v13, ws_e, ws_o (by omega), hm.2.2.1]
  · rw [v6.2.1, v14, ws_o (by omega), ws_o (by omega), hm.2.2.2]
